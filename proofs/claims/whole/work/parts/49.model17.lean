/-! the model: whether a number needs itself -/
theorem nI_nm1 {a : Nat} (h : a < 2 ^ 31) : ¬ nI a = -1 := fun q => absurd (show nI a < 0 by rw [q]; decide) (nI_pos h)
theorem or8 : ∀ b, b < 256 → ∀ j, j < 8 → nI b ||| (nI 1 <<< (nI j &&& 31)) = nI (b ||| 2 ^ j) := by decide +kernel
theorem ndx_n {b : Nat} (hb : b < 256) (t : Int32) : ∃ c, c < 256 ∧ b ≤ c ∧ nI b ||| needX t = nI c := by
  unfold needX
  by_cases h : nmd t = true
  · obtain ⟨j, hj, -, h3⟩ := nmd_of h
    rw [if_pos h, h3, or8 b hb j hj]
    exact ⟨b ||| 2 ^ j, Nat.or_lt_two_pow (n := 8) hb (Nat.pow_lt_pow_right (by decide) hj), Nat.left_le_or, rfl⟩
  · rw [if_neg h]
    exact ⟨b, hb, Nat.le_refl _, Int32.or_zero⟩
theorem ndx_0 (s t : Int32) : ∃ c, c < 256 ∧ needX s ||| needX t = nI c := by
  obtain ⟨c, hc, -, e⟩ := ndx_n (b := 0) (by decide) s
  rw [show nI 0 ||| needX s = needX s from Int32.zero_or] at e
  rw [e]
  obtain ⟨d, hd, -, e2⟩ := ndx_n hc t
  exact ⟨d, hd, e2⟩
theorem ndk_n {F S : Nat → Int32} {a : Nat} (ha : a < 256) (k : Nat) : ∃ c, c < 256 ∧ a ≤ c ∧ ndK F S (nI a) k = nI c := by
  induction k with
  | zero => exact ⟨a, ha, Nat.le_refl _, ndK_0 F S (nI a)⟩
  | succ k ih =>
    obtain ⟨c, hc, hac, e⟩ := ih
    rw [ndK_s F S (nI a) k, e]
    by_cases h : hasB (nI c) k = true
    · rw [if_pos h, ← Int32.or_assoc]
      obtain ⟨d, hd, hcd, e2⟩ := ndx_n hc (F k)
      obtain ⟨f, hf, hdf, e3⟩ := ndx_n hd (S k)
      rw [e2, e3]
      exact ⟨f, hf, by omega, rfl⟩
    · rw [if_neg h]
      exact ⟨c, hc, hac, rfl⟩
theorem ndX_t {t : Int32} (h : mT t = true) (h1 : t < nI 100) : nI 0 = needX t := by
  unfold needX
  rw [if_neg (by rw [mT_lt h h1]; decide)]
theorem ndX_f {t : Int32} (h : mT t = true) (h1 : ¬ t < nI 100) : nI 1 <<< ((t - nI 100) &&& 31) = needX t := by
  unfold needX
  rw [if_pos (mT_ge h h1)]
/-- needs, settled -/
def rnP (F S : Nat → Int32) (n : Nat) (v : Option Value) : Prop := ∃ r wf, wf = ndR F S (needX (F n) ||| needX (S n)) r ∧ ndK F S wf 8 = wf ∧ v = some (.int (bI (hasB wf n)))
set_option maxRecDepth 100000 in
set_option maxHeartbeats 4000000 in
theorem c_X10_isRound {l : Launch} {E : Ev} {M : Mm} {n : Nat} (hn : n < 8) (hF : ∀ n, n < 8 → mT (mI M 40 n) = true) (hS : ∀ n, n < 8 → mT (mI M 41 n) = true) : Ct l E yX10_isRound cX10_isRound 5 (some .boolean) 1 0 0 [.ref (eA E 12 0), .int (nI n)] M (fun v M1 => rnP (mI M 40) (mI M 41) n v ∧ M1 = M) := by
  refine Ct.of (own := RX10) rfl [some (.ref (eA E 12 0)), some (.int (nI n)), none, none, none] (by decide) (Nat.le_of_ble_eq_true rfl) rfl ?_
  have T : ∀ (wf b : Int32) (o4 : Option Value) (r : Nat), wf = ndR (mI M 40) (mI M 41) (needX (mI M 40 n) ||| needX (mI M 41 n)) r → ndK (mI M 40) (mI M 41) wf 8 = wf → Jd l E RX10 cX10_isRound 5 (some .boolean) [] (rmm 1 0 0) (QfN E (fun v M1 => rnP (mI M 40) (mI M 41) n v ∧ M1 = M) 0 0) 0 0 160 [some (.ref (eA E 12 0)), some (.int (nI n)), some (.int wf), some (.int b), o4] [] M := by
    intro wf b o4 r hr hfx
    refine j_iln dX10_isRound_160 rfl rfl ?_
    refine j_iln dX10_isRound_161 rfl rfl ?_
    refine j_ishr dX10_isRound_162 ?_
    refine j_icN 1 dX10_isRound_163 rfl ?_
    refine j_iand dX10_isRound_164 ?_
    refine j_icN 1 dX10_isRound_165 rfl ?_
    refine j_icne (tgt := 173) dX10_isRound_166 (by decide) (fun h166 => ?_) (fun h166 => ?_)
    · refine j_icN 0 dX10_isRound_173 rfl ?_
      exact j_iret dX10_isRound_174 rfl (by decide) (Nat.le_of_ble_eq_true rfl) (Nat.le_of_ble_eq_true rfl) ⟨⟨r, wf, hr, hfx, by first | (rw [show hasB wf n = true from decide_eq_true h166]; rfl) | (rw [show hasB wf n = false from decide_eq_false h166]; rfl)⟩, rfl⟩
    · refine j_icN 1 dX10_isRound_169 rfl ?_
      refine j_goto (tgt := 174) dX10_isRound_170 (by decide) ?_
      exact j_iret dX10_isRound_174 rfl (by decide) (Nat.le_of_ble_eq_true rfl) (Nat.le_of_ble_eq_true rfl) ⟨⟨r, wf, hr, hfx, by first | (rw [show hasB wf n = true from decide_eq_true h166]; rfl) | (rw [show hasB wf n = false from decide_eq_false h166]; rfl)⟩, rfl⟩
  have T2 : ∀ (wf : Int32) (o4 : Option Value) (r : Nat), wf = ndR (mI M 40) (mI M 41) (needX (mI M 40 n) ||| needX (mI M 41 n)) r → ndK (mI M 40) (mI M 41) wf 8 = wf → Jd l E RX10 cX10_isRound 5 (some .boolean) [] (rmm 1 0 0) (QfN E (fun v M1 => rnP (mI M 40) (mI M 41) n v ∧ M1 = M) 0 0) 0 0 62 [some (.ref (eA E 12 0)), some (.int (nI n)), some (.int wf), some (.int wf), o4] [] M := by
    intro wf o4 r hr hfx
    refine j_iln dX10_isRound_62 rfl rfl ?_
    refine j_iln dX10_isRound_63 rfl rfl ?_
    refine j_iceq (tgt := 160) dX10_isRound_64 (by decide) (fun h64 => ?_) (fun h64 => ?_)
    · exact T wf wf o4 r hr hfx
    · exact absurd rfl h64
  have KW : ∀ (f a r : Nat) (b : Int32) (o4 : Option Value), 256 - a ≤ f → a < 256 → nI a = ndR (mI M 40) (mI M 41) (needX (mI M 40 n) ||| needX (mI M 41 n)) r → ¬ nI a = b → Jd l E RX10 cX10_isRound 5 (some .boolean) [] (rmm 1 0 0) (QfN E (fun v M1 => rnP (mI M 40) (mI M 41) n v ∧ M1 = M) 0 0) 0 0 62 [some (.ref (eA E 12 0)), some (.int (nI n)), some (.int (nI a)), some (.int b), o4] [] M := by
    intro f
    induction f with
    | zero => exact fun a r b o4 h1 h2 => absurd h1 (by omega)
    | succ f ihf =>
      intro a r b o4 hf ha hr hb
      obtain ⟨c, hc, hac, ec⟩ := ndk_n (F := (mI M 40)) (S := (mI M 41)) ha 8
      obtain ⟨G, hG0, hGs, hG8⟩ : ∃ G : Int32 → Nat → Int32, (∀ x, G x 0 = x) ∧ (∀ x k, G x (k + 1) = if hasB (G x k) k = true then G x k ||| (needX (mI M 40 k) ||| needX (mI M 41 k)) else G x k) ∧ (∀ x, ndK (mI M 40) (mI M 41) x 8 = G x 8) := ⟨fun x k => ndK (mI M 40) (mI M 41) x k, ndK_0 _ _, fun x k => ndK_s _ _ x k, fun _ => rfl⟩
      have hE : ∀ o4, Jd l E RX10 cX10_isRound 5 (some .boolean) [] (rmm 1 0 0) (QfN E (fun v M1 => rnP (mI M 40) (mI M 41) n v ∧ M1 = M) 0 0) 0 0 62 [some (.ref (eA E 12 0)), some (.int (nI n)), some (.int (G (nI a) 8)), some (.int (nI a)), o4] [] M := by
        intro o4
        by_cases hq : c = a
        · rw [← hG8, ec, hq]
          exact T2 (nI a) o4 r hr (by rw [ec, hq])
        · rw [← hG8, ec]
          exact ihf c (r + 1) (nI a) o4 (by omega) hc (by rw [ndR_s, ← hr, ec]) (fun q => hq ((nI_eq (by omega) (by omega)).mp q))
      have KK : ∀ k, k ≤ 8 → Jd l E RX10 cX10_isRound 5 (some .boolean) [] (rmm 1 0 0) (QfN E (fun v M1 => rnP (mI M 40) (mI M 41) n v ∧ M1 = M) 0 0) 0 0 72 [some (.ref (eA E 12 0)), some (.int (nI n)), some (.int (G (nI a) k)), some (.int (nI a)), some (.int (nI k))] [] M := by
        refine up_to 8 _ ?_ (fun k hk ihk => ?_)
        · skip
          refine j_il dX10_isRound_72 rfl ?_
          refine j_biN 8 dX10_isRound_74 rfl ?_
          refine j_icgeN (tgt := 157) dX10_isRound_76 (by decide) (by omega) (by omega) (fun h76 => ?_) (fun h76 => ?_)
          · refine j_goto (tgt := 62) dX10_isRound_157 (by decide) ?_
            exact hE _
          · exact absurd (Nat.le_refl 8) h76
        · skip
          refine j_il dX10_isRound_72 rfl ?_
          refine j_biN 8 dX10_isRound_74 rfl ?_
          refine j_icgeN (tgt := 157) dX10_isRound_76 (by decide) (by omega) (by omega) (fun h76 => ?_) (fun h76 => ?_)
          · exact absurd h76 (by omega)
          · refine j_iln dX10_isRound_79 rfl rfl ?_
            refine j_il dX10_isRound_80 rfl ?_
            refine j_ishr dX10_isRound_82 ?_
            refine j_icN 1 dX10_isRound_83 rfl ?_
            refine j_iand dX10_isRound_84 ?_
            refine j_icN 1 dX10_isRound_85 rfl ?_
            refine j_icne (tgt := 151) dX10_isRound_86 (by decide) (fun h86 => ?_) (fun h86 => ?_)
            · have hg : G (nI a) (k + 1) = (G (nI a) k) := by rw [hGs, if_neg (show ¬ hasB _ _ = true from fun q => h86 (of_decide_eq_true q))]
              refine j_incN_4 1 dX10_isRound_151 rfl (by decide) rfl ?_
              refine j_goto (tgt := 72) dX10_isRound_154 (by decide) ?_
              first | (rw [hg] at ihk; exact ihk) | (rw [hg, ← Int32.or_assoc] at ihk; exact ihk)
            · have hg : G (nI a) (k + 1) = (G (nI a) k) ||| (needX (mI M 40 k) ||| needX (mI M 41 k)) := by rw [hGs, if_pos (show hasB _ _ = true from decide_eq_true h86)]
              refine j_iln dX10_isRound_89 rfl rfl ?_
              refine j_aln dX10_isRound_90 rfl rfl ?_
              refine g_X10_1 dX10_isRound_91 fl_X10_7 ?_
              refine j_il dX10_isRound_94 rfl ?_
              refine j_aildN dX10_isRound_96 rfl rfl rfl (by decide) (by omega) ?_
              refine j_biN 100 dX10_isRound_97 rfl ?_
              refine j_iclt (tgt := 117) dX10_isRound_99 (by decide) (fun h99 => ?_) (fun h99 => ?_)
              · have hn1 := ndX_t (hF k hk) h99
                refine j_icN 0 dX10_isRound_117 rfl ?_
                refine j_topi hn1 ?_
                refine j_ior dX10_isRound_118 ?_
                refine j_ist_2 dX10_isRound_119 (by decide) rfl ?_
                refine j_iln dX10_isRound_120 rfl rfl ?_
                refine j_aln dX10_isRound_121 rfl rfl ?_
                refine g_X10_2 dX10_isRound_122 fl_X10_13 ?_
                refine j_il dX10_isRound_125 rfl ?_
                refine j_aildN dX10_isRound_127 rfl rfl rfl (by decide) (by omega) ?_
                refine j_biN 100 dX10_isRound_128 rfl ?_
                refine j_iclt (tgt := 148) dX10_isRound_130 (by decide) (fun h130 => ?_) (fun h130 => ?_)
                · have hn2 := ndX_t (hS k hk) h130
                  refine j_icN 0 dX10_isRound_148 rfl ?_
                  refine j_topi hn2 ?_
                  refine j_ior dX10_isRound_149 ?_
                  refine j_ist_2 dX10_isRound_150 (by decide) rfl ?_
                  refine j_incN_4 1 dX10_isRound_151 rfl (by decide) rfl ?_
                  refine j_goto (tgt := 72) dX10_isRound_154 (by decide) ?_
                  first | (rw [hg] at ihk; exact ihk) | (rw [hg, ← Int32.or_assoc] at ihk; exact ihk)
                · have hn2 := ndX_f (hS k hk) h130
                  refine j_icN 1 dX10_isRound_133 rfl ?_
                  refine j_aln dX10_isRound_134 rfl rfl ?_
                  refine g_X10_2 dX10_isRound_135 fl_X10_13 ?_
                  refine j_il dX10_isRound_138 rfl ?_
                  refine j_aildN dX10_isRound_140 rfl rfl rfl (by decide) (by omega) ?_
                  refine j_biN 100 dX10_isRound_141 rfl ?_
                  refine j_isub dX10_isRound_143 ?_
                  refine j_ishl dX10_isRound_144 ?_
                  refine j_goto (tgt := 149) dX10_isRound_145 (by decide) ?_
                  refine j_topi hn2 ?_
                  refine j_ior dX10_isRound_149 ?_
                  refine j_ist_2 dX10_isRound_150 (by decide) rfl ?_
                  refine j_incN_4 1 dX10_isRound_151 rfl (by decide) rfl ?_
                  refine j_goto (tgt := 72) dX10_isRound_154 (by decide) ?_
                  first | (rw [hg] at ihk; exact ihk) | (rw [hg, ← Int32.or_assoc] at ihk; exact ihk)
              · have hn1 := ndX_f (hF k hk) h99
                refine j_icN 1 dX10_isRound_102 rfl ?_
                refine j_aln dX10_isRound_103 rfl rfl ?_
                refine g_X10_1 dX10_isRound_104 fl_X10_7 ?_
                refine j_il dX10_isRound_107 rfl ?_
                refine j_aildN dX10_isRound_109 rfl rfl rfl (by decide) (by omega) ?_
                refine j_biN 100 dX10_isRound_110 rfl ?_
                refine j_isub dX10_isRound_112 ?_
                refine j_ishl dX10_isRound_113 ?_
                refine j_goto (tgt := 118) dX10_isRound_114 (by decide) ?_
                refine j_topi hn1 ?_
                refine j_ior dX10_isRound_118 ?_
                refine j_ist_2 dX10_isRound_119 (by decide) rfl ?_
                refine j_iln dX10_isRound_120 rfl rfl ?_
                refine j_aln dX10_isRound_121 rfl rfl ?_
                refine g_X10_2 dX10_isRound_122 fl_X10_13 ?_
                refine j_il dX10_isRound_125 rfl ?_
                refine j_aildN dX10_isRound_127 rfl rfl rfl (by decide) (by omega) ?_
                refine j_biN 100 dX10_isRound_128 rfl ?_
                refine j_iclt (tgt := 148) dX10_isRound_130 (by decide) (fun h130 => ?_) (fun h130 => ?_)
                · have hn2 := ndX_t (hS k hk) h130
                  refine j_icN 0 dX10_isRound_148 rfl ?_
                  refine j_topi hn2 ?_
                  refine j_ior dX10_isRound_149 ?_
                  refine j_ist_2 dX10_isRound_150 (by decide) rfl ?_
                  refine j_incN_4 1 dX10_isRound_151 rfl (by decide) rfl ?_
                  refine j_goto (tgt := 72) dX10_isRound_154 (by decide) ?_
                  first | (rw [hg] at ihk; exact ihk) | (rw [hg, ← Int32.or_assoc] at ihk; exact ihk)
                · have hn2 := ndX_f (hS k hk) h130
                  refine j_icN 1 dX10_isRound_133 rfl ?_
                  refine j_aln dX10_isRound_134 rfl rfl ?_
                  refine g_X10_2 dX10_isRound_135 fl_X10_13 ?_
                  refine j_il dX10_isRound_138 rfl ?_
                  refine j_aildN dX10_isRound_140 rfl rfl rfl (by decide) (by omega) ?_
                  refine j_biN 100 dX10_isRound_141 rfl ?_
                  refine j_isub dX10_isRound_143 ?_
                  refine j_ishl dX10_isRound_144 ?_
                  refine j_goto (tgt := 149) dX10_isRound_145 (by decide) ?_
                  refine j_topi hn2 ?_
                  refine j_ior dX10_isRound_149 ?_
                  refine j_ist_2 dX10_isRound_150 (by decide) rfl ?_
                  refine j_incN_4 1 dX10_isRound_151 rfl (by decide) rfl ?_
                  refine j_goto (tgt := 72) dX10_isRound_154 (by decide) ?_
                  first | (rw [hg] at ihk; exact ihk) | (rw [hg, ← Int32.or_assoc] at ihk; exact ihk)
      have KK0 := KK 0 (by omega)
      rw [hG0] at KK0
      refine j_iln dX10_isRound_62 rfl rfl ?_
      refine j_iln dX10_isRound_63 rfl rfl ?_
      refine j_iceq (tgt := 160) dX10_isRound_64 (by decide) (fun h64 => ?_) (fun h64 => ?_)
      · exact absurd h64.symm hb
      · refine j_iln dX10_isRound_67 rfl rfl ?_
        refine j_ist_3 dX10_isRound_68 (by decide) rfl ?_
        refine j_icN 0 dX10_isRound_69 rfl ?_
        refine j_ist_4 dX10_isRound_70 (by decide) rfl ?_
        exact KK0
  obtain ⟨c, hc, ec⟩ := ndx_0 (mI M 40 n) (mI M 41 n)
  refine j_icN 0 dX10_isRound_0 rfl ?_
  refine j_ist_2 dX10_isRound_1 (by decide) rfl ?_
  refine j_ic (v := (-1)) dX10_isRound_2 (by decide) ?_
  refine j_ist_3 dX10_isRound_3 (by decide) rfl ?_
  refine j_iln dX10_isRound_4 rfl rfl ?_
  refine j_aln dX10_isRound_5 rfl rfl ?_
  refine g_X10_1 dX10_isRound_6 fl_X10_7 ?_
  refine j_iln dX10_isRound_9 rfl rfl ?_
  refine j_aildN dX10_isRound_10 rfl rfl rfl (by decide) (by omega) ?_
  refine j_biN 100 dX10_isRound_11 rfl ?_
  refine j_iclt (tgt := 30) dX10_isRound_13 (by decide) (fun h13 => ?_) (fun h13 => ?_)
  · have hn1 := ndX_t (hF n hn) h13
    refine j_icN 0 dX10_isRound_30 rfl ?_
    refine j_topi hn1 ?_
    refine j_ior dX10_isRound_31 ?_
    refine j_ist_2 dX10_isRound_32 (by decide) rfl ?_
    refine j_iln dX10_isRound_33 rfl rfl ?_
    refine j_aln dX10_isRound_34 rfl rfl ?_
    refine g_X10_2 dX10_isRound_35 fl_X10_13 ?_
    refine j_iln dX10_isRound_38 rfl rfl ?_
    refine j_aildN dX10_isRound_39 rfl rfl rfl (by decide) (by omega) ?_
    refine j_biN 100 dX10_isRound_40 rfl ?_
    refine j_iclt (tgt := 59) dX10_isRound_42 (by decide) (fun h42 => ?_) (fun h42 => ?_)
    · have hn2 := ndX_t (hS n hn) h42
      refine j_icN 0 dX10_isRound_59 rfl ?_
      refine j_topi hn2 ?_
      refine j_ior dX10_isRound_60 ?_
      refine j_ist_2 dX10_isRound_61 (by decide) rfl ?_
      refine j_eq (congrArg (fun q => [_, _, some (Value.int q), _, _]) (show nI 0 ||| needX (mI M 40 n) ||| needX (mI M 41 n) = nI c by rw [show nI 0 ||| needX (mI M 40 n) = needX (mI M 40 n) from Int32.zero_or, ec])) rfl rfl ?_
      exact KW 256 c 0 _ _ (by omega) hc (by rw [ndR_0, ec]) (fun q => absurd q (nI_nm1 (by omega)))
    · have hn2 := ndX_f (hS n hn) h42
      refine j_icN 1 dX10_isRound_45 rfl ?_
      refine j_aln dX10_isRound_46 rfl rfl ?_
      refine g_X10_2 dX10_isRound_47 fl_X10_13 ?_
      refine j_iln dX10_isRound_50 rfl rfl ?_
      refine j_aildN dX10_isRound_51 rfl rfl rfl (by decide) (by omega) ?_
      refine j_biN 100 dX10_isRound_52 rfl ?_
      refine j_isub dX10_isRound_54 ?_
      refine j_ishl dX10_isRound_55 ?_
      refine j_goto (tgt := 60) dX10_isRound_56 (by decide) ?_
      refine j_topi hn2 ?_
      refine j_ior dX10_isRound_60 ?_
      refine j_ist_2 dX10_isRound_61 (by decide) rfl ?_
      refine j_eq (congrArg (fun q => [_, _, some (Value.int q), _, _]) (show nI 0 ||| needX (mI M 40 n) ||| needX (mI M 41 n) = nI c by rw [show nI 0 ||| needX (mI M 40 n) = needX (mI M 40 n) from Int32.zero_or, ec])) rfl rfl ?_
      exact KW 256 c 0 _ _ (by omega) hc (by rw [ndR_0, ec]) (fun q => absurd q (nI_nm1 (by omega)))
  · have hn1 := ndX_f (hF n hn) h13
    refine j_icN 1 dX10_isRound_16 rfl ?_
    refine j_aln dX10_isRound_17 rfl rfl ?_
    refine g_X10_1 dX10_isRound_18 fl_X10_7 ?_
    refine j_iln dX10_isRound_21 rfl rfl ?_
    refine j_aildN dX10_isRound_22 rfl rfl rfl (by decide) (by omega) ?_
    refine j_biN 100 dX10_isRound_23 rfl ?_
    refine j_isub dX10_isRound_25 ?_
    refine j_ishl dX10_isRound_26 ?_
    refine j_goto (tgt := 31) dX10_isRound_27 (by decide) ?_
    refine j_topi hn1 ?_
    refine j_ior dX10_isRound_31 ?_
    refine j_ist_2 dX10_isRound_32 (by decide) rfl ?_
    refine j_iln dX10_isRound_33 rfl rfl ?_
    refine j_aln dX10_isRound_34 rfl rfl ?_
    refine g_X10_2 dX10_isRound_35 fl_X10_13 ?_
    refine j_iln dX10_isRound_38 rfl rfl ?_
    refine j_aildN dX10_isRound_39 rfl rfl rfl (by decide) (by omega) ?_
    refine j_biN 100 dX10_isRound_40 rfl ?_
    refine j_iclt (tgt := 59) dX10_isRound_42 (by decide) (fun h42 => ?_) (fun h42 => ?_)
    · have hn2 := ndX_t (hS n hn) h42
      refine j_icN 0 dX10_isRound_59 rfl ?_
      refine j_topi hn2 ?_
      refine j_ior dX10_isRound_60 ?_
      refine j_ist_2 dX10_isRound_61 (by decide) rfl ?_
      refine j_eq (congrArg (fun q => [_, _, some (Value.int q), _, _]) (show nI 0 ||| needX (mI M 40 n) ||| needX (mI M 41 n) = nI c by rw [show nI 0 ||| needX (mI M 40 n) = needX (mI M 40 n) from Int32.zero_or, ec])) rfl rfl ?_
      exact KW 256 c 0 _ _ (by omega) hc (by rw [ndR_0, ec]) (fun q => absurd q (nI_nm1 (by omega)))
    · have hn2 := ndX_f (hS n hn) h42
      refine j_icN 1 dX10_isRound_45 rfl ?_
      refine j_aln dX10_isRound_46 rfl rfl ?_
      refine g_X10_2 dX10_isRound_47 fl_X10_13 ?_
      refine j_iln dX10_isRound_50 rfl rfl ?_
      refine j_aildN dX10_isRound_51 rfl rfl rfl (by decide) (by omega) ?_
      refine j_biN 100 dX10_isRound_52 rfl ?_
      refine j_isub dX10_isRound_54 ?_
      refine j_ishl dX10_isRound_55 ?_
      refine j_goto (tgt := 60) dX10_isRound_56 (by decide) ?_
      refine j_topi hn2 ?_
      refine j_ior dX10_isRound_60 ?_
      refine j_ist_2 dX10_isRound_61 (by decide) rfl ?_
      refine j_eq (congrArg (fun q => [_, _, some (Value.int q), _, _]) (show nI 0 ||| needX (mI M 40 n) ||| needX (mI M 41 n) = nI c by rw [show nI 0 ||| needX (mI M 40 n) = needX (mI M 40 n) from Int32.zero_or, ec])) rfl rfl ?_
      exact KW 256 c 0 _ _ (by omega) hc (by rw [ndR_0, ec]) (fun q => absurd q (nI_nm1 (by omega)))
