/-! the model: ties, drag, mate -/
def tgX (x : Int32) : Nat := if x = -1 then 6 else ntX x
def tiS (A P O : Nat → Int32) (ax : Int32) (T : Nat → Int32) (k : Nat) : Nat → Int32 := if A k = ax ∧ (¬ T (ntX (P k)) = 0 ∨ ¬ T (tgX (O k)) = 0) then upd (upd T (ntX (P k)) (nI 1)) (tgX (O k)) (nI 1) else T
def tiK (A P O : Nat → Int32) (ax : Int32) (T : Nat → Int32) : Nat → Nat → Int32
  | 0 => T
  | k + 1 => tiS A P O ax (tiK A P O ax T k) k
def tiR (A P O : Nat → Int32) (ax : Int32) (mc : Nat) (T : Nat → Int32) : Nat → Nat → Int32
  | 0 => T
  | r + 1 => tiK A P O ax (tiR A P O ax mc T r) mc
theorem tiK_0 (A P O : Nat → Int32) (ax : Int32) (T : Nat → Int32) : tiK A P O ax T 0 = T := by rw [tiK]
theorem tiK_s (A P O : Nat → Int32) (ax : Int32) (T : Nat → Int32) (k : Nat) : tiK A P O ax T (k + 1) = tiS A P O ax (tiK A P O ax T k) k := by rw [tiK]
theorem tiR_0 (A P O : Nat → Int32) (ax : Int32) (mc : Nat) (T : Nat → Int32) : tiR A P O ax mc T 0 = T := by rw [tiR]
theorem tiR_s (A P O : Nat → Int32) (ax : Int32) (mc : Nat) (T : Nat → Int32) (r : Nat) : tiR A P O ax mc T (r + 1) = tiK A P O ax (tiR A P O ax mc T r) mc := by rw [tiR]
/-- what is tied to p, out of a row -/
def st0 (r : Nat → Int32) (p : Nat) : Nat → Int32 := cpR (fun k => if k = p then nI 1 else nI 0) r 7
def tiE (M : Mm) (mc : Nat) (ax : Int32) (r : Nat → Int32) (p : Nat) : Nat → Int32 := tiR (mI M 63) (mI M 64) (mI M 65) ax mc (st0 r p) 12
def mtP (M : Mm) (mc : Nat) : Prop := ∀ k, k < mc → (∃ p, p < 6 ∧ mI M 64 k = nI p) ∧ (mI M 65 k = -1 ∨ ∃ p, p < 6 ∧ mI M 65 k = nI p)
set_option maxRecDepth 100000 in
set_option maxHeartbeats 4000000 in
theorem c_X10_ties {l : Launch} {E : Ev} {M : Mm} {p mc : Nat} {ax : Int32} (hp : p < 7) (hmc : mI M 12 31 = nI mc) (hmc12 : mc ≤ 12) (hm : mtP M mc) : Ct l E yX10_ties cX10_ties 6 none 1 0 0 [.ref (eA E 12 0), .int (nI p), .int ax] M (dn (sI M 66 (tiE M mc ax (mI M 66) p))) := by
  refine Ct.of (own := RX10) rfl [some (.ref (eA E 12 0)), some (.int (nI p)), some (.int ax), none, none, none] (by decide) (Nat.le_of_ble_eq_true rfl) rfl ?_
  obtain ⟨w, hw⟩ : ∃ w, w = 12 := ⟨12, rfl⟩
  obtain ⟨s, hs⟩ : ∃ s, s = 7 := ⟨7, rfl⟩
  obtain ⟨G, hG0, hGk, hGr, hG8⟩ : ∃ G : Nat → Nat → Nat → Int32, G 0 0 = cpR (fun k => if k = p then nI 1 else nI 0) (mI M 66) s ∧ (∀ r k, G r (k + 1) = tiS (mI M 63) (mI M 64) (mI M 65) ax (G r k) k) ∧ (∀ r, G (r + 1) 0 = G r mc) ∧ G w 0 = tiE M mc ax (mI M 66) p := ⟨fun r k => tiK (mI M 63) (mI M 64) (mI M 65) ax (tiR (mI M 63) (mI M 64) (mI M 65) ax mc (st0 (mI M 66) p) r) k, by rw [hs]; exact (tiK_0 _ _ _ _ _).trans (tiR_0 _ _ _ _ _ _), fun r k => tiK_s _ _ _ _ _ k, fun r => (tiK_0 _ _ _ _ _).trans (tiR_s _ _ _ _ _ _ r), by rw [hw]; exact tiK_0 _ _ _ _ _⟩
  rw [← hG8]
  clear hG8
  have KR : ∀ r, r ≤ w → ∀ (o4 o5 : Option Value), Jd l E RX10 cX10_ties 6 none [] (rmm 1 0 0) (QfN E (dn (sI M 66 (G w 0))) 0 0) 0 0 32 [some (.ref (eA E 12 0)), some (.int (nI p)), some (.int ax), some (.int (nI r)), o4, o5] [] (sI M 66 (G r 0)) := by
    refine up_to w _ ?_ (fun r hr ihr => ?_)
    · intro o4 o5
      refine j_iln dX10_ties_32 rfl rfl ?_
      refine j_biN 12 dX10_ties_33 rfl ?_
      refine j_icgeN (tgt := 144) dX10_ties_35 (by decide) (by omega) (by omega) (fun h35 => ?_) (fun h35 => ?_)
      · exact j_vret dX10_ties_144 rfl (Nat.le_of_ble_eq_true rfl) (Nat.le_of_ble_eq_true rfl) ⟨rfl, rfl⟩
      · exact absurd (Nat.le_of_eq hw.symm) h35
    · intro o4 o5
      have KK : ∀ k, k ≤ mc → ∀ (o5 : Option Value), Jd l E RX10 cX10_ties 6 none [] (rmm 1 0 0) (QfN E (dn (sI M 66 (G w 0))) 0 0) 0 0 41 [some (.ref (eA E 12 0)), some (.int (nI p)), some (.int ax), some (.int (nI r)), some (.int (nI k)), o5] [] (sI M 66 (G r k)) := by
        refine up_to mc _ ?_ (fun k hk ihk => ?_)
        · intro o5
          refine j_il dX10_ties_41 rfl ?_
          refine j_aln dX10_ties_43 rfl rfl ?_
          refine g_X10_31 dX10_ties_44 fl_X10_237 ?_
          refine j_topi hmc ?_
          refine j_icgeN (tgt := 138) dX10_ties_47 (by decide) (by omega) (by omega) (fun h47 => ?_) (fun h47 => ?_)
          · refine j_incN_3 1 dX10_ties_138 rfl (by decide) rfl ?_
            refine j_goto (tgt := 32) dX10_ties_141 (by decide) ?_
            rw [← hGr r]
            exact ihr _ _
          · exact absurd (Nat.le_refl mc) h47
        · intro o5
          obtain ⟨⟨p9, hp9, hpe⟩, hm2⟩ := hm k hk
          have hp0 : ntX (mI M 64 k) = p9 := by rw [hpe, ntX_nI (by omega)]
          refine j_il dX10_ties_41 rfl ?_
          refine j_aln dX10_ties_43 rfl rfl ?_
          refine g_X10_31 dX10_ties_44 fl_X10_237 ?_
          refine j_topi hmc ?_
          refine j_icgeN (tgt := 138) dX10_ties_47 (by decide) (by omega) (by omega) (fun h47 => ?_) (fun h47 => ?_)
          · exact absurd h47 (by omega)
          · refine j_aln dX10_ties_50 rfl rfl ?_
            refine g_X10_34 dX10_ties_51 fl_X10_87 ?_
            refine j_il dX10_ties_54 rfl ?_
            refine j_aildN dX10_ties_56 rfl rfl rfl (by decide) (by omega) ?_
            refine j_ic (v := (-1)) dX10_ties_57 (by decide) ?_
            refine j_icne (tgt := 66) dX10_ties_58 (by decide) (fun h58 => ?_) (fun h58 => ?_)
            · obtain ⟨q, hq, hqe⟩ := hm2.resolve_left h58
              have ht : tgX (mI M 65 k) = q := by unfold tgX; rw [if_neg (show ¬ mI M 65 k = -1 from h58), hqe, ntX_nI (by omega)]
              have hq7 : q < 7 := by omega
              refine j_aln dX10_ties_66 rfl rfl ?_
              refine g_X10_34 dX10_ties_67 fl_X10_87 ?_
              refine j_il dX10_ties_70 rfl ?_
              refine j_aildN dX10_ties_72 rfl rfl rfl (by decide) (by omega) ?_
              refine j_topi hqe ?_
              refine j_ist_5 dX10_ties_73 (by decide) rfl ?_
              refine j_aln dX10_ties_75 rfl rfl ?_
              refine g_X10_32 dX10_ties_76 fl_X10_81 ?_
              refine j_il dX10_ties_79 rfl ?_
              refine j_aildN dX10_ties_81 rfl rfl rfl (by decide) (by omega) ?_
              refine j_iln dX10_ties_82 rfl rfl ?_
              refine j_icne (tgt := 132) dX10_ties_83 (by decide) (fun h83 => ?_) (fun h83 => ?_)
              · have hg : G r (k + 1) = G r k := by rw [hGk, show (tiS (mI M 63) (mI M 64) (mI M 65) ax (G r k) k) = G r k from if_neg (fun q => h83 q.1)]
                refine j_incN_4 1 dX10_ties_132 rfl (by decide) rfl ?_
                refine j_goto (tgt := 41) dX10_ties_135 (by decide) ?_
                first | (rw [hg] at ihk; exact ihk _) | (refine j_mem ?_ (ihk _); rw [sI_sI, sI_sI, hg]; rfl)
              · refine j_aln dX10_ties_86 rfl rfl ?_
                refine g_X10_35 dX10_ties_87 fl_X10_90 ?_
                refine j_aln dX10_ties_90 rfl rfl ?_
                refine g_X10_33 dX10_ties_91 fl_X10_84 ?_
                refine j_il dX10_ties_94 rfl ?_
                refine j_aildN dX10_ties_96 rfl rfl rfl (by decide) (by omega) ?_
                refine j_topi hpe ?_
                refine j_azldN dX10_ties_97 rfl rfl rfl (by decide) (by omega) ?_
                refine j_ifne (tgt := 111) dX10_ties_98 (by decide) (fun h98 => ?_) (fun h98 => ?_)
                · have hor : ¬ G r k (ntX (mI M 64 k)) = 0 ∨ ¬ G r k (tgX (mI M 65 k)) = 0 := Or.inl (by rw [hp0]; exact h98)
                  have hg : G r (k + 1) = upd (upd (G r k) p9 (nI 1)) (tgX (mI M 65 k)) (nI 1) := by rw [hGk, show (tiS (mI M 63) (mI M 64) (mI M 65) ax (G r k) k) = _ from if_pos ⟨h83, hor⟩, hp0]
                  rw [ht] at hg
                  refine j_aln dX10_ties_111 rfl rfl ?_
                  refine g_X10_35 dX10_ties_112 fl_X10_90 ?_
                  refine j_aln dX10_ties_115 rfl rfl ?_
                  refine g_X10_33 dX10_ties_116 fl_X10_84 ?_
                  refine j_il dX10_ties_119 rfl ?_
                  refine j_aildN dX10_ties_121 rfl rfl rfl (by decide) (by omega) ?_
                  refine j_topi hpe ?_
                  refine j_icN 1 dX10_ties_122 rfl ?_
                  refine j_azstN dX10_ties_123 rfl (fun _ => rfl) rfl (by decide) (by omega) (by decide) ?_
                  refine j_aln dX10_ties_124 rfl rfl ?_
                  refine g_X10_35 dX10_ties_125 fl_X10_90 ?_
                  refine j_il dX10_ties_128 rfl ?_
                  refine j_icN 1 dX10_ties_130 rfl ?_
                  refine j_azstN dX10_ties_131 rfl (fun _ => rfl) rfl (by decide) (by omega) (by decide) ?_
                  refine j_incN_4 1 dX10_ties_132 rfl (by decide) rfl ?_
                  refine j_goto (tgt := 41) dX10_ties_135 (by decide) ?_
                  first | (rw [hg] at ihk; exact ihk _) | (refine j_mem ?_ (ihk _); rw [sI_sI, sI_sI, hg]; rfl)
                · refine j_aln dX10_ties_101 rfl rfl ?_
                  refine g_X10_35 dX10_ties_102 fl_X10_90 ?_
                  refine j_il dX10_ties_105 rfl ?_
                  refine j_azldN dX10_ties_107 rfl rfl rfl (by decide) (by omega) ?_
                  refine j_ifeq (tgt := 132) dX10_ties_108 (by decide) (fun h108 => ?_) (fun h108 => ?_)
                  · have hg : G r (k + 1) = G r k := by rw [hGk, show (tiS (mI M 63) (mI M 64) (mI M 65) ax (G r k) k) = G r k from if_neg (fun z => z.2.elim (fun z => by rw [hp0] at z; exact z h98) (fun z => by rw [ht] at z; exact z h108))]
                    refine j_incN_4 1 dX10_ties_132 rfl (by decide) rfl ?_
                    refine j_goto (tgt := 41) dX10_ties_135 (by decide) ?_
                    first | (rw [hg] at ihk; exact ihk _) | (refine j_mem ?_ (ihk _); rw [sI_sI, sI_sI, hg]; rfl)
                  · have hor : ¬ G r k (ntX (mI M 64 k)) = 0 ∨ ¬ G r k (tgX (mI M 65 k)) = 0 := Or.inr (by rw [ht]; exact h108)
                    have hg : G r (k + 1) = upd (upd (G r k) p9 (nI 1)) (tgX (mI M 65 k)) (nI 1) := by rw [hGk, show (tiS (mI M 63) (mI M 64) (mI M 65) ax (G r k) k) = _ from if_pos ⟨h83, hor⟩, hp0]
                    rw [ht] at hg
                    refine j_aln dX10_ties_111 rfl rfl ?_
                    refine g_X10_35 dX10_ties_112 fl_X10_90 ?_
                    refine j_aln dX10_ties_115 rfl rfl ?_
                    refine g_X10_33 dX10_ties_116 fl_X10_84 ?_
                    refine j_il dX10_ties_119 rfl ?_
                    refine j_aildN dX10_ties_121 rfl rfl rfl (by decide) (by omega) ?_
                    refine j_topi hpe ?_
                    refine j_icN 1 dX10_ties_122 rfl ?_
                    refine j_azstN dX10_ties_123 rfl (fun _ => rfl) rfl (by decide) (by omega) (by decide) ?_
                    refine j_aln dX10_ties_124 rfl rfl ?_
                    refine g_X10_35 dX10_ties_125 fl_X10_90 ?_
                    refine j_il dX10_ties_128 rfl ?_
                    refine j_icN 1 dX10_ties_130 rfl ?_
                    refine j_azstN dX10_ties_131 rfl (fun _ => rfl) rfl (by decide) (by omega) (by decide) ?_
                    refine j_incN_4 1 dX10_ties_132 rfl (by decide) rfl ?_
                    refine j_goto (tgt := 41) dX10_ties_135 (by decide) ?_
                    first | (rw [hg] at ihk; exact ihk _) | (refine j_mem ?_ (ihk _); rw [sI_sI, sI_sI, hg]; rfl)
            · have ht : tgX (mI M 65 k) = 6 := if_pos h58
              refine j_biN 6 dX10_ties_61 rfl ?_
              refine j_goto (tgt := 73) dX10_ties_63 (by decide) ?_
              refine j_ist_5 dX10_ties_73 (by decide) rfl ?_
              refine j_aln dX10_ties_75 rfl rfl ?_
              refine g_X10_32 dX10_ties_76 fl_X10_81 ?_
              refine j_il dX10_ties_79 rfl ?_
              refine j_aildN dX10_ties_81 rfl rfl rfl (by decide) (by omega) ?_
              refine j_iln dX10_ties_82 rfl rfl ?_
              refine j_icne (tgt := 132) dX10_ties_83 (by decide) (fun h83 => ?_) (fun h83 => ?_)
              · have hg : G r (k + 1) = G r k := by rw [hGk, show (tiS (mI M 63) (mI M 64) (mI M 65) ax (G r k) k) = G r k from if_neg (fun q => h83 q.1)]
                refine j_incN_4 1 dX10_ties_132 rfl (by decide) rfl ?_
                refine j_goto (tgt := 41) dX10_ties_135 (by decide) ?_
                first | (rw [hg] at ihk; exact ihk _) | (refine j_mem ?_ (ihk _); rw [sI_sI, sI_sI, hg]; rfl)
              · refine j_aln dX10_ties_86 rfl rfl ?_
                refine g_X10_35 dX10_ties_87 fl_X10_90 ?_
                refine j_aln dX10_ties_90 rfl rfl ?_
                refine g_X10_33 dX10_ties_91 fl_X10_84 ?_
                refine j_il dX10_ties_94 rfl ?_
                refine j_aildN dX10_ties_96 rfl rfl rfl (by decide) (by omega) ?_
                refine j_topi hpe ?_
                refine j_azldN dX10_ties_97 rfl rfl rfl (by decide) (by omega) ?_
                refine j_ifne (tgt := 111) dX10_ties_98 (by decide) (fun h98 => ?_) (fun h98 => ?_)
                · have hor : ¬ G r k (ntX (mI M 64 k)) = 0 ∨ ¬ G r k (tgX (mI M 65 k)) = 0 := Or.inl (by rw [hp0]; exact h98)
                  have hg : G r (k + 1) = upd (upd (G r k) p9 (nI 1)) (tgX (mI M 65 k)) (nI 1) := by rw [hGk, show (tiS (mI M 63) (mI M 64) (mI M 65) ax (G r k) k) = _ from if_pos ⟨h83, hor⟩, hp0]
                  rw [ht] at hg
                  refine j_aln dX10_ties_111 rfl rfl ?_
                  refine g_X10_35 dX10_ties_112 fl_X10_90 ?_
                  refine j_aln dX10_ties_115 rfl rfl ?_
                  refine g_X10_33 dX10_ties_116 fl_X10_84 ?_
                  refine j_il dX10_ties_119 rfl ?_
                  refine j_aildN dX10_ties_121 rfl rfl rfl (by decide) (by omega) ?_
                  refine j_topi hpe ?_
                  refine j_icN 1 dX10_ties_122 rfl ?_
                  refine j_azstN dX10_ties_123 rfl (fun _ => rfl) rfl (by decide) (by omega) (by decide) ?_
                  refine j_aln dX10_ties_124 rfl rfl ?_
                  refine g_X10_35 dX10_ties_125 fl_X10_90 ?_
                  refine j_il dX10_ties_128 rfl ?_
                  refine j_icN 1 dX10_ties_130 rfl ?_
                  refine j_azstN dX10_ties_131 rfl (fun _ => rfl) rfl (by decide) (by omega) (by decide) ?_
                  refine j_incN_4 1 dX10_ties_132 rfl (by decide) rfl ?_
                  refine j_goto (tgt := 41) dX10_ties_135 (by decide) ?_
                  first | (rw [hg] at ihk; exact ihk _) | (refine j_mem ?_ (ihk _); rw [sI_sI, sI_sI, hg]; rfl)
                · refine j_aln dX10_ties_101 rfl rfl ?_
                  refine g_X10_35 dX10_ties_102 fl_X10_90 ?_
                  refine j_il dX10_ties_105 rfl ?_
                  refine j_azldN dX10_ties_107 rfl rfl rfl (by decide) (by omega) ?_
                  refine j_ifeq (tgt := 132) dX10_ties_108 (by decide) (fun h108 => ?_) (fun h108 => ?_)
                  · have hg : G r (k + 1) = G r k := by rw [hGk, show (tiS (mI M 63) (mI M 64) (mI M 65) ax (G r k) k) = G r k from if_neg (fun z => z.2.elim (fun z => by rw [hp0] at z; exact z h98) (fun z => by rw [ht] at z; exact z h108))]
                    refine j_incN_4 1 dX10_ties_132 rfl (by decide) rfl ?_
                    refine j_goto (tgt := 41) dX10_ties_135 (by decide) ?_
                    first | (rw [hg] at ihk; exact ihk _) | (refine j_mem ?_ (ihk _); rw [sI_sI, sI_sI, hg]; rfl)
                  · have hor : ¬ G r k (ntX (mI M 64 k)) = 0 ∨ ¬ G r k (tgX (mI M 65 k)) = 0 := Or.inr (by rw [ht]; exact h108)
                    have hg : G r (k + 1) = upd (upd (G r k) p9 (nI 1)) (tgX (mI M 65 k)) (nI 1) := by rw [hGk, show (tiS (mI M 63) (mI M 64) (mI M 65) ax (G r k) k) = _ from if_pos ⟨h83, hor⟩, hp0]
                    rw [ht] at hg
                    refine j_aln dX10_ties_111 rfl rfl ?_
                    refine g_X10_35 dX10_ties_112 fl_X10_90 ?_
                    refine j_aln dX10_ties_115 rfl rfl ?_
                    refine g_X10_33 dX10_ties_116 fl_X10_84 ?_
                    refine j_il dX10_ties_119 rfl ?_
                    refine j_aildN dX10_ties_121 rfl rfl rfl (by decide) (by omega) ?_
                    refine j_topi hpe ?_
                    refine j_icN 1 dX10_ties_122 rfl ?_
                    refine j_azstN dX10_ties_123 rfl (fun _ => rfl) rfl (by decide) (by omega) (by decide) ?_
                    refine j_aln dX10_ties_124 rfl rfl ?_
                    refine g_X10_35 dX10_ties_125 fl_X10_90 ?_
                    refine j_il dX10_ties_128 rfl ?_
                    refine j_icN 1 dX10_ties_130 rfl ?_
                    refine j_azstN dX10_ties_131 rfl (fun _ => rfl) rfl (by decide) (by omega) (by decide) ?_
                    refine j_incN_4 1 dX10_ties_132 rfl (by decide) rfl ?_
                    refine j_goto (tgt := 41) dX10_ties_135 (by decide) ?_
                    first | (rw [hg] at ihk; exact ihk _) | (refine j_mem ?_ (ihk _); rw [sI_sI, sI_sI, hg]; rfl)
      refine j_iln dX10_ties_32 rfl rfl ?_
      refine j_biN 12 dX10_ties_33 rfl ?_
      refine j_icgeN (tgt := 144) dX10_ties_35 (by decide) (by omega) (by omega) (fun h35 => ?_) (fun h35 => ?_)
      · exact absurd h35 (by omega)
      · refine j_icN 0 dX10_ties_38 rfl ?_
        refine j_ist_4 dX10_ties_39 (by decide) rfl ?_
        exact KK 0 (by omega) _
  have K0 : ∀ k, k ≤ s → Jd l E RX10 cX10_ties 6 none [] (rmm 1 0 0) (QfN E (dn (sI M 66 (G w 0))) 0 0) 0 0 2 [some (.ref (eA E 12 0)), some (.int (nI p)), some (.int ax), some (.int (nI k)), none, none] [] (sI M 66 (cpR (fun k => if k = p then nI 1 else nI 0) (mI M 66) k)) := by
    refine up_to s _ ?_ (fun k hk ih => ?_)
    · skip
      refine j_iln dX10_ties_2 rfl rfl ?_
      refine j_biN 7 dX10_ties_3 rfl ?_
      refine j_icgeN (tgt := 30) dX10_ties_5 (by decide) (by omega) (by omega) (fun h5 => ?_) (fun h5 => ?_)
      · refine j_icN 0 dX10_ties_30 rfl ?_
        refine j_ist_3 dX10_ties_31 (by decide) rfl ?_
        have K0 := KR 0 (by omega) none none
        rw [hG0] at K0
        exact K0
      · exact absurd (Nat.le_of_eq hs.symm) h5
    · skip
      refine j_iln dX10_ties_2 rfl rfl ?_
      refine j_biN 7 dX10_ties_3 rfl ?_
      refine j_icgeN (tgt := 30) dX10_ties_5 (by decide) (by omega) (by omega) (fun h5 => ?_) (fun h5 => ?_)
      · exact absurd h5 (by omega)
      · refine j_aln dX10_ties_8 rfl rfl ?_
        refine g_X10_35 dX10_ties_9 fl_X10_90 ?_
        refine j_iln dX10_ties_12 rfl rfl ?_
        refine j_iln dX10_ties_13 rfl rfl ?_
        refine j_iln dX10_ties_14 rfl rfl ?_
        refine j_icneN (tgt := 22) dX10_ties_15 (by decide) (by omega) (by omega) (fun h15 => ?_) (fun h15 => ?_)
        · have hv : (if k = p then nI 1 else nI 0 : Int32) = nI 0 := if_neg h15
          refine j_icN 0 dX10_ties_22 rfl ?_
          refine j_azstN dX10_ties_23 rfl (fun _ => rfl) rfl (by decide) (by omega) (by decide) ?_
          refine j_incN_3 1 dX10_ties_24 rfl (by decide) rfl ?_
          refine j_goto (tgt := 2) dX10_ties_27 (by decide) ?_
          refine j_mem ?_ ih
          rw [cpR_s, sI_sI]
          rw [show (if k = p then nI 1 else nI 0 : Int32) = _ from hv]
          rfl
        · have hv : (if k = p then nI 1 else nI 0 : Int32) = nI 1 := if_pos h15
          refine j_icN 1 dX10_ties_18 rfl ?_
          refine j_goto (tgt := 23) dX10_ties_19 (by decide) ?_
          refine j_azstN dX10_ties_23 rfl (fun _ => rfl) rfl (by decide) (by omega) (by decide) ?_
          refine j_incN_3 1 dX10_ties_24 rfl (by decide) rfl ?_
          refine j_goto (tgt := 2) dX10_ties_27 (by decide) ?_
          refine j_mem ?_ ih
          rw [cpR_s, sI_sI]
          rw [show (if k = p then nI 1 else nI 0 : Int32) = _ from hv]
          rfl
  refine j_icN 0 dX10_ties_0 rfl ?_
  refine j_ist_3 dX10_ties_1 (by decide) rfl ?_
  have Ki := K0 0 (by omega)
  rw [cpR_0, sI_id] at Ki
  exact Ki
set_option maxRecDepth 100000 in
set_option maxHeartbeats 4000000 in
theorem c_X10_drag {l : Launch} {E : Ev} {M : Mm} {cnt mc : Nat} {x y w : Int32} (hc : mI M 12 27 = nI cnt) (hc6 : cnt ≤ 6) (hmc : mI M 12 31 = nI mc) (hmc12 : mc ≤ 12) (hm : mtP M mc) : Ct l E yX10_drag cX10_drag 4 (some .int) 3 0 0 [.ref (eA E 12 0), .int x, .int y, .int w] M (fun v M1 => (inX x (nI 0) (mI M 12 27 - nI 1) = false ∧ v = some (.int (nI 0)) ∧ M1 = cdM (c0 M) (nI 1)) ∨ (inX x (nI 0) (mI M 12 27 - nI 1) = true ∧ ¬ (in2 y = true ∧ inX w (-20) (nI 20) = true) ∧ v = some (.int (nI 0)) ∧ M1 = cdM (c0 M) (nI 2)) ∨ (inX x (nI 0) (mI M 12 27 - nI 1) = true ∧ (in2 y = true ∧ inX w (-20) (nI 20) = true) ∧ ∃ p a, p < cnt ∧ a < 3 ∧ x = nI p ∧ y = nI a ∧ ((¬ (tiE M mc (nI a) (mI M 66) p) 6 = 0 ∧ v = some (.int (nI 0)) ∧ M1 = cdM (sI (c0 M) 66 (tiE M mc (nI a) (mI M 66) p)) (nI 3)) ∨ ((tiE M mc (nI a) (mI M 66) p) 6 = 0 ∧ w = 0 ∧ v = some (.int (nI 0)) ∧ M1 = (sI (c0 M) 66 (tiE M mc (nI a) (mI M 66) p))) ∨ ((tiE M mc (nI a) (mI M 66) p) 6 = 0 ∧ ¬ w = 0 ∧ v = some (.int (ctK (fun i => (tiE M mc (nI a) (mI M 66) p) i = 0) cnt)) ∧ M1 = sI (sI (c0 M) 66 (tiE M mc (nI a) (mI M 66) p)) 60 (smR (mI M 60) (tiE M mc (nI a) (mI M 66) p) a w cnt))))) := by
  refine Ct.of (own := RX10) rfl [some (.ref (eA E 12 0)), some (.int x), some (.int y), some (.int w)] (by decide) (Nat.le_of_ble_eq_true rfl) rfl ?_
  refine j_aln dX10_drag_0 rfl rfl ?_
  refine j_icN 0 dX10_drag_1 rfl ?_
  refine p_X10_0 dX10_drag_2 fl_X10_96 ?_
  refine j_aln dX10_drag_5 rfl rfl ?_
  refine j_iln dX10_drag_6 rfl rfl ?_
  refine j_V1d mf_X10_isPart ml_X10_234 dX10_drag_7 (Nat.le_of_ble_eq_true rfl) (Nat.le_of_ble_eq_true rfl) (Nat.le_of_ble_eq_true rfl) ⟨(Nat.le_of_ble_eq_true rfl), (Nat.le_of_ble_eq_true rfl)⟩ (by first | assumption | decide | (simp only [nv] at *; omega)) rfl rfl c_X10_isPart ?_
  refine j_ifne (tgt := 19) dX10_drag_10 (by decide) (fun h10 => ?_) (fun h10 => ?_)
  · have hx := bI_ne.mp h10
    refine j_iln dX10_drag_19 rfl rfl ?_
    refine j_icN 0 dX10_drag_20 rfl ?_
    refine j_icN 2 dX10_drag_21 rfl ?_
    refine j_S3d mf_X10_in ml_X10_100 dX10_drag_22 (Nat.le_of_ble_eq_true rfl) (Nat.le_of_ble_eq_true rfl) (Nat.le_of_ble_eq_true rfl) ⟨(Nat.le_of_ble_eq_true rfl), (Nat.le_of_ble_eq_true rfl)⟩ c_X10_in ?_
    refine j_ifeq (tgt := 39) dX10_drag_25 (by decide) (fun h25 => ?_) (fun h25 => ?_)
    · have hno : ¬ (in2 y = true ∧ inX w (-20) (nI 20) = true) := fun q => by have e : in2 y = false := bI_eq.mp h25; rw [q.1] at e; exact absurd e (by decide)
      refine j_aln dX10_drag_39 rfl rfl ?_
      refine j_icN 2 dX10_drag_40 rfl ?_
      refine j_V1d mf_X10_fails ml_X10_112 dX10_drag_41 (Nat.le_of_ble_eq_true rfl) (Nat.le_of_ble_eq_true rfl) (Nat.le_of_ble_eq_true rfl) ⟨(Nat.le_of_ble_eq_true rfl), (Nat.le_of_ble_eq_true rfl)⟩ (by first | assumption | decide | (simp only [nv] at *; omega)) rfl rfl c_X10_fails ?_
      exact j_iret dX10_drag_44 rfl rfl (Nat.le_of_ble_eq_true rfl) (Nat.le_of_ble_eq_true rfl) (Or.inr (Or.inl ⟨hx, hno, rfl, rfl⟩))
    · have hy : in2 y = true := bI_ne.mp h25
      refine j_iln dX10_drag_28 rfl rfl ?_
      refine j_bi (v := (-20)) dX10_drag_29 (by decide) ?_
      refine j_biN 20 dX10_drag_31 rfl ?_
      refine j_S3d mf_X10_in ml_X10_100 dX10_drag_33 (Nat.le_of_ble_eq_true rfl) (Nat.le_of_ble_eq_true rfl) (Nat.le_of_ble_eq_true rfl) ⟨(Nat.le_of_ble_eq_true rfl), (Nat.le_of_ble_eq_true rfl)⟩ c_X10_in ?_
      refine j_ifne (tgt := 45) dX10_drag_36 (by decide) (fun h36 => ?_) (fun h36 => ?_)
      · have hw := bI_ne.mp h36
        obtain ⟨p, hp, hxp⟩ := le_gv (gv := cnt) (by omega) (show inX x (nI 0) (nI cnt - nI 1) = true by rw [← hc]; exact hx)
        subst hxp
        obtain ⟨a, ha, hya⟩ := in2_n hy
        subst hya
        refine j_aln dX10_drag_45 rfl rfl ?_
        refine j_iln dX10_drag_46 rfl rfl ?_
        refine j_iln dX10_drag_47 rfl rfl ?_
        refine j_V2n mf_X10_ties ml_X10_240 dX10_drag_48 (Nat.le_of_ble_eq_true rfl) (Nat.le_of_ble_eq_true rfl) (Nat.le_of_ble_eq_true rfl) ⟨(Nat.le_of_ble_eq_true rfl), (Nat.le_of_ble_eq_true rfl)⟩ (by first | assumption | decide | (simp only [nv] at *; omega)) rfl rfl (c_X10_ties (M := c0 M) (show p < 7 by omega) hmc hmc12 hm) ?_
        refine j_aln dX10_drag_51 rfl rfl ?_
        refine g_X10_35 dX10_drag_52 fl_X10_90 ?_
        refine j_biN 6 dX10_drag_55 rfl ?_
        refine j_azldN dX10_drag_57 rfl rfl rfl (by decide) (by omega) ?_
        refine j_ifeq (tgt := 67) dX10_drag_58 (by decide) (fun h58 => ?_) (fun h58 => ?_)
        · have h6 : (tiE M mc (nI a) (mI M 66) p) 6 = 0 := h58
          refine j_iln dX10_drag_67 rfl rfl ?_
          refine j_ifne (tgt := 75) dX10_drag_68 (by decide) (fun h68 => ?_) (fun h68 => ?_)
          · refine j_aln dX10_drag_75 rfl rfl ?_
            refine j_iln dX10_drag_76 rfl rfl ?_
            refine j_iln dX10_drag_77 rfl rfl ?_
            refine j_V2d mf_X10_shifts ml_X10_243 dX10_drag_78 (Nat.le_of_ble_eq_true rfl) (Nat.le_of_ble_eq_true rfl) (Nat.le_of_ble_eq_true rfl) ⟨(Nat.le_of_ble_eq_true rfl), (Nat.le_of_ble_eq_true rfl)⟩ (by first | assumption | decide | (simp only [nv] at *; omega)) rfl rfl (c_X10_shifts (M := (sI (c0 M) 66 (tiE M mc (nI a) (mI M 66) p))) hc hc6 ha) ?_
            exact j_iret dX10_drag_81 rfl rfl (Nat.le_of_ble_eq_true rfl) (Nat.le_of_ble_eq_true rfl) (by first | exact Or.inr (Or.inr ⟨hx, ⟨hy, hw⟩, p, a, hp, ha, rfl, rfl, Or.inr (Or.inl ⟨h6, h68, rfl, rfl⟩)⟩) | exact Or.inr (Or.inr ⟨hx, ⟨hy, hw⟩, p, a, hp, ha, rfl, rfl, Or.inr (Or.inr ⟨h6, h68, rfl, rfl⟩)⟩))
          · refine j_icN 0 dX10_drag_71 rfl ?_
            refine j_goto (tgt := 81) dX10_drag_72 (by decide) ?_
            exact j_iret dX10_drag_81 rfl rfl (Nat.le_of_ble_eq_true rfl) (Nat.le_of_ble_eq_true rfl) (by first | exact Or.inr (Or.inr ⟨hx, ⟨hy, hw⟩, p, a, hp, ha, rfl, rfl, Or.inr (Or.inl ⟨h6, h68, rfl, rfl⟩)⟩) | exact Or.inr (Or.inr ⟨hx, ⟨hy, hw⟩, p, a, hp, ha, rfl, rfl, Or.inr (Or.inr ⟨h6, h68, rfl, rfl⟩)⟩))
        · have h6 : ¬ (tiE M mc (nI a) (mI M 66) p) 6 = 0 := h58
          refine j_aln dX10_drag_61 rfl rfl ?_
          refine j_icN 3 dX10_drag_62 rfl ?_
          refine j_V1d mf_X10_fails ml_X10_112 dX10_drag_63 (Nat.le_of_ble_eq_true rfl) (Nat.le_of_ble_eq_true rfl) (Nat.le_of_ble_eq_true rfl) ⟨(Nat.le_of_ble_eq_true rfl), (Nat.le_of_ble_eq_true rfl)⟩ (by first | assumption | decide | (simp only [nv] at *; omega)) rfl rfl c_X10_fails ?_
          exact j_iret dX10_drag_66 rfl rfl (Nat.le_of_ble_eq_true rfl) (Nat.le_of_ble_eq_true rfl) (Or.inr (Or.inr ⟨hx, ⟨hy, hw⟩, p, a, hp, ha, rfl, rfl, Or.inl ⟨h6, rfl, rfl⟩⟩))
      · have hno : ¬ (in2 y = true ∧ inX w (-20) (nI 20) = true) := fun q => by have e := bI_eq.mp h36; rw [q.2] at e; exact absurd e (by decide)
        refine j_aln dX10_drag_39 rfl rfl ?_
        refine j_icN 2 dX10_drag_40 rfl ?_
        refine j_V1d mf_X10_fails ml_X10_112 dX10_drag_41 (Nat.le_of_ble_eq_true rfl) (Nat.le_of_ble_eq_true rfl) (Nat.le_of_ble_eq_true rfl) ⟨(Nat.le_of_ble_eq_true rfl), (Nat.le_of_ble_eq_true rfl)⟩ (by first | assumption | decide | (simp only [nv] at *; omega)) rfl rfl c_X10_fails ?_
        exact j_iret dX10_drag_44 rfl rfl (Nat.le_of_ble_eq_true rfl) (Nat.le_of_ble_eq_true rfl) (Or.inr (Or.inl ⟨hx, hno, rfl, rfl⟩))
  · have hx := bI_eq.mp h10
    refine j_aln dX10_drag_13 rfl rfl ?_
    refine j_icN 1 dX10_drag_14 rfl ?_
    refine j_V1d mf_X10_fails ml_X10_112 dX10_drag_15 (Nat.le_of_ble_eq_true rfl) (Nat.le_of_ble_eq_true rfl) (Nat.le_of_ble_eq_true rfl) ⟨(Nat.le_of_ble_eq_true rfl), (Nat.le_of_ble_eq_true rfl)⟩ (by first | assumption | decide | (simp only [nv] at *; omega)) rfl rfl c_X10_fails ?_
    exact j_iret dX10_drag_18 rfl rfl (Nat.le_of_ble_eq_true rfl) (Nat.le_of_ble_eq_true rfl) (Or.inl ⟨hx, rfl, rfl⟩)
