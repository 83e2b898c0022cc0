/-! the model: faults -/
theorem cn_ex {S S' : Nat → Prop} (h : ∀ j, j < 512 → (S j ↔ S' j)) (c a : Nat) : cn S c a ↔ cn S' c a := ⟨cn_mo fun x hx => (h x hx).mp, cn_mo fun x hx => (h x hx).mpr⟩
theorem npc_ex {S S' : Nat → Prop} (h : ∀ j, j < 512 → (S j ↔ S' j)) : npc S = npc S' := by
  refine cN_ext fun j hj => ?_
  by_cases q : S j ∧ ∀ d, d < j → S d → ¬ cn S d j
  · rw [rep_t q, rep_t ⟨(h j hj).mp q.1, fun d hd hS g => q.2 d hd ((h d (by omega)).mpr hS) ((cn_ex h d j).mpr g)⟩]
  · rw [rep_f q, rep_f (fun g => q ⟨(h j hj).mpr g.1, fun d hd hS g2 => g.2 d hd ((h d (by omega)).mp hS) ((cn_ex h d j).mp g2)⟩)]
theorem cN_z {f : Nat → Bool} {k : Nat} (h : ∀ j, j < k → f j = false) : cN f k = 0 := by
  induction k with
  | zero => exact cN_0 f
  | succ k ih => rw [cN_s, ih fun j hj => h j (by omega), h k (by omega)]; rfl
theorem cN_p {f : Nat → Bool} {k i : Nat} (hi : i < k) (h : f i = true) : 0 < cN f k := by
  induction k with
  | zero => omega
  | succ k ih =>
    rw [cN_s]
    by_cases e : i = k
    · subst e; rw [if_pos h]; omega
    · have := ih (by omega); omega
theorem npc_z {S : Nat → Prop} (h : ∀ j, j < 512 → ¬ S j) : npc S = 0 := cN_z fun j hj => rep_f fun q => h j hj q.1
theorem npc_p {S : Nat → Prop} {i : Nat} (hi : i < 512) (h : S i) : 0 < npc S := by
  have key : ∀ n i, i ≤ n → i < 512 → S i → 0 < npc S := by
    intro n
    induction n with
    | zero =>
      intro i h1 h2 h3
      obtain rfl : i = 0 := by omega
      exact cN_p h2 (rep_t ⟨h3, fun d hd => absurd hd (by omega)⟩)
    | succ n ih =>
      intro i h1 h2 h3
      by_cases q : ∃ d, d < i ∧ S d
      · obtain ⟨d, hd, hS⟩ := q
        exact ih d (by omega) (by omega) hS
      · exact cN_p h2 (rep_t ⟨h3, fun d hd hS => absurd ⟨d, hd, hS⟩ q⟩)
  exact key i i (Nat.le_refl _) hi h
theorem sdX_in (x : Int32) : sdX x = in5 x := by
  unfold sdX in5 inX
  exact decide_eq_decide.mpr (and_congr Iff.rfl (not_congr (by rw [Int32.le_iff_toInt_le, Int32.lt_iff_toInt_lt, nI_toInt (by decide), nI_toInt (by decide)]; omega)))
theorem axX_in (x : Int32) : axX x = in2 x := by
  unfold axX in2 inX
  exact decide_eq_decide.mpr (and_congr Iff.rfl (not_congr (by rw [Int32.le_iff_toInt_le, Int32.lt_iff_toInt_lt, nI_toInt (by decide), nI_toInt (by decide)]; omega)))
theorem uf_b {kd : Int32} {a : Nat → Int32} (h : bxK kd) : unX kd a = decide (a 3 < nI 1 ∨ a 4 < nI 1 ∨ a 5 < nI 1) := if_pos h
theorem nb_m : ¬ bxK (nI 109) := by decide
theorem nb_p : ¬ bxK (nI 112) := by decide
theorem nb_e : ¬ bxK (nI 101) := by decide
theorem uf_m {kd : Int32} {a : Nat → Int32} (h : kd = nI 109) : unX kd a = !in2 (a 0) := by
  subst h; unfold unX; rw [if_neg nb_m, if_pos rfl, axX_in]
theorem uf_p {kd : Int32} {a : Nat → Int32} (h : kd = nI 112) : unX kd a = decide (a 3 < 0) := by
  subst h; unfold unX; rw [if_neg nb_p, if_neg (by decide), if_pos rfl]
theorem uf_e {kd : Int32} {a : Nat → Int32} (h : kd = nI 101) : unX kd a = (!in5 (a 1) || decide (a 2 < 0)) := by
  subst h; unfold unX; rw [if_neg nb_e, if_neg (by decide), if_neg (by decide), if_pos rfl, sdX_in]
theorem uf_o {kd : Int32} {a : Nat → Int32} (h1 : ¬ bxK kd) (h2 : ¬ kd = nI 109) (h3 : ¬ kd = nI 112) (h4 : ¬ kd = nI 101) : unX kd a = false := by
  unfold unX; rw [if_neg h1, if_neg h2, if_neg h3, if_neg h4]
def mkX (M : Mm) (f s j : Nat) : Bool := isqX M j s && decide (mI M 56 (6 * j + s) = dmX M f 0)
def flE (p : Nat) : Int32 := if p = 0 then nI 108 else if p = 1 then nI 45 else nI 100
def fauP (M : Mm) (f : Nat) (w : Int32) (M1 : Mm) : Prop := (unX (mI M 45 f) (dmX M f) = true ∧ w = nI 120) ∨ (unX (mI M 45 f) (dmX M f) = false ∧ ¬ mI M 45 f = nI 101 ∧ w = nI 45) ∨
  (unX (mI M 45 f) (dmX M f) = false ∧ mI M 45 f = nI 101 ∧ ∃ s, s < 6 ∧ dmX M f 1 = nI s ∧ (∀ j, j < 512 → mI M1 57 j = bI (mkX M f s j)) ∧ w = flE (npc (fun j => mkX M f s j = true)))
theorem bI01 (b : Bool) : bI b = 0 ∨ bI b = nI 1 := by cases b; exact Or.inl rfl; exact Or.inr rfl
set_option maxRecDepth 100000 in
set_option maxHeartbeats 4000000 in
theorem c_X10_fault {l : Launch} {E : Ev} {M : Mm} {f : Nat} (hf : f < 40) (ht : ∀ w, w < 6 → mT (mI M 46 (6 * f + w)) = true) : Ct l E yX10_fault cX10_fault 7 (some .char) 6 0 0 [.ref (eA E 12 0), .int (nI f)] M (fun v M1 => mFr M M1 (fun t => t = 55 ∨ t = 57 ∨ t = 67) ∧ ∃ w, v = some (.int w) ∧ fauP M f w M1) := by
  refine Ct.of (own := RX10) rfl [some (.ref (eA E 12 0)), some (.int (nI f)), none, none, none, none, none] (by decide) (Nat.le_of_ble_eq_true rfl) rfl ?_
  have TE : ∀ (x3 : Int32) (o4 o5 o6 : Option Value), (mI M 45 f) = nI 101 → Jd l E RX10 cX10_fault 7 (some .char) [] (rmm 6 0 0) (QfN E (fun v M1 => mFr M M1 (fun t => t = 55 ∨ t = 57 ∨ t = 67) ∧ ∃ w, v = some (.int w) ∧ fauP M f w M1) 0 0) 0 0 115 [some (.ref (eA E 12 0)), some (.int (nI f)), some (.int (mI M 45 f)), some (.int x3), o4, o5, o6] [] M := by
    intro x3 o4 o5 o6 hk
    refine j_aln dX10_fault_115 rfl rfl ?_
    refine j_iln dX10_fault_116 rfl rfl ?_
    refine j_icN 1 dX10_fault_117 rfl ?_
    refine j_V2d mf_X10_dimension ml_X10_146 dX10_fault_118 (Nat.le_of_ble_eq_true rfl) (Nat.le_of_ble_eq_true rfl) (Nat.le_of_ble_eq_true rfl) ⟨(Nat.le_of_ble_eq_true rfl), (Nat.le_of_ble_eq_true rfl)⟩ (by first | assumption | decide | (simp only [nv] at *; omega)) rfl rfl (c_X10_dimension (w := 1) hf (by decide) (ht 1 (by decide))) ?_
    refine j_ist_4 dX10_fault_121 (by decide) rfl ?_
    refine j_il dX10_fault_123 rfl ?_
    refine j_icN 0 dX10_fault_125 rfl ?_
    refine j_icN 5 dX10_fault_126 rfl ?_
    refine j_S3d mf_X10_in ml_X10_100 dX10_fault_127 (Nat.le_of_ble_eq_true rfl) (Nat.le_of_ble_eq_true rfl) (Nat.le_of_ble_eq_true rfl) ⟨(Nat.le_of_ble_eq_true rfl), (Nat.le_of_ble_eq_true rfl)⟩ c_X10_in ?_
    refine j_ifeq (tgt := 142) dX10_fault_130 (by decide) (fun h130 => ?_) (fun h130 => ?_)
    · have hun : unX (mI M 45 f) (dmX M f) = true := by rw [uf_e hk, show in5 (dmX M f 1) = false from bI_eq.mp h130]; rfl
      refine j_biN 120 dX10_fault_142 rfl ?_
      exact j_iret dX10_fault_144 rfl (by decide) (Nat.le_of_ble_eq_true rfl) (Nat.le_of_ble_eq_true rfl) ⟨⟨rfl, fun _ _ => rfl⟩, nI 120, rfl, Or.inl ⟨hun, rfl⟩⟩
    · have hin : in5 (dmX M f 1) = true := bI_ne.mp h130
      refine j_aln dX10_fault_133 rfl rfl ?_
      refine j_iln dX10_fault_134 rfl rfl ?_
      refine j_icN 2 dX10_fault_135 rfl ?_
      refine j_V2d mf_X10_dimension ml_X10_146 dX10_fault_136 (Nat.le_of_ble_eq_true rfl) (Nat.le_of_ble_eq_true rfl) (Nat.le_of_ble_eq_true rfl) ⟨(Nat.le_of_ble_eq_true rfl), (Nat.le_of_ble_eq_true rfl)⟩ (by first | assumption | decide | (simp only [nv] at *; omega)) rfl rfl (c_X10_dimension (w := 2) hf (by decide) (ht 2 (by decide))) ?_
      refine j_ifge (tgt := 145) dX10_fault_139 (by decide) (fun h139 => ?_) (fun h139 => ?_)
      · have hun : unX (mI M 45 f) (dmX M f) = false := by rw [uf_e hk, hin]; exact decide_eq_false (Int32.not_lt.mpr h139)
        obtain ⟨s, hs, hse⟩ := in5_n hin
        refine j_eq (congrArg (fun q => [_, _, _, _, some (Value.int q), _, _]) (show mTm (mI M 43) (mI M 46 (6 * f + 1)) = nI s from hse)) rfl rfl ?_
        obtain ⟨w, hw⟩ : ∃ w, w = 512 := ⟨512, rfl⟩
        have hmw : ∀ j, j < 512 → mI (sI M 57 (cpR (fun j => bI (mkX M f s j)) (mI M 57) w)) 57 j = bI (mkX M f s j) := fun j hj => cpR_lt (fun j => bI (mkX M f s j)) (mI M 57) (by omega)
        have hcb := cN_b (mkX M f s) w
        have KL : ∀ i, i ≤ w → Jd l E RX10 cX10_fault 7 (some .char) [] (rmm 6 0 0) (QfN E (fun v M1 => mFr M M1 (fun t => t = 55 ∨ t = 57 ∨ t = 67) ∧ ∃ w, v = some (.int w) ∧ fauP M f w M1) 0 0) 0 0 151 [some (.ref (eA E 12 0)), some (.int (nI f)), some (.int (mI M 45 f)), some (.int x3), some (.int (nI s)), some (.int (nI (cN (mkX M f s) i))), some (.int (nI i))] [] (sI M 57 (cpR (fun j => bI (mkX M f s j)) (mI M 57) i)) := by
          refine up_to w _ ?_ (fun i hi ih => ?_)
          · skip
            refine j_il dX10_fault_151 rfl ?_
            refine j_siN 512 dX10_fault_153 rfl ?_
            refine j_icgeN (tgt := 230) dX10_fault_156 (by decide) (by omega) (by omega) (fun h156 => ?_) (fun h156 => ?_)
            · refine j_il dX10_fault_230 rfl ?_
              refine j_ifneN (tgt := 240) dX10_fault_232 (by decide) (by omega) (fun h232 => ?_) (fun h232 => ?_)
              · refine j_aln dX10_fault_240 rfl rfl ?_
                refine j_V0g mf_X10_pieces ml_X10_191 dX10_fault_241 (Nat.le_of_ble_eq_true rfl) (Nat.le_of_ble_eq_true rfl) (Nat.le_of_ble_eq_true rfl) ⟨(Nat.le_of_ble_eq_true rfl), (Nat.le_of_ble_eq_true rfl)⟩ (by first | assumption | decide | (simp only [nv] at *; omega)) rfl rfl (c_X10_pieces (M := (sI M 57 (cpR (fun j => bI (mkX M f s j)) (mI M 57) w))) (fun j hj => by rw [hmw j hj]; exact bI01 _)) ?_
                intro v M9 hp
                obtain ⟨hpv, hpf⟩ := hp
                subst hpv
                have hnp : npc (fun y => ¬ mI (sI M 57 (cpR (fun j => bI (mkX M f s j)) (mI M 57) w)) 57 y = 0) = npc (fun j => mkX M f s j = true) := npc_ex fun j hj => by show ¬ mI (sI M 57 (cpR (fun j => bI (mkX M f s j)) (mI M 57) w)) 57 j = 0 ↔ _; rw [hmw j hj]; exact bI_ne
                rw [hnp]
                have hnb := cN_b (rep (fun j => mkX M f s j = true)) 512
                have h9 : mFr M M9 (fun t => t = 55 ∨ t = 57 ∨ t = 67) := ⟨hpf.1, fun t ht => (hpf.2 t (fun q => ht (q.elim Or.inl (fun q => Or.inr (Or.inr q))))).trans (by rw [mI_sI, if_neg (fun q => ht (Or.inr (Or.inl q)))])⟩
                have h97 : ∀ j, j < 512 → mI M9 57 j = bI (mkX M f s j) := fun j hj => (congrFun (hpf.2 57 (by decide)) j).trans (hmw j hj)
                obtain ⟨i0, hi0, hi1⟩ : ∃ i, i < 512 ∧ mkX M f s i = true := Classical.byContradiction fun q => h232 (by rw [hw]; exact cN_z fun j hj => Bool.eq_false_iff.mpr fun g => q ⟨j, hj, g⟩)
                have hp0 := npc_p (S := fun j => mkX M f s j = true) hi0 hi1
                have hnb : npc (fun j => mkX M f s j = true) ≤ 512 := hnb
                refine j_icN 1 dX10_fault_244 rfl ?_
                refine j_icleN (tgt := 253) dX10_fault_245 (by decide) (by omega) (by omega) (fun h245 => ?_) (fun h245 => ?_)
                · refine j_biN 45 dX10_fault_253 rfl ?_
                  exact j_iret dX10_fault_255 rfl (by decide) (Nat.le_of_ble_eq_true rfl) (Nat.le_of_ble_eq_true rfl) (by first | exact ⟨h9, _, rfl, Or.inr (Or.inr ⟨hun, hk, s, hs, hse, h97, (by unfold flE; rw [if_neg (by omega), if_pos (by omega)])⟩)⟩ | exact ⟨h9, _, rfl, Or.inr (Or.inr ⟨hun, hk, s, hs, hse, h97, (by unfold flE; rw [if_neg (by omega), if_neg (by omega)])⟩)⟩)
                · refine j_biN 100 dX10_fault_248 rfl ?_
                  refine j_goto (tgt := 255) dX10_fault_250 (by decide) ?_
                  exact j_iret dX10_fault_255 rfl (by decide) (Nat.le_of_ble_eq_true rfl) (Nat.le_of_ble_eq_true rfl) (by first | exact ⟨h9, _, rfl, Or.inr (Or.inr ⟨hun, hk, s, hs, hse, h97, (by unfold flE; rw [if_neg (by omega), if_pos (by omega)])⟩)⟩ | exact ⟨h9, _, rfl, Or.inr (Or.inr ⟨hun, hk, s, hs, hse, h97, (by unfold flE; rw [if_neg (by omega), if_neg (by omega)])⟩)⟩)
              · have hz : ∀ j, j < 512 → mkX M f s j = false := fun j hj => Bool.eq_false_iff.mpr fun q => absurd (cN_p (f := (mkX M f s)) (by omega : j < w) q) (by omega)
                refine j_biN 108 dX10_fault_235 rfl ?_
                refine j_goto (tgt := 255) dX10_fault_237 (by decide) ?_
                exact j_iret dX10_fault_255 rfl (by decide) (Nat.le_of_ble_eq_true rfl) (Nat.le_of_ble_eq_true rfl) ⟨⟨rfl, fun t ht => by rw [mI_sI, if_neg (fun q => ht (Or.inr (Or.inl q)))]⟩, _, rfl, Or.inr (Or.inr ⟨hun, hk, s, hs, hse, (fun j hj => hmw j hj), by rw [npc_z (fun j hj q => by rw [hz j hj] at q; exact absurd q (by decide))]; rfl⟩)⟩
            · exact absurd (Nat.le_of_eq hw.symm) h156
          · have hi5 : i < 512 := by omega
            refine j_il dX10_fault_151 rfl ?_
            refine j_siN 512 dX10_fault_153 rfl ?_
            refine j_icgeN (tgt := 230) dX10_fault_156 (by decide) (by omega) (by omega) (fun h156 => ?_) (fun h156 => ?_)
            · exact absurd h156 (by omega)
            · refine j_aln dX10_fault_159 rfl rfl ?_
              refine g_X10_24 dX10_fault_160 fl_X10_63 ?_
              refine j_il dX10_fault_163 rfl ?_
              refine j_aln dX10_fault_165 rfl rfl ?_
              refine j_il dX10_fault_166 rfl ?_
              refine j_il dX10_fault_168 rfl ?_
              refine j_V2d mf_X10_isSquare ml_X10_187 dX10_fault_170 (Nat.le_of_ble_eq_true rfl) (Nat.le_of_ble_eq_true rfl) (Nat.le_of_ble_eq_true rfl) ⟨(Nat.le_of_ble_eq_true rfl), (Nat.le_of_ble_eq_true rfl)⟩ (by first | assumption | decide | (simp only [nv] at *; omega)) rfl rfl (c_X10_isSquare (M := (sI M 57 (cpR (fun j => bI (mkX M f s j)) (mI M 57) i))) hi5 hs) ?_
              refine j_ifeq (tgt := 202) dX10_fault_173 (by decide) (fun h173 => ?_) (fun h173 => ?_)
              · have hv : bI (mkX M f s i) = nI 0 := by rw [show mkX M f s i = false from by unfold mkX; rw [show isqX M i s = false from bI_eq.mp h173]; rfl]; rfl
                refine j_icN 0 dX10_fault_202 rfl ?_
                refine j_azstN dX10_fault_203 rfl (fun _ => rfl) rfl (by decide) (by omega) (by decide) ?_
                refine j_mem (M' := (sI M 57 (cpR (fun j => bI (mkX M f s j)) (mI M 57) (i + 1)))) (by rw [cpR_s, sI_sI, hv]; rfl) ?_
                refine j_il dX10_fault_204 rfl ?_
                refine j_aln dX10_fault_206 rfl rfl ?_
                refine g_X10_24 dX10_fault_207 fl_X10_63 ?_
                refine j_il dX10_fault_210 rfl ?_
                refine j_azldN dX10_fault_212 rfl rfl rfl (by decide) (by omega) ?_
                refine j_ifeq (tgt := 220) dX10_fault_213 (by decide) (fun h213 => ?_) (fun h213 => ?_)
                · have hg : cN (mkX M f s) (i + 1) = cN (mkX M f s) i + 0 := by rw [cN_s, if_neg (fun q => by have e := (show mI (sI M 57 (cpR (fun j => bI (mkX M f s j)) (mI M 57) (i + 1))) 57 i = bI (mkX M f s i) from cpR_lt (fun j => bI (mkX M f s j)) (mI M 57) (Nat.lt_succ_self i)).symm.trans h213; rw [q] at e; exact absurd e (by decide))]
                  refine j_icN 0 dX10_fault_220 rfl ?_
                  refine j_iaddN dX10_fault_221 ?_
                  refine j_ist_5 dX10_fault_222 (by decide) rfl ?_
                  refine j_incN_6 1 dX10_fault_224 rfl (by decide) rfl ?_
                  refine j_goto (tgt := 151) dX10_fault_227 (by decide) ?_
                  rw [hg] at ih
                  exact ih
                · have hg : cN (mkX M f s) (i + 1) = cN (mkX M f s) i + 1 := by rw [cN_s, if_pos (bI_ne.mp (fun q => h213 ((show mI (sI M 57 (cpR (fun j => bI (mkX M f s j)) (mI M 57) (i + 1))) 57 i = bI (mkX M f s i) from cpR_lt (fun j => bI (mkX M f s j)) (mI M 57) (Nat.lt_succ_self i)).trans q)))]
                  refine j_icN 1 dX10_fault_216 rfl ?_
                  refine j_goto (tgt := 221) dX10_fault_217 (by decide) ?_
                  refine j_iaddN dX10_fault_221 ?_
                  refine j_ist_5 dX10_fault_222 (by decide) rfl ?_
                  refine j_incN_6 1 dX10_fault_224 rfl (by decide) rfl ?_
                  refine j_goto (tgt := 151) dX10_fault_227 (by decide) ?_
                  rw [hg] at ih
                  exact ih
              · have hq : isqX M i s = true := bI_ne.mp h173
                refine j_aln dX10_fault_176 rfl rfl ?_
                refine g_X10_23 dX10_fault_177 fl_X10_60 ?_
                refine j_biN 6 dX10_fault_180 rfl ?_
                refine j_il dX10_fault_182 rfl ?_
                refine j_imulN dX10_fault_184 ?_
                refine j_il dX10_fault_185 rfl ?_
                refine j_iaddN dX10_fault_187 ?_
                refine j_aildN dX10_fault_188 rfl rfl rfl (by decide) (by omega) ?_
                refine j_aln dX10_fault_189 rfl rfl ?_
                refine j_iln dX10_fault_190 rfl rfl ?_
                refine j_icN 0 dX10_fault_191 rfl ?_
                refine j_V2d mf_X10_dimension ml_X10_146 dX10_fault_192 (Nat.le_of_ble_eq_true rfl) (Nat.le_of_ble_eq_true rfl) (Nat.le_of_ble_eq_true rfl) ⟨(Nat.le_of_ble_eq_true rfl), (Nat.le_of_ble_eq_true rfl)⟩ (by first | assumption | decide | (simp only [nv] at *; omega)) rfl rfl (c_X10_dimension (M := (sI M 57 (cpR (fun j => bI (mkX M f s j)) (mI M 57) i))) (w := 0) hf (by decide) (ht 0 (by decide))) ?_
                refine j_icne (tgt := 202) dX10_fault_195 (by decide) (fun h195 => ?_) (fun h195 => ?_)
                · have hv : bI (mkX M f s i) = nI 0 := by rw [show mkX M f s i = false from by unfold mkX; rw [show decide (mI M 56 (6 * i + s) = dmX M f 0) = false from decide_eq_false h195, Bool.and_false]]; rfl
                  refine j_icN 0 dX10_fault_202 rfl ?_
                  refine j_azstN dX10_fault_203 rfl (fun _ => rfl) rfl (by decide) (by omega) (by decide) ?_
                  refine j_mem (M' := (sI M 57 (cpR (fun j => bI (mkX M f s j)) (mI M 57) (i + 1)))) (by rw [cpR_s, sI_sI, hv]; rfl) ?_
                  refine j_il dX10_fault_204 rfl ?_
                  refine j_aln dX10_fault_206 rfl rfl ?_
                  refine g_X10_24 dX10_fault_207 fl_X10_63 ?_
                  refine j_il dX10_fault_210 rfl ?_
                  refine j_azldN dX10_fault_212 rfl rfl rfl (by decide) (by omega) ?_
                  refine j_ifeq (tgt := 220) dX10_fault_213 (by decide) (fun h213 => ?_) (fun h213 => ?_)
                  · have hg : cN (mkX M f s) (i + 1) = cN (mkX M f s) i + 0 := by rw [cN_s, if_neg (fun q => by have e := (show mI (sI M 57 (cpR (fun j => bI (mkX M f s j)) (mI M 57) (i + 1))) 57 i = bI (mkX M f s i) from cpR_lt (fun j => bI (mkX M f s j)) (mI M 57) (Nat.lt_succ_self i)).symm.trans h213; rw [q] at e; exact absurd e (by decide))]
                    refine j_icN 0 dX10_fault_220 rfl ?_
                    refine j_iaddN dX10_fault_221 ?_
                    refine j_ist_5 dX10_fault_222 (by decide) rfl ?_
                    refine j_incN_6 1 dX10_fault_224 rfl (by decide) rfl ?_
                    refine j_goto (tgt := 151) dX10_fault_227 (by decide) ?_
                    rw [hg] at ih
                    exact ih
                  · have hg : cN (mkX M f s) (i + 1) = cN (mkX M f s) i + 1 := by rw [cN_s, if_pos (bI_ne.mp (fun q => h213 ((show mI (sI M 57 (cpR (fun j => bI (mkX M f s j)) (mI M 57) (i + 1))) 57 i = bI (mkX M f s i) from cpR_lt (fun j => bI (mkX M f s j)) (mI M 57) (Nat.lt_succ_self i)).trans q)))]
                    refine j_icN 1 dX10_fault_216 rfl ?_
                    refine j_goto (tgt := 221) dX10_fault_217 (by decide) ?_
                    refine j_iaddN dX10_fault_221 ?_
                    refine j_ist_5 dX10_fault_222 (by decide) rfl ?_
                    refine j_incN_6 1 dX10_fault_224 rfl (by decide) rfl ?_
                    refine j_goto (tgt := 151) dX10_fault_227 (by decide) ?_
                    rw [hg] at ih
                    exact ih
                · have hv : bI (mkX M f s i) = nI 1 := by rw [show mkX M f s i = true from by unfold mkX; rw [hq]; exact decide_eq_true h195]; rfl
                  refine j_icN 1 dX10_fault_198 rfl ?_
                  refine j_goto (tgt := 203) dX10_fault_199 (by decide) ?_
                  refine j_azstN dX10_fault_203 rfl (fun _ => rfl) rfl (by decide) (by omega) (by decide) ?_
                  refine j_mem (M' := (sI M 57 (cpR (fun j => bI (mkX M f s j)) (mI M 57) (i + 1)))) (by rw [cpR_s, sI_sI, hv]; rfl) ?_
                  refine j_il dX10_fault_204 rfl ?_
                  refine j_aln dX10_fault_206 rfl rfl ?_
                  refine g_X10_24 dX10_fault_207 fl_X10_63 ?_
                  refine j_il dX10_fault_210 rfl ?_
                  refine j_azldN dX10_fault_212 rfl rfl rfl (by decide) (by omega) ?_
                  refine j_ifeq (tgt := 220) dX10_fault_213 (by decide) (fun h213 => ?_) (fun h213 => ?_)
                  · have hg : cN (mkX M f s) (i + 1) = cN (mkX M f s) i + 0 := by rw [cN_s, if_neg (fun q => by have e := (show mI (sI M 57 (cpR (fun j => bI (mkX M f s j)) (mI M 57) (i + 1))) 57 i = bI (mkX M f s i) from cpR_lt (fun j => bI (mkX M f s j)) (mI M 57) (Nat.lt_succ_self i)).symm.trans h213; rw [q] at e; exact absurd e (by decide))]
                    refine j_icN 0 dX10_fault_220 rfl ?_
                    refine j_iaddN dX10_fault_221 ?_
                    refine j_ist_5 dX10_fault_222 (by decide) rfl ?_
                    refine j_incN_6 1 dX10_fault_224 rfl (by decide) rfl ?_
                    refine j_goto (tgt := 151) dX10_fault_227 (by decide) ?_
                    rw [hg] at ih
                    exact ih
                  · have hg : cN (mkX M f s) (i + 1) = cN (mkX M f s) i + 1 := by rw [cN_s, if_pos (bI_ne.mp (fun q => h213 ((show mI (sI M 57 (cpR (fun j => bI (mkX M f s j)) (mI M 57) (i + 1))) 57 i = bI (mkX M f s i) from cpR_lt (fun j => bI (mkX M f s j)) (mI M 57) (Nat.lt_succ_self i)).trans q)))]
                    refine j_icN 1 dX10_fault_216 rfl ?_
                    refine j_goto (tgt := 221) dX10_fault_217 (by decide) ?_
                    refine j_iaddN dX10_fault_221 ?_
                    refine j_ist_5 dX10_fault_222 (by decide) rfl ?_
                    refine j_incN_6 1 dX10_fault_224 rfl (by decide) rfl ?_
                    refine j_goto (tgt := 151) dX10_fault_227 (by decide) ?_
                    rw [hg] at ih
                    exact ih
        refine j_icN 0 dX10_fault_145 rfl ?_
        refine j_ist_5 dX10_fault_146 (by decide) rfl ?_
        refine j_icN 0 dX10_fault_148 rfl ?_
        refine j_ist_6 dX10_fault_149 (by decide) rfl ?_
        have K0 := KL 0 (by omega)
        rw [cpR_0, cN_0, sI_id] at K0
        exact K0
      · have hun : unX (mI M 45 f) (dmX M f) = true := by rw [uf_e hk, show decide (dmX M f 2 < 0) = true from decide_eq_true (Int32.not_le.mp h139), Bool.or_true]
        refine j_biN 120 dX10_fault_142 rfl ?_
        exact j_iret dX10_fault_144 rfl (by decide) (Nat.le_of_ble_eq_true rfl) (Nat.le_of_ble_eq_true rfl) ⟨⟨rfl, fun _ _ => rfl⟩, nI 120, rfl, Or.inl ⟨hun, rfl⟩⟩
  have TB : ∀ (o4 o5 o6 : Option Value), bxK (mI M 45 f) → Jd l E RX10 cX10_fault 7 (some .char) [] (rmm 6 0 0) (QfN E (fun v M1 => mFr M M1 (fun t => t = 55 ∨ t = 57 ∨ t = 67) ∧ ∃ w, v = some (.int w) ∧ fauP M f w M1) 0 0) 0 0 31 [some (.ref (eA E 12 0)), some (.int (nI f)), some (.int (mI M 45 f)), some (.int (nI 1)), o4, o5, o6] [] M := by
    intro o4 o5 o6 hbx
    refine j_iln dX10_fault_31 rfl rfl ?_
    refine j_ifeqN (tgt := 68) dX10_fault_32 (by decide) (by omega) (fun h32 => ?_) (fun h32 => ?_)
    · exact absurd h32 (by decide)
    · refine j_aln dX10_fault_35 rfl rfl ?_
      refine j_iln dX10_fault_36 rfl rfl ?_
      refine j_icN 3 dX10_fault_37 rfl ?_
      refine j_V2d mf_X10_dimension ml_X10_146 dX10_fault_38 (Nat.le_of_ble_eq_true rfl) (Nat.le_of_ble_eq_true rfl) (Nat.le_of_ble_eq_true rfl) ⟨(Nat.le_of_ble_eq_true rfl), (Nat.le_of_ble_eq_true rfl)⟩ (by first | assumption | decide | (simp only [nv] at *; omega)) rfl rfl (c_X10_dimension (w := 3) hf (by decide) (ht 3 (by decide))) ?_
      refine j_icN 1 dX10_fault_41 rfl ?_
      refine j_iclt (tgt := 65) dX10_fault_42 (by decide) (fun h42 => ?_) (fun h42 => ?_)
      · have hun : unX (mI M 45 f) (dmX M f) = true := by rw [uf_b hbx]; exact decide_eq_true (Or.inl h42)
        refine j_biN 120 dX10_fault_65 rfl ?_
        exact j_iret dX10_fault_67 rfl (by decide) (Nat.le_of_ble_eq_true rfl) (Nat.le_of_ble_eq_true rfl) ⟨⟨rfl, fun _ _ => rfl⟩, nI 120, rfl, Or.inl ⟨hun, rfl⟩⟩
      · refine j_aln dX10_fault_45 rfl rfl ?_
        refine j_iln dX10_fault_46 rfl rfl ?_
        refine j_icN 4 dX10_fault_47 rfl ?_
        refine j_V2d mf_X10_dimension ml_X10_146 dX10_fault_48 (Nat.le_of_ble_eq_true rfl) (Nat.le_of_ble_eq_true rfl) (Nat.le_of_ble_eq_true rfl) ⟨(Nat.le_of_ble_eq_true rfl), (Nat.le_of_ble_eq_true rfl)⟩ (by first | assumption | decide | (simp only [nv] at *; omega)) rfl rfl (c_X10_dimension (w := 4) hf (by decide) (ht 4 (by decide))) ?_
        refine j_icN 1 dX10_fault_51 rfl ?_
        refine j_iclt (tgt := 65) dX10_fault_52 (by decide) (fun h52 => ?_) (fun h52 => ?_)
        · have hun : unX (mI M 45 f) (dmX M f) = true := by rw [uf_b hbx]; exact decide_eq_true (Or.inr (Or.inl h52))
          refine j_biN 120 dX10_fault_65 rfl ?_
          exact j_iret dX10_fault_67 rfl (by decide) (Nat.le_of_ble_eq_true rfl) (Nat.le_of_ble_eq_true rfl) ⟨⟨rfl, fun _ _ => rfl⟩, nI 120, rfl, Or.inl ⟨hun, rfl⟩⟩
        · refine j_aln dX10_fault_55 rfl rfl ?_
          refine j_iln dX10_fault_56 rfl rfl ?_
          refine j_icN 5 dX10_fault_57 rfl ?_
          refine j_V2d mf_X10_dimension ml_X10_146 dX10_fault_58 (Nat.le_of_ble_eq_true rfl) (Nat.le_of_ble_eq_true rfl) (Nat.le_of_ble_eq_true rfl) ⟨(Nat.le_of_ble_eq_true rfl), (Nat.le_of_ble_eq_true rfl)⟩ (by first | assumption | decide | (simp only [nv] at *; omega)) rfl rfl (c_X10_dimension (w := 5) hf (by decide) (ht 5 (by decide))) ?_
          refine j_icN 1 dX10_fault_61 rfl ?_
          refine j_icge (tgt := 68) dX10_fault_62 (by decide) (fun h62 => ?_) (fun h62 => ?_)
          · have hun : unX (mI M 45 f) (dmX M f) = false := by rw [uf_b hbx]; exact decide_eq_false (fun q => q.elim h42 (fun q => q.elim h52 (fun q => absurd h62 (Int32.not_le.mpr q))))
            refine j_iln dX10_fault_68 rfl rfl ?_
            refine j_biN 112 dX10_fault_69 rfl ?_
            refine j_icne (tgt := 83) dX10_fault_71 (by decide) (fun h71 => ?_) (fun h71 => ?_)
            · refine j_iln dX10_fault_83 rfl rfl ?_
              refine j_biN 109 dX10_fault_84 rfl ?_
              refine j_icne (tgt := 106) dX10_fault_86 (by decide) (fun h86 => ?_) (fun h86 => ?_)
              · refine j_iln dX10_fault_106 rfl rfl ?_
                refine j_biN 101 dX10_fault_107 rfl ?_
                refine j_iceq (tgt := 115) dX10_fault_109 (by decide) (fun h109 => ?_) (fun h109 => ?_)
                · exact absurd (h109 ▸ hbx) nb_e
                · refine j_biN 45 dX10_fault_112 rfl ?_
                  exact j_iret dX10_fault_114 rfl (by decide) (Nat.le_of_ble_eq_true rfl) (Nat.le_of_ble_eq_true rfl) ⟨⟨rfl, fun _ _ => rfl⟩, nI 45, rfl, Or.inr (Or.inl ⟨hun, h109, rfl⟩)⟩
              · exact absurd (h86 ▸ hbx) nb_m
            · exact absurd (h71 ▸ hbx) nb_p
          · have hun : unX (mI M 45 f) (dmX M f) = true := by rw [uf_b hbx]; exact decide_eq_true (Or.inr (Or.inr (Int32.not_le.mp h62)))
            refine j_biN 120 dX10_fault_65 rfl ?_
            exact j_iret dX10_fault_67 rfl (by decide) (Nat.le_of_ble_eq_true rfl) (Nat.le_of_ble_eq_true rfl) ⟨⟨rfl, fun _ _ => rfl⟩, nI 120, rfl, Or.inl ⟨hun, rfl⟩⟩
  have TN : ∀ (o4 o5 o6 : Option Value), ¬ bxK (mI M 45 f) → Jd l E RX10 cX10_fault 7 (some .char) [] (rmm 6 0 0) (QfN E (fun v M1 => mFr M M1 (fun t => t = 55 ∨ t = 57 ∨ t = 67) ∧ ∃ w, v = some (.int w) ∧ fauP M f w M1) 0 0) 0 0 31 [some (.ref (eA E 12 0)), some (.int (nI f)), some (.int (mI M 45 f)), some (.int (nI 0)), o4, o5, o6] [] M := by
    intro o4 o5 o6 hbx
    refine j_iln dX10_fault_31 rfl rfl ?_
    refine j_ifeqN (tgt := 68) dX10_fault_32 (by decide) (by omega) (fun h32 => ?_) (fun h32 => ?_)
    · refine j_iln dX10_fault_68 rfl rfl ?_
      refine j_biN 112 dX10_fault_69 rfl ?_
      refine j_icne (tgt := 83) dX10_fault_71 (by decide) (fun h71 => ?_) (fun h71 => ?_)
      · refine j_iln dX10_fault_83 rfl rfl ?_
        refine j_biN 109 dX10_fault_84 rfl ?_
        refine j_icne (tgt := 106) dX10_fault_86 (by decide) (fun h86 => ?_) (fun h86 => ?_)
        · refine j_iln dX10_fault_106 rfl rfl ?_
          refine j_biN 101 dX10_fault_107 rfl ?_
          refine j_iceq (tgt := 115) dX10_fault_109 (by decide) (fun h109 => ?_) (fun h109 => ?_)
          · exact TE _ _ _ _ h109
          · refine j_biN 45 dX10_fault_112 rfl ?_
            exact j_iret dX10_fault_114 rfl (by decide) (Nat.le_of_ble_eq_true rfl) (Nat.le_of_ble_eq_true rfl) (by first | exact ⟨⟨rfl, fun _ _ => rfl⟩, nI 45, rfl, Or.inr (Or.inl ⟨uf_o hbx h86 h71 h109, h109, rfl⟩)⟩ | exact ⟨⟨rfl, fun _ _ => rfl⟩, nI 45, rfl, Or.inr (Or.inl ⟨by rw [uf_p h71]; exact decide_eq_false h80, h109, rfl⟩)⟩ | exact ⟨⟨rfl, fun _ _ => rfl⟩, nI 45, rfl, Or.inr (Or.inl ⟨by rw [uf_m h86, hin]; rfl, h109, rfl⟩)⟩)
        · refine j_aln dX10_fault_89 rfl rfl ?_
          refine j_iln dX10_fault_90 rfl rfl ?_
          refine j_icN 0 dX10_fault_91 rfl ?_
          refine j_V2d mf_X10_dimension ml_X10_146 dX10_fault_92 (Nat.le_of_ble_eq_true rfl) (Nat.le_of_ble_eq_true rfl) (Nat.le_of_ble_eq_true rfl) ⟨(Nat.le_of_ble_eq_true rfl), (Nat.le_of_ble_eq_true rfl)⟩ (by first | assumption | decide | (simp only [nv] at *; omega)) rfl rfl (c_X10_dimension (w := 0) hf (by decide) (ht 0 (by decide))) ?_
          refine j_icN 0 dX10_fault_95 rfl ?_
          refine j_icN 2 dX10_fault_96 rfl ?_
          refine j_S3d mf_X10_in ml_X10_100 dX10_fault_97 (Nat.le_of_ble_eq_true rfl) (Nat.le_of_ble_eq_true rfl) (Nat.le_of_ble_eq_true rfl) ⟨(Nat.le_of_ble_eq_true rfl), (Nat.le_of_ble_eq_true rfl)⟩ c_X10_in ?_
          refine j_ifne (tgt := 106) dX10_fault_100 (by decide) (fun h100 => ?_) (fun h100 => ?_)
          · have hin : in2 (dmX M f 0) = true := bI_ne.mp h100
            refine j_iln dX10_fault_106 rfl rfl ?_
            refine j_biN 101 dX10_fault_107 rfl ?_
            refine j_iceq (tgt := 115) dX10_fault_109 (by decide) (fun h109 => ?_) (fun h109 => ?_)
            · exact TE _ _ _ _ h109
            · refine j_biN 45 dX10_fault_112 rfl ?_
              exact j_iret dX10_fault_114 rfl (by decide) (Nat.le_of_ble_eq_true rfl) (Nat.le_of_ble_eq_true rfl) (by first | exact ⟨⟨rfl, fun _ _ => rfl⟩, nI 45, rfl, Or.inr (Or.inl ⟨uf_o hbx h86 h71 h109, h109, rfl⟩)⟩ | exact ⟨⟨rfl, fun _ _ => rfl⟩, nI 45, rfl, Or.inr (Or.inl ⟨by rw [uf_p h71]; exact decide_eq_false h80, h109, rfl⟩)⟩ | exact ⟨⟨rfl, fun _ _ => rfl⟩, nI 45, rfl, Or.inr (Or.inl ⟨by rw [uf_m h86, hin]; rfl, h109, rfl⟩)⟩)
          · have hun : unX (mI M 45 f) (dmX M f) = true := by rw [uf_m h86, show in2 (dmX M f 0) = false from bI_eq.mp h100]; rfl
            refine j_biN 120 dX10_fault_103 rfl ?_
            exact j_iret dX10_fault_105 rfl (by decide) (Nat.le_of_ble_eq_true rfl) (Nat.le_of_ble_eq_true rfl) ⟨⟨rfl, fun _ _ => rfl⟩, nI 120, rfl, Or.inl ⟨hun, rfl⟩⟩
      · refine j_aln dX10_fault_74 rfl rfl ?_
        refine j_iln dX10_fault_75 rfl rfl ?_
        refine j_icN 3 dX10_fault_76 rfl ?_
        refine j_V2d mf_X10_dimension ml_X10_146 dX10_fault_77 (Nat.le_of_ble_eq_true rfl) (Nat.le_of_ble_eq_true rfl) (Nat.le_of_ble_eq_true rfl) ⟨(Nat.le_of_ble_eq_true rfl), (Nat.le_of_ble_eq_true rfl)⟩ (by first | assumption | decide | (simp only [nv] at *; omega)) rfl rfl (c_X10_dimension (w := 3) hf (by decide) (ht 3 (by decide))) ?_
        refine j_iflt (tgt := 103) dX10_fault_80 (by decide) (fun h80 => ?_) (fun h80 => ?_)
        · have hun : unX (mI M 45 f) (dmX M f) = true := by rw [uf_p h71]; exact decide_eq_true h80
          refine j_biN 120 dX10_fault_103 rfl ?_
          exact j_iret dX10_fault_105 rfl (by decide) (Nat.le_of_ble_eq_true rfl) (Nat.le_of_ble_eq_true rfl) ⟨⟨rfl, fun _ _ => rfl⟩, nI 120, rfl, Or.inl ⟨hun, rfl⟩⟩
        · refine j_iln dX10_fault_83 rfl rfl ?_
          refine j_biN 109 dX10_fault_84 rfl ?_
          refine j_icne (tgt := 106) dX10_fault_86 (by decide) (fun h86 => ?_) (fun h86 => ?_)
          · refine j_iln dX10_fault_106 rfl rfl ?_
            refine j_biN 101 dX10_fault_107 rfl ?_
            refine j_iceq (tgt := 115) dX10_fault_109 (by decide) (fun h109 => ?_) (fun h109 => ?_)
            · exact TE _ _ _ _ h109
            · refine j_biN 45 dX10_fault_112 rfl ?_
              exact j_iret dX10_fault_114 rfl (by decide) (Nat.le_of_ble_eq_true rfl) (Nat.le_of_ble_eq_true rfl) (by first | exact ⟨⟨rfl, fun _ _ => rfl⟩, nI 45, rfl, Or.inr (Or.inl ⟨uf_o hbx h86 h71 h109, h109, rfl⟩)⟩ | exact ⟨⟨rfl, fun _ _ => rfl⟩, nI 45, rfl, Or.inr (Or.inl ⟨by rw [uf_p h71]; exact decide_eq_false h80, h109, rfl⟩)⟩ | exact ⟨⟨rfl, fun _ _ => rfl⟩, nI 45, rfl, Or.inr (Or.inl ⟨by rw [uf_m h86, hin]; rfl, h109, rfl⟩)⟩)
          · refine j_aln dX10_fault_89 rfl rfl ?_
            refine j_iln dX10_fault_90 rfl rfl ?_
            refine j_icN 0 dX10_fault_91 rfl ?_
            refine j_V2d mf_X10_dimension ml_X10_146 dX10_fault_92 (Nat.le_of_ble_eq_true rfl) (Nat.le_of_ble_eq_true rfl) (Nat.le_of_ble_eq_true rfl) ⟨(Nat.le_of_ble_eq_true rfl), (Nat.le_of_ble_eq_true rfl)⟩ (by first | assumption | decide | (simp only [nv] at *; omega)) rfl rfl (c_X10_dimension (w := 0) hf (by decide) (ht 0 (by decide))) ?_
            refine j_icN 0 dX10_fault_95 rfl ?_
            refine j_icN 2 dX10_fault_96 rfl ?_
            refine j_S3d mf_X10_in ml_X10_100 dX10_fault_97 (Nat.le_of_ble_eq_true rfl) (Nat.le_of_ble_eq_true rfl) (Nat.le_of_ble_eq_true rfl) ⟨(Nat.le_of_ble_eq_true rfl), (Nat.le_of_ble_eq_true rfl)⟩ c_X10_in ?_
            refine j_ifne (tgt := 106) dX10_fault_100 (by decide) (fun h100 => ?_) (fun h100 => ?_)
            · have hin : in2 (dmX M f 0) = true := bI_ne.mp h100
              refine j_iln dX10_fault_106 rfl rfl ?_
              refine j_biN 101 dX10_fault_107 rfl ?_
              refine j_iceq (tgt := 115) dX10_fault_109 (by decide) (fun h109 => ?_) (fun h109 => ?_)
              · exact TE _ _ _ _ h109
              · refine j_biN 45 dX10_fault_112 rfl ?_
                exact j_iret dX10_fault_114 rfl (by decide) (Nat.le_of_ble_eq_true rfl) (Nat.le_of_ble_eq_true rfl) (by first | exact ⟨⟨rfl, fun _ _ => rfl⟩, nI 45, rfl, Or.inr (Or.inl ⟨uf_o hbx h86 h71 h109, h109, rfl⟩)⟩ | exact ⟨⟨rfl, fun _ _ => rfl⟩, nI 45, rfl, Or.inr (Or.inl ⟨by rw [uf_p h71]; exact decide_eq_false h80, h109, rfl⟩)⟩ | exact ⟨⟨rfl, fun _ _ => rfl⟩, nI 45, rfl, Or.inr (Or.inl ⟨by rw [uf_m h86, hin]; rfl, h109, rfl⟩)⟩)
            · have hun : unX (mI M 45 f) (dmX M f) = true := by rw [uf_m h86, show in2 (dmX M f 0) = false from bI_eq.mp h100]; rfl
              refine j_biN 120 dX10_fault_103 rfl ?_
              exact j_iret dX10_fault_105 rfl (by decide) (Nat.le_of_ble_eq_true rfl) (Nat.le_of_ble_eq_true rfl) ⟨⟨rfl, fun _ _ => rfl⟩, nI 120, rfl, Or.inl ⟨hun, rfl⟩⟩
    · exact absurd rfl h32
  refine j_aln dX10_fault_0 rfl rfl ?_
  refine g_X10_9 dX10_fault_1 fl_X10_26 ?_
  refine j_iln dX10_fault_4 rfl rfl ?_
  refine j_acldN dX10_fault_5 rfl rfl rfl (by decide) (by omega) ?_
  refine j_ist_2 dX10_fault_6 (by decide) rfl ?_
  refine j_iln dX10_fault_7 rfl rfl ?_
  refine j_biN 98 dX10_fault_8 rfl ?_
  refine j_iceq (tgt := 25) dX10_fault_10 (by decide) (fun h10 => ?_) (fun h10 => ?_)
  · refine j_icN 1 dX10_fault_25 rfl ?_
    refine j_goto (tgt := 30) dX10_fault_26 (by decide) ?_
    refine j_ist_3 dX10_fault_30 (by decide) rfl ?_
    exact TB _ _ _ (Or.inl h10)
  · refine j_iln dX10_fault_13 rfl rfl ?_
    refine j_biN 99 dX10_fault_14 rfl ?_
    refine j_iceq (tgt := 25) dX10_fault_16 (by decide) (fun h16 => ?_) (fun h16 => ?_)
    · refine j_icN 1 dX10_fault_25 rfl ?_
      refine j_goto (tgt := 30) dX10_fault_26 (by decide) ?_
      refine j_ist_3 dX10_fault_30 (by decide) rfl ?_
      exact TB _ _ _ (Or.inr (Or.inl h16))
    · refine j_iln dX10_fault_19 rfl rfl ?_
      refine j_biN 105 dX10_fault_20 rfl ?_
      refine j_icne (tgt := 29) dX10_fault_22 (by decide) (fun h22 => ?_) (fun h22 => ?_)
      · refine j_icN 0 dX10_fault_29 rfl ?_
        refine j_ist_3 dX10_fault_30 (by decide) rfl ?_
        exact TN _ _ _ (fun q => q.elim h10 (fun q => q.elim h16 h22))
      · refine j_icN 1 dX10_fault_25 rfl ?_
        refine j_goto (tgt := 30) dX10_fault_26 (by decide) ?_
        refine j_ist_3 dX10_fault_30 (by decide) rfl ?_
        exact TB _ _ _ (Or.inr (Or.inr h22))
