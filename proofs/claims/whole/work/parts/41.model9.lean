/-! the model: what it remembers -/
def cpR (r q : Nat → Int32) (n : Nat) : Nat → Int32 := fun j => if j < n then r j else q j
theorem cpR_0 (r q : Nat → Int32) : cpR r q 0 = q := by
  funext j
  exact if_neg (by omega)
theorem cpR_s (r q : Nat → Int32) (i : Nat) : cpR r q (i + 1) = upd (cpR r q i) i (r i) := by
  funext j
  unfold upd cpR
  by_cases e : j = i
  · subst e
    rw [if_pos (by omega), if_pos rfl]
  · rw [if_neg e]
    have e3 : (j < i + 1) ↔ (j < i) := by omega
    simp only [e3]
abbrev mbS (M : Mm) : Mm := sI M 12 (upd (upd (mI M 12) 15 (mI M 12 6)) 16 (mI M 12 7))
def r1S (M : Mm) (i : Nat) : Mm := sI (mbS M) 50 (cpR (mI M 44) (mI M 50) i)
def r2S (M : Mm) (i : Nat) : Mm := sI (r1S M 13) 51 (cpR (fun j => mTm (mI M 43) (mI M 46 j)) (mI M 51) i)
def r3S (M : Mm) (i : Nat) : Mm := sI (r2S M 240) 52 (cpR (mI M 48) (mI M 52) i)
theorem r1S_0 (M : Mm) : r1S M 0 = mbS M := by
  unfold r1S
  rw [cpR_0]
  exact sI_id (mbS M) 50
theorem r2S_0 (M : Mm) : r2S M 0 = r1S M 13 := by
  unfold r2S
  rw [cpR_0]
  exact sI_id (r1S M 13) 51
theorem r3S_0 (M : Mm) : r3S M 0 = r2S M 240 := by
  unfold r3S
  rw [cpR_0]
  exact sI_id (r2S M 240) 52
theorem r1S_s (M : Mm) (i : Nat) : r1S M (i + 1) = sI (r1S M i) 50 (upd (mI (r1S M i) 50) i (mI M 44 i)) := by
  unfold r1S
  rw [cpR_s, sI_sI]
  rfl
theorem r2S_s (M : Mm) (i : Nat) : r2S M (i + 1) = sI (r2S M i) 51 (upd (mI (r2S M i) 51) i (mTm (mI M 43) (mI M 46 i))) := by
  unfold r2S
  rw [cpR_s, sI_sI]
  rfl
theorem r3S_s (M : Mm) (i : Nat) : r3S M (i + 1) = sI (r3S M i) 52 (upd (mI (r3S M i) 52) i (mI M 48 i)) := by
  unfold r3S
  rw [cpR_s, sI_sI]
  rfl
set_option maxRecDepth 100000 in
set_option maxHeartbeats 4000000 in
theorem c_X10_remembers {l : Launch} {E : Ev} {M : Mm}  (hT : ∀ k, k < 240 → mT (mI M 46 k) = true) (hof : ∀ g, g < 40 → vp_nar .boolean (mI M 48 g) = mI M 48 g) : Ct l E yX10_remembers cX10_remembers 2 none 2 0 0 [.ref (eA E 12 0)] M (dn (r3S M 40)) := by
  refine Ct.of (own := RX10) rfl [some (.ref (eA E 12 0)), none] (by decide) (Nat.le_of_ble_eq_true rfl) rfl ?_
  have K3 : ∀ i, i ≤ 40 → Jd l E RX10 cX10_remembers 2 none [] (rmm 2 0 0) (QfN E (dn (r3S M 40)) 0 0) 0 0 75 [some (.ref (eA E 12 0)), some (.int (nI i))] [] (r3S M i) := by
    refine up_to 40 _ ?_ (fun i hi ih => ?_)
    · refine j_iln dX10_remembers_75 rfl rfl ?_
      refine j_biN 40 dX10_remembers_76 rfl ?_
      refine j_icgeN (tgt := 99) dX10_remembers_78 (by decide) (by omega) (by omega) (fun h78 => ?_) (fun h78 => ?_)
      · exact j_vret dX10_remembers_99 rfl (Nat.le_of_ble_eq_true rfl) (Nat.le_of_ble_eq_true rfl) ⟨rfl, rfl⟩
      · exact absurd (Nat.le_refl 40) h78
    · refine j_iln dX10_remembers_75 rfl rfl ?_
      refine j_biN 40 dX10_remembers_76 rfl ?_
      refine j_icgeN (tgt := 99) dX10_remembers_78 (by decide) (by omega) (by omega) (fun h78 => ?_) (fun h78 => ?_)
      · exact absurd h78 (by omega)
      · refine j_aln dX10_remembers_81 rfl rfl ?_
        refine g_X10_19 dX10_remembers_82 fl_X10_48 ?_
        refine j_iln dX10_remembers_85 rfl rfl ?_
        refine j_aln dX10_remembers_86 rfl rfl ?_
        refine g_X10_12 dX10_remembers_87 fl_X10_36 ?_
        refine j_iln dX10_remembers_90 rfl rfl ?_
        refine j_azldN dX10_remembers_91 rfl rfl rfl (by decide) (by omega) ?_
        refine j_azstN dX10_remembers_92 rfl (fun _ => rfl) rfl (by decide) (by omega) (hof i hi) ?_
        refine j_incN_1 1 dX10_remembers_93 rfl (by decide) rfl ?_
        refine j_goto (tgt := 75) dX10_remembers_96 (by decide) ?_
        rw [r3S_s M i] at ih
        exact ih
  have K2 : ∀ i, i ≤ 240 → Jd l E RX10 cX10_remembers 2 none [] (rmm 2 0 0) (QfN E (dn (r3S M 40)) 0 0) 0 0 44 [some (.ref (eA E 12 0)), some (.int (nI i))] [] (r2S M i) := by
    refine up_to 240 _ ?_ (fun i hi ih => ?_)
    · refine j_iln dX10_remembers_44 rfl rfl ?_
      refine j_siN 240 dX10_remembers_45 rfl ?_
      refine j_icgeN (tgt := 73) dX10_remembers_48 (by decide) (by omega) (by omega) (fun h48 => ?_) (fun h48 => ?_)
      · refine j_icN 0 dX10_remembers_73 rfl ?_
        refine j_ist_1 dX10_remembers_74 (by decide) rfl ?_
        have K0 := K3 0 (by omega)
        rw [r3S_0] at K0
        exact K0
      · exact absurd (Nat.le_refl 240) h48
    · refine j_iln dX10_remembers_44 rfl rfl ?_
      refine j_siN 240 dX10_remembers_45 rfl ?_
      refine j_icgeN (tgt := 73) dX10_remembers_48 (by decide) (by omega) (by omega) (fun h48 => ?_) (fun h48 => ?_)
      · exact absurd h48 (by omega)
      · refine j_aln dX10_remembers_51 rfl rfl ?_
        refine g_X10_18 dX10_remembers_52 fl_X10_45 ?_
        refine j_iln dX10_remembers_55 rfl rfl ?_
        refine j_aln dX10_remembers_56 rfl rfl ?_
        refine j_aln dX10_remembers_57 rfl rfl ?_
        refine g_X10_10 dX10_remembers_58 fl_X10_29 ?_
        refine j_iln dX10_remembers_61 rfl rfl ?_
        refine j_aildN dX10_remembers_62 rfl rfl rfl (by decide) (by omega) ?_
        refine j_V1d mf_X10_term ml_X10_104 dX10_remembers_63 (Nat.le_of_ble_eq_true rfl) (Nat.le_of_ble_eq_true rfl) (Nat.le_of_ble_eq_true rfl) ⟨(Nat.le_of_ble_eq_true rfl), (Nat.le_of_ble_eq_true rfl)⟩ (by first | assumption | decide | (simp only [nv] at *; omega)) rfl rfl (c_X10_term (M := r2S M i) (hT i hi)) ?_
        refine j_aistN dX10_remembers_66 rfl (fun _ => rfl) rfl (by decide) (by omega) ?_
        refine j_incN_1 1 dX10_remembers_67 rfl (by decide) rfl ?_
        refine j_goto (tgt := 44) dX10_remembers_70 (by decide) ?_
        rw [r2S_s M i] at ih
        exact ih
  have K1 : ∀ i, i ≤ 13 → Jd l E RX10 cX10_remembers 2 none [] (rmm 2 0 0) (QfN E (dn (r3S M 40)) 0 0) 0 0 18 [some (.ref (eA E 12 0)), some (.int (nI i))] [] (r1S M i) := by
    refine up_to 13 _ ?_ (fun i hi ih => ?_)
    · refine j_iln dX10_remembers_18 rfl rfl ?_
      refine j_biN 13 dX10_remembers_19 rfl ?_
      refine j_icgeN (tgt := 42) dX10_remembers_21 (by decide) (by omega) (by omega) (fun h21 => ?_) (fun h21 => ?_)
      · refine j_icN 0 dX10_remembers_42 rfl ?_
        refine j_ist_1 dX10_remembers_43 (by decide) rfl ?_
        have K0 := K2 0 (by omega)
        rw [r2S_0] at K0
        exact K0
      · exact absurd (Nat.le_refl 13) h21
    · refine j_iln dX10_remembers_18 rfl rfl ?_
      refine j_biN 13 dX10_remembers_19 rfl ?_
      refine j_icgeN (tgt := 42) dX10_remembers_21 (by decide) (by omega) (by omega) (fun h21 => ?_) (fun h21 => ?_)
      · exact absurd h21 (by omega)
      · refine j_aln dX10_remembers_24 rfl rfl ?_
        refine g_X10_17 dX10_remembers_25 fl_X10_42 ?_
        refine j_iln dX10_remembers_28 rfl rfl ?_
        refine j_aln dX10_remembers_29 rfl rfl ?_
        refine g_X10_8 dX10_remembers_30 fl_X10_23 ?_
        refine j_iln dX10_remembers_33 rfl rfl ?_
        refine j_aildN dX10_remembers_34 rfl rfl rfl (by decide) (by omega) ?_
        refine j_aistN dX10_remembers_35 rfl (fun _ => rfl) rfl (by decide) (by omega) ?_
        refine j_incN_1 1 dX10_remembers_36 rfl (by decide) rfl ?_
        refine j_goto (tgt := 18) dX10_remembers_39 (by decide) ?_
        rw [r1S_s M i] at ih
        exact ih
  refine j_aln dX10_remembers_0 rfl rfl ?_
  refine j_aln dX10_remembers_1 rfl rfl ?_
  refine g_X10_6 dX10_remembers_2 fl_X10_131 ?_
  refine p_X10_15 dX10_remembers_5 fl_X10_134 ?_
  refine j_aln dX10_remembers_8 rfl rfl ?_
  refine j_aln dX10_remembers_9 rfl rfl ?_
  refine g_X10_7 dX10_remembers_10 fl_X10_137 ?_
  refine p_X10_16 dX10_remembers_13 fl_X10_140 ?_
  refine j_icN 0 dX10_remembers_16 rfl ?_
  refine j_ist_1 dX10_remembers_17 (by decide) rfl ?_
  have K0 := K1 0 (by omega)
  rw [r1S_0] at K0
  refine j_mem ?_ K0
  rw [sI_sI]; rfl
