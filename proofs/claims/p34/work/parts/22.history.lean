/-! History: what it remembers -/
def acX (M : Mm) (k f : Nat) : Bool := (List.range 6).all (fun w => decide (mI M 32 (k * 6 + w) = szX M f w)) && decide (mI M 30 k = nI f ∧ mI M 31 k = mI M 27 f)
theorem acX_f {M : Mm} {k f w : Nat} (hw : w < 6) (h : ¬ mI M 32 (k * 6 + w) = szX M f w) : acX M k f = false := by
  unfold acX
  cases e : (List.range 6).all (fun w => decide (mI M 32 (k * 6 + w) = szX M f w))
  · rfl
  · exact absurd (of_decide_eq_true (List.all_eq_true.mp e w (List.mem_range.mpr hw))) h
theorem acX_all {M : Mm} {k f : Nat} (h : ∀ w, w < 6 → mI M 32 (k * 6 + w) = szX M f w) : acX M k f = decide (mI M 30 k = nI f ∧ mI M 31 k = mI M 27 f) := by
  unfold acX
  rw [List.all_eq_true.mpr (fun w hw => decide_eq_true (h w (List.mem_range.mp hw))), Bool.true_and]
theorem acX_iff {M : Mm} {k f : Nat} : acX M k f = true ↔ (∀ w, w < 6 → mI M 32 (k * 6 + w) = szX M f w) ∧ mI M 30 k = nI f ∧ mI M 31 k = mI M 27 f := by
  constructor
  · intro h
    have h1 : ∀ w, w < 6 → mI M 32 (k * 6 + w) = szX M f w := by
      intro w hw
      by_cases e : mI M 32 (k * 6 + w) = szX M f w
      · exact e
      · rw [acX_f hw e] at h; exact absurd h (by decide)
    rw [acX_all h1] at h
    exact ⟨h1, of_decide_eq_true h⟩
  · intro h
    rw [acX_all h.1]
    exact decide_eq_true h.2
def rsM (M : Mm) (f : Nat) : Mm := sI M 29 (fun w => if w < 6 then szX M f w else mI M 29 w)
def rmM (M : Mm) (k f : Nat) : Mm := sI (sI (sI M 30 (upd (mI M 30) k (nI f))) 31 (upd (mI M 31) k (mI M 27 f))) 32 (va_cpy (mI M 29) (mI M 32) 0 (k * 6) 6)
set_option maxRecDepth 100000 in
set_option maxHeartbeats 4000000 in
theorem c_X3_body {l : Launch} {E : Ev} {M : Mm} {bar : Nat} (hbar : mI M 2 7 = nI bar) (hb12 : bar ≤ 12) : Ct l E yX3_body cX3_body 1 (some (.object "Solidhearth$Body")) 1 0 0 [.ref (eA E 1 0)] M (dv (.ref (eA E 6 bar)) M) := by
  refine Ct.of (own := RX3) rfl [some (.ref (eA E 1 0))] (by decide) (Nat.le_of_ble_eq_true rfl) rfl ?_
  refine j_aln dX3_body_0 rfl rfl ?_
  refine g_X3_3 dX3_body_1 fl_X3_24 ?_
  refine j_aln dX3_body_4 rfl rfl ?_
  refine g_X3_0 dX3_body_5 fl_X3_12 ?_
  refine g_X2_7 dX3_body_8 fl_X3_57 ?_
  refine j_topi hbar ?_
  refine j_aldBN dX3_body_11 (by omega) ?_
  exact j_aret dX3_body_12 rfl (Or.inl ⟨_, rfl⟩) (Nat.le_of_ble_eq_true rfl) (Nat.le_of_ble_eq_true rfl) ⟨rfl, rfl⟩
set_option maxRecDepth 100000 in
set_option maxHeartbeats 4000000 in
theorem c_X3_readSizes {l : Launch} {E : Ev} {M : Mm} {f : Nat} (hf : f < 40) : Ct l E yX3_readSizes cX3_readSizes 3 none 4 0 0 [.ref (eA E 1 0), .int (nI f)] M (dn (rsM M f)) := by
  refine Ct.of (own := RX3) rfl [some (.ref (eA E 1 0)), some (.int (nI f)), none] (by decide) (Nat.le_of_ble_eq_true rfl) rfl ?_
  have K : ∀ i, i ≤ 6 → Jd l E RX3 cX3_readSizes 3 none [] (rmm 4 0 0) (QfN E (dn (rsM M f)) 0 0) 0 0 2 [some (.ref (eA E 1 0)), some (.int (nI f)), some (.int (nI i))] [] (sI M 29 (fun w => if w < i then szX M f w else mI M 29 w)) := by
    refine up_to 6 _ ?_ (fun i hi ih => ?_)
    · refine j_iln dX3_readSizes_2 rfl rfl ?_
      refine j_biN 6 dX3_readSizes_3 rfl ?_
      refine j_icgeN (tgt := 29) dX3_readSizes_5 (by decide) (by omega) (by omega) (fun h5 => ?_) (fun h5 => ?_)
      · exact j_vret dX3_readSizes_29 rfl (Nat.le_of_ble_eq_true rfl) (Nat.le_of_ble_eq_true rfl) ⟨rfl, rfl⟩
      · exact absurd (Nat.le_refl 6) h5
    · refine j_iln dX3_readSizes_2 rfl rfl ?_
      refine j_biN 6 dX3_readSizes_3 rfl ?_
      refine j_icgeN (tgt := 29) dX3_readSizes_5 (by decide) (by omega) (by omega) (fun h5 => ?_) (fun h5 => ?_)
      · exact absurd h5 (by omega)
      · refine j_aln dX3_readSizes_8 rfl rfl ?_
        refine g_X3_7 dX3_readSizes_9 fl_X3_43 ?_
        refine j_iln dX3_readSizes_12 rfl rfl ?_
        refine j_aln dX3_readSizes_13 rfl rfl ?_
        refine g_X3_0 dX3_readSizes_14 fl_X3_12 ?_
        refine j_iln dX3_readSizes_17 rfl rfl ?_
        refine j_iln dX3_readSizes_18 rfl rfl ?_
        refine j_V2d mf_X2_sizeOf ml_X3_101 dX3_readSizes_19 (Nat.le_of_ble_eq_true rfl) (Nat.le_of_ble_eq_true rfl) (Nat.le_of_ble_eq_true rfl) ⟨(Nat.le_of_ble_eq_true rfl), (Nat.le_of_ble_eq_true rfl)⟩ (by first | assumption | decide | (simp only [nv] at *; omega)) rfl rfl (c_X2_sizeOf hf (by omega)) ?_
        refine j_aistN dX3_readSizes_22 rfl (fun _ => rfl) rfl (by decide) (by omega) ?_
        refine j_incN_2 1 dX3_readSizes_23 rfl (by decide) rfl ?_
        refine j_goto (tgt := 2) dX3_readSizes_26 (by decide) ?_
        refine j_mem ?_ ih
        rw [sI_sI]
        congr 1
        funext w
        unfold upd
        by_cases e : w = i
        · subst e; rw [if_pos rfl, if_pos (by omega)]; rfl
        · rw [if_neg e]
          have e4 : (w < i + 1) ↔ (w < i) := by omega
          simp only [e4]; rfl
  refine j_icN 0 dX3_readSizes_0 rfl ?_
  refine j_ist_2 dX3_readSizes_1 (by decide) rfl ?_
  refine j_mem ?_ (K 0 (by omega))
  have e : (fun w => if w < 0 then szX M f w else mI M 29 w) = mI M 29 := funext fun w => if_neg (by omega)
  rw [e, sI_id]
set_option maxRecDepth 100000 in
set_option maxHeartbeats 4000000 in
theorem c_X3_remember {l : Launch} {E : Ev} {M : Mm} {k f : Nat} (hk : k < 12) (hf : f < 40) (hz : vp_nar .boolean (mI M 27 f) = mI M 27 f) : Ct l E yX3_remember cX3_remember 3 none 1 0 0 [.ref (eA E 1 0), .int (nI k), .int (nI f)] M (dn (rmM M k f)) := by
  refine Ct.of (own := RX3) rfl [some (.ref (eA E 1 0)), some (.int (nI k)), some (.int (nI f))] (by decide) (Nat.le_of_ble_eq_true rfl) rfl ?_
  refine j_aln dX3_remember_0 rfl rfl ?_
  refine g_X3_8 dX3_remember_1 fl_X3_47 ?_
  refine j_iln dX3_remember_4 rfl rfl ?_
  refine j_iln dX3_remember_5 rfl rfl ?_
  refine j_aistN dX3_remember_6 rfl (fun _ => rfl) rfl (by decide) (by omega) ?_
  refine j_aln dX3_remember_7 rfl rfl ?_
  refine g_X3_9 dX3_remember_8 fl_X3_50 ?_
  refine j_iln dX3_remember_11 rfl rfl ?_
  refine j_aln dX3_remember_12 rfl rfl ?_
  refine g_X3_0 dX3_remember_13 fl_X3_12 ?_
  refine g_X2_4 dX3_remember_16 fl_X3_76 ?_
  refine j_iln dX3_remember_19 rfl rfl ?_
  refine j_azldN dX3_remember_20 rfl rfl rfl (by decide) (by omega) ?_
  refine j_azstN dX3_remember_21 rfl (fun _ => rfl) rfl (by decide) (by omega) hz ?_
  refine j_aln dX3_remember_22 rfl rfl ?_
  refine g_X3_7 dX3_remember_23 fl_X3_43 ?_
  refine j_ic (v := 0) dX3_remember_26 (by decide) ?_
  refine j_aln dX3_remember_27 rfl rfl ?_
  refine g_X3_10 dX3_remember_28 fl_X3_54 ?_
  refine j_iln dX3_remember_31 rfl rfl ?_
  refine j_biN 6 dX3_remember_32 rfl ?_
  refine j_imulN dX3_remember_34 ?_
  refine j_bi (v := 6) dX3_remember_35 (by decide) ?_
  refine j_cpyS (k * 6) dX3_remember_37 ml_X3_105 ac_native ac_static ac_init rfl (by omega) (Nat.le_of_ble_eq_true rfl) (by decide +kernel) ?_
  exact j_vret dX3_remember_40 rfl (Nat.le_of_ble_eq_true rfl) (Nat.le_of_ble_eq_true rfl) ⟨rfl, rfl⟩
set_option maxRecDepth 100000 in
set_option maxHeartbeats 4000000 in
theorem c_X3_isAsCarried {l : Launch} {E : Ev} {M : Mm} {k f : Nat} (hk : k < 12) (hf : f < 40) : Ct l E yX3_isAsCarried cX3_isAsCarried 4 (some .boolean) 4 0 0 [.ref (eA E 1 0), .int (nI k), .int (nI f)] M (dv (.int (bI (acX M k f))) M) := by
  refine Ct.of (own := RX3) rfl [some (.ref (eA E 1 0)), some (.int (nI k)), some (.int (nI f)), none] (by decide) (Nat.le_of_ble_eq_true rfl) rfl ?_
  have K : ∀ w, w ≤ 6 → (∀ j, j < w → mI M 32 (k * 6 + j) = szX M f j) → Jd l E RX3 cX3_isAsCarried 4 (some .boolean) [] (rmm 4 0 0) (QfN E (dv (.int (bI (acX M k f))) M) 0 0) 0 0 2 [some (.ref (eA E 1 0)), some (.int (nI k)), some (.int (nI f)), some (.int (nI w))] [] M := by
    refine up_to 6 _ ?_ (fun w hw ih => ?_)
    · intro hall
      refine j_iln dX3_isAsCarried_2 rfl rfl ?_
      refine j_biN 6 dX3_isAsCarried_3 rfl ?_
      refine j_icgeN (tgt := 39) dX3_isAsCarried_5 (by decide) (by omega) (by omega) (fun h5 => ?_) (fun h5 => ?_)
      · refine j_aln dX3_isAsCarried_39 rfl rfl ?_
        refine g_X3_8 dX3_isAsCarried_40 fl_X3_47 ?_
        refine j_iln dX3_isAsCarried_43 rfl rfl ?_
        refine j_aildN dX3_isAsCarried_44 rfl rfl rfl (by decide) (by omega) ?_
        refine j_iln dX3_isAsCarried_45 rfl rfl ?_
        refine j_icne (tgt := 71) dX3_isAsCarried_46 (by decide) (fun h46 => ?_) (fun h46 => ?_)
        · have hr : acX M k f = false := by rw [acX_all hall]; exact decide_eq_false (fun q => h46 q.1)
          refine j_icN 0 dX3_isAsCarried_71 rfl ?_
          exact j_iret dX3_isAsCarried_72 rfl (by decide) (Nat.le_of_ble_eq_true rfl) (Nat.le_of_ble_eq_true rfl) ⟨by rw [hr]; rfl, rfl⟩
        · refine j_aln dX3_isAsCarried_49 rfl rfl ?_
          refine g_X3_9 dX3_isAsCarried_50 fl_X3_50 ?_
          refine j_iln dX3_isAsCarried_53 rfl rfl ?_
          refine j_azldN dX3_isAsCarried_54 rfl rfl rfl (by decide) (by omega) ?_
          refine j_aln dX3_isAsCarried_55 rfl rfl ?_
          refine g_X3_0 dX3_isAsCarried_56 fl_X3_12 ?_
          refine g_X2_4 dX3_isAsCarried_59 fl_X3_76 ?_
          refine j_iln dX3_isAsCarried_62 rfl rfl ?_
          refine j_azldN dX3_isAsCarried_63 rfl rfl rfl (by decide) (by omega) ?_
          refine j_icne (tgt := 71) dX3_isAsCarried_64 (by decide) (fun h64 => ?_) (fun h64 => ?_)
          · have hr : acX M k f = false := by rw [acX_all hall]; exact decide_eq_false (fun q => h64 q.2)
            refine j_icN 0 dX3_isAsCarried_71 rfl ?_
            exact j_iret dX3_isAsCarried_72 rfl (by decide) (Nat.le_of_ble_eq_true rfl) (Nat.le_of_ble_eq_true rfl) ⟨by rw [hr]; rfl, rfl⟩
          · have hr : acX M k f = true := by rw [acX_all hall]; exact decide_eq_true ⟨h46, h64⟩
            refine j_icN 1 dX3_isAsCarried_67 rfl ?_
            refine j_goto (tgt := 72) dX3_isAsCarried_68 (by decide) ?_
            exact j_iret dX3_isAsCarried_72 rfl (by decide) (Nat.le_of_ble_eq_true rfl) (Nat.le_of_ble_eq_true rfl) ⟨by rw [hr]; rfl, rfl⟩
      · exact absurd (Nat.le_refl 6) h5
    · intro hall
      refine j_iln dX3_isAsCarried_2 rfl rfl ?_
      refine j_biN 6 dX3_isAsCarried_3 rfl ?_
      refine j_icgeN (tgt := 39) dX3_isAsCarried_5 (by decide) (by omega) (by omega) (fun h5 => ?_) (fun h5 => ?_)
      · exact absurd h5 (by omega)
      · refine j_aln dX3_isAsCarried_8 rfl rfl ?_
        refine g_X3_10 dX3_isAsCarried_9 fl_X3_54 ?_
        refine j_iln dX3_isAsCarried_12 rfl rfl ?_
        refine j_biN 6 dX3_isAsCarried_13 rfl ?_
        refine j_imulN dX3_isAsCarried_15 ?_
        refine j_iln dX3_isAsCarried_16 rfl rfl ?_
        refine j_iaddN dX3_isAsCarried_17 ?_
        refine j_aildN dX3_isAsCarried_18 rfl rfl rfl (by decide) (by omega) ?_
        refine j_aln dX3_isAsCarried_19 rfl rfl ?_
        refine g_X3_0 dX3_isAsCarried_20 fl_X3_12 ?_
        refine j_iln dX3_isAsCarried_23 rfl rfl ?_
        refine j_iln dX3_isAsCarried_24 rfl rfl ?_
        refine j_V2d mf_X2_sizeOf ml_X3_101 dX3_isAsCarried_25 (Nat.le_of_ble_eq_true rfl) (Nat.le_of_ble_eq_true rfl) (Nat.le_of_ble_eq_true rfl) ⟨(Nat.le_of_ble_eq_true rfl), (Nat.le_of_ble_eq_true rfl)⟩ (by first | assumption | decide | (simp only [nv] at *; omega)) rfl rfl (c_X2_sizeOf hf (by omega)) ?_
        refine j_iceq (tgt := 33) dX3_isAsCarried_28 (by decide) (fun h28 => ?_) (fun h28 => ?_)
        · refine j_incN_3 1 dX3_isAsCarried_33 rfl (by decide) rfl ?_
          refine j_goto (tgt := 2) dX3_isAsCarried_36 (by decide) ?_
          exact ih (fun j hj => by
            rcases Nat.lt_or_ge j w with h | h
            · exact hall j h
            · rw [show j = w by omega]; exact h28)
        · refine j_icN 0 dX3_isAsCarried_31 rfl ?_
          exact j_iret dX3_isAsCarried_32 rfl (by decide) (Nat.le_of_ble_eq_true rfl) (Nat.le_of_ble_eq_true rfl) ⟨by rw [acX_f (show w < 6 by omega) h28]; rfl, rfl⟩
  refine j_icN 0 dX3_isAsCarried_0 rfl ?_
  refine j_ist_3 dX3_isAsCarried_1 (by decide) rfl ?_
  exact K 0 (by omega) (fun j hj => absurd hj (by omega))
set_option maxRecDepth 100000 in
set_option maxHeartbeats 4000000 in
theorem c_X3_lowestChanged {l : Launch} {E : Ev} {M : Mm} {cnt bar bc : Nat} {fr : Nat → Nat} (hbar : mI M 2 7 = nI bar) (hbc : mI M 1 11 = nI bc) (hb12 : bar ≤ cnt) (hc12 : cnt ≤ 12) (hbc12 : bc ≤ 12) (hrow : ∀ k, k < cnt → mI M 24 k = nI (fr k) ∧ fr k < 40) : Ct l E yX3_lowestChanged cX3_lowestChanged 2 (some .int) 5 0 0 [.ref (eA E 1 0)] M (fun v M1 => M1 = M ∧ ∃ lo, v = some (.int (nI lo)) ∧ lo ≤ bar ∧ lo ≤ bc ∧ (∀ k, k < lo → acX M k (fr k) = true) ∧ (lo < bar → lo < bc → acX M lo (fr lo) = false)) := by
  refine Ct.of (own := RX3) rfl [some (.ref (eA E 1 0)), none] (by decide) (Nat.le_of_ble_eq_true rfl) rfl ?_
  have K : ∀ i, i ≤ bar → i ≤ bc → (∀ k, k < i → acX M k (fr k) = true) → Jd l E RX3 cX3_lowestChanged 2 (some .int) [] (rmm 5 0 0) (QfN E (fun v M1 => M1 = M ∧ ∃ lo, v = some (.int (nI lo)) ∧ lo ≤ bar ∧ lo ≤ bc ∧ (∀ k, k < lo → acX M k (fr k) = true) ∧ (lo < bar → lo < bc → acX M lo (fr lo) = false)) 0 0) 0 0 2 [some (.ref (eA E 1 0)), some (.int (nI i))] [] M := by
    refine up_to bar _ ?_ (fun i hi ih => ?_)
    · intro hib hall
      refine j_iln dX3_lowestChanged_2 rfl rfl ?_
      refine j_aln dX3_lowestChanged_3 rfl rfl ?_
      refine g_X3_0 dX3_lowestChanged_4 fl_X3_12 ?_
      refine g_X2_7 dX3_lowestChanged_7 fl_X3_57 ?_
      refine j_topi hbar ?_
      refine j_icgeN (tgt := 44) dX3_lowestChanged_10 (by decide) (by omega) (by omega) (fun h10 => ?_) (fun h10 => ?_)
      · refine j_iln dX3_lowestChanged_44 rfl rfl ?_
        exact j_iret dX3_lowestChanged_45 rfl rfl (Nat.le_of_ble_eq_true rfl) (Nat.le_of_ble_eq_true rfl) ⟨rfl, bar, rfl, Nat.le_refl bar, hib, hall, fun q => absurd q (by omega)⟩
      · exact absurd (Nat.le_refl bar) h10
    · intro hib hall
      refine j_iln dX3_lowestChanged_2 rfl rfl ?_
      refine j_aln dX3_lowestChanged_3 rfl rfl ?_
      refine g_X3_0 dX3_lowestChanged_4 fl_X3_12 ?_
      refine g_X2_7 dX3_lowestChanged_7 fl_X3_57 ?_
      refine j_topi hbar ?_
      refine j_icgeN (tgt := 44) dX3_lowestChanged_10 (by decide) (by omega) (by omega) (fun h10 => ?_) (fun h10 => ?_)
      · exact absurd h10 (by omega)
      · refine j_iln dX3_lowestChanged_13 rfl rfl ?_
        refine j_aln dX3_lowestChanged_14 rfl rfl ?_
        refine g_X3_11 dX3_lowestChanged_15 fl_X3_94 ?_
        refine j_topi hbc ?_
        refine j_icgeN (tgt := 44) dX3_lowestChanged_18 (by decide) (by omega) (by omega) (fun h18 => ?_) (fun h18 => ?_)
        · have hx : i < bar → i < bc → acX M i (fr i) = false := fun _ q => absurd q (by omega)
          refine j_iln dX3_lowestChanged_44 rfl rfl ?_
          exact j_iret dX3_lowestChanged_45 rfl rfl (Nat.le_of_ble_eq_true rfl) (Nat.le_of_ble_eq_true rfl) ⟨rfl, i, rfl, by omega, by omega, hall, hx⟩
        · refine j_aln dX3_lowestChanged_21 rfl rfl ?_
          refine j_iln dX3_lowestChanged_22 rfl rfl ?_
          refine j_aln dX3_lowestChanged_23 rfl rfl ?_
          refine g_X3_0 dX3_lowestChanged_24 fl_X3_12 ?_
          refine g_X2_1 dX3_lowestChanged_27 fl_X3_65 ?_
          refine j_iln dX3_lowestChanged_30 rfl rfl ?_
          refine j_aildN dX3_lowestChanged_31 rfl rfl rfl (by decide) (by omega) ?_
          refine j_topi (hrow i (by omega)).1 ?_
          refine j_V2d mf_X3_isAsCarried ml_X3_97 dX3_lowestChanged_32 (Nat.le_of_ble_eq_true rfl) (Nat.le_of_ble_eq_true rfl) (Nat.le_of_ble_eq_true rfl) ⟨(Nat.le_of_ble_eq_true rfl), (Nat.le_of_ble_eq_true rfl)⟩ (by first | assumption | decide | (simp only [nv] at *; omega)) rfl rfl (c_X3_isAsCarried (show i < 12 by omega) (hrow i (by omega)).2) ?_
          refine j_ifeq (tgt := 44) dX3_lowestChanged_35 (by decide) (fun h35 => ?_) (fun h35 => ?_)
          · have hx : i < bar → i < bc → acX M i (fr i) = false := fun _ _ => bI_eq.mp h35
            refine j_iln dX3_lowestChanged_44 rfl rfl ?_
            exact j_iret dX3_lowestChanged_45 rfl rfl (Nat.le_of_ble_eq_true rfl) (Nat.le_of_ble_eq_true rfl) ⟨rfl, i, rfl, by omega, by omega, hall, hx⟩
          · refine j_incN_1 1 dX3_lowestChanged_38 rfl (by decide) rfl ?_
            refine j_goto (tgt := 2) dX3_lowestChanged_41 (by decide) ?_
            exact ih (by omega) (fun j hj => by
              rcases Nat.lt_or_ge j i with h | h
              · exact hall j h
              · rw [show j = i by omega]; exact bI_ne.mp h35)
  refine j_icN 0 dX3_lowestChanged_0 rfl ?_
  refine j_ist_1 dX3_lowestChanged_1 (by decide) rfl ?_
  exact K 0 (by omega) (by omega) (fun j hj => absurd hj (by omega))
set_option maxRecDepth 100000 in
set_option maxHeartbeats 4000000 in
theorem c_X3_countNamed {l : Launch} {E : Ev} {M : Mm} {bar s : Nat} {x : Int32} (hbar : mI M 2 7 = nI bar) (hb12 : bar ≤ 12) (hs : s < 6) : Ct l E yX3_countNamed cX3_countNamed 3 (some .int) 5 0 0 [.ref (eA E 1 0), .int x, .int (nI s)] M (dv (.int (smI (fun z => bcl (chA (mL M bar) (mK M bar) x (nI s) z)) 8)) (sL M 16 (chA (mL M bar) (mK M bar) x (nI s)))) := by
  refine Ct.of (own := RX3) rfl [some (.ref (eA E 1 0)), some (.int x), some (.int (nI s))] (by decide) (Nat.le_of_ble_eq_true rfl) rfl ?_
  refine j_aln dX3_countNamed_0 rfl rfl ?_
  refine g_X3_6 dX3_countNamed_1 fl_X3_39 ?_
  refine j_aln dX3_countNamed_4 rfl rfl ?_
  refine j_V0d mf_X3_body ml_X3_114 dX3_countNamed_5 (Nat.le_of_ble_eq_true rfl) (Nat.le_of_ble_eq_true rfl) (Nat.le_of_ble_eq_true rfl) ⟨(Nat.le_of_ble_eq_true rfl), (Nat.le_of_ble_eq_true rfl)⟩ (by first | assumption | decide | (simp only [nv] at *; omega)) rfl rfl (c_X3_body hbar hb12) ?_
  refine j_iln dX3_countNamed_8 rfl rfl ?_
  refine j_iln dX3_countNamed_9 rfl rfl ?_
  refine j_V3d mf_X8_countNamed ml_X3_118 dX3_countNamed_10 (Nat.le_of_ble_eq_true rfl) (Nat.le_of_ble_eq_true rfl) (Nat.le_of_ble_eq_true rfl) ⟨(Nat.le_of_ble_eq_true rfl), (Nat.le_of_ble_eq_true rfl)⟩ (by first | assumption | decide | (simp only [nv] at *; omega)) rfl rfl (c_X8_countNamed (show bar < 15 by omega) (by omega) hs) ?_
  exact j_iret dX3_countNamed_13 rfl rfl (Nat.le_of_ble_eq_true rfl) (Nat.le_of_ble_eq_true rfl) ⟨rfl, rfl⟩
set_option maxRecDepth 100000 in
set_option maxHeartbeats 4000000 in
theorem c_X3_countPieces {l : Launch} {E : Ev} {M : Mm} {bar : Nat} (hbar : mI M 2 7 = nI bar) (hb12 : bar ≤ 12) : Ct l E yX3_countPieces cX3_countPieces 1 (some .int) 4 0 0 [.ref (eA E 1 0)] M (fun v M1 => v = some (.int (nI (pcX (mL M bar)))) ∧ ∃ R P, M1 = sL (sL M 17 R) 18 P) := by
  refine Ct.of (own := RX3) rfl [some (.ref (eA E 1 0))] (by decide) (Nat.le_of_ble_eq_true rfl) rfl ?_
  refine j_aln dX3_countPieces_0 rfl rfl ?_
  refine g_X3_6 dX3_countPieces_1 fl_X3_39 ?_
  refine j_aln dX3_countPieces_4 rfl rfl ?_
  refine j_V0d mf_X3_body ml_X3_114 dX3_countPieces_5 (Nat.le_of_ble_eq_true rfl) (Nat.le_of_ble_eq_true rfl) (Nat.le_of_ble_eq_true rfl) ⟨(Nat.le_of_ble_eq_true rfl), (Nat.le_of_ble_eq_true rfl)⟩ (by first | assumption | decide | (simp only [nv] at *; omega)) rfl rfl (c_X3_body hbar hb12) ?_
  refine g_X0_0 dX3_countPieces_8 fl_X3_122 (show bar < 15 by omega) ?_
  refine j_V1g mf_X8_countPieces ml_X3_126 dX3_countPieces_11 (Nat.le_of_ble_eq_true rfl) (Nat.le_of_ble_eq_true rfl) (Nat.le_of_ble_eq_true rfl) ⟨(Nat.le_of_ble_eq_true rfl), (Nat.le_of_ble_eq_true rfl)⟩ (by first | assumption | decide | (simp only [nv] at *; omega)) rfl rfl (c_X8_countPieces (show bar < 25 by omega)) ?_
  intro v M9 h9
  obtain ⟨rfl, R, P, rfl⟩ := h9
  exact j_iret dX3_countPieces_14 rfl rfl (Nat.le_of_ble_eq_true rfl) (Nat.le_of_ble_eq_true rfl) ⟨rfl, R, P, rfl⟩
