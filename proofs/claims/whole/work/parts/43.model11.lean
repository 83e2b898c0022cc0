/-! the model: state -/
theorem mF_n {M : Mm} {x : Int32} {gv : Nat} (hg : mI M 12 5 = nI gv) (hg40 : gv ≤ 40) (h : mF M x = true) : ∃ g, g < gv ∧ x = nI g := by
  unfold mF at h
  rw [hg, Bool.and_eq_true] at h
  exact le_gv hg40 h.1
set_option maxRecDepth 100000 in
set_option maxHeartbeats 4000000 in
theorem c_X10_state {l : Launch} {E : Ev} {M : Mm} {cnt gv bar : Nat} {x : Int32} (hg : mI M 12 5 = nI gv) (hg40 : gv ≤ 40) (hc12 : cnt ≤ 12) (hbar : mI M 12 7 = nI bar) (hb12 : bar ≤ 12) (hz49 : ∀ g, g < 40 → narrow .char (.int (mI M 49 g)) = .int (mI M 49 g)) (hpl : ∀ x, mF M x = true → ∃ p, p < cnt ∧ mI M 44 p = x ∧ ∀ j, j < p → ¬ mI M 44 j = x) : Ct l E yX10_state cX10_state 2 (some .char) 3 0 0 [.ref (eA E 12 0), .int x] M (fun v M1 => (mF M x = false ∧ v = some (.int (nI 0)) ∧ M1 = cdM M (nI 1)) ∨ (mF M x = true ∧ v = some (.int (if ¬ mI M 48 (ntX x) = 0 then nI 111 else if fpX cnt (mI M 44) x < nI bar then mI M 49 (ntX x) else nI 98)) ∧ M1 = cdM M (nI 0))) := by
  refine Ct.of (own := RX10) rfl [some (.ref (eA E 12 0)), some (.int x)] (by decide) (Nat.le_of_ble_eq_true rfl) rfl ?_
  refine j_aln dX10_state_0 rfl rfl ?_
  refine j_aln dX10_state_1 rfl rfl ?_
  refine j_iln dX10_state_2 rfl rfl ?_
  refine j_V1d mf_X10_isFeature ml_X10_150 dX10_state_3 (Nat.le_of_ble_eq_true rfl) (Nat.le_of_ble_eq_true rfl) (Nat.le_of_ble_eq_true rfl) ⟨(Nat.le_of_ble_eq_true rfl), (Nat.le_of_ble_eq_true rfl)⟩ (by first | assumption | decide | (simp only [nv] at *; omega)) rfl rfl (c_X10_isFeature hg hg40) ?_
  refine j_ifeq (tgt := 13) dX10_state_6 (by decide) (fun h6 => ?_) (fun h6 => ?_)
  · have hk := bI_eq.mp h6
    refine j_icN 1 dX10_state_13 rfl ?_
    refine p_X10_0 dX10_state_14 fl_X10_96 ?_
    refine j_aln dX10_state_17 rfl rfl ?_
    refine g_X10_0 dX10_state_18 fl_X10_96 ?_
    refine j_ifle (tgt := 28) dX10_state_21 (by decide) (fun h21 => ?_) (fun h21 => ?_)
    · exact absurd (show (nI 1 : Int32) ≤ 0 from h21) (by decide)
    · refine j_icN 0 dX10_state_24 rfl ?_
      refine j_goto (tgt := 65) dX10_state_25 (by decide) ?_
      exact j_iret dX10_state_65 rfl rfl (Nat.le_of_ble_eq_true rfl) (Nat.le_of_ble_eq_true rfl) (Or.inl ⟨hk, rfl, rfl⟩)
  · have hk := bI_ne.mp h6
    refine j_icN 0 dX10_state_9 rfl ?_
    refine j_goto (tgt := 14) dX10_state_10 (by decide) ?_
    refine p_X10_0 dX10_state_14 fl_X10_96 ?_
    refine j_aln dX10_state_17 rfl rfl ?_
    refine g_X10_0 dX10_state_18 fl_X10_96 ?_
    refine j_ifle (tgt := 28) dX10_state_21 (by decide) (fun h21 => ?_) (fun h21 => ?_)
    · obtain ⟨p, hpc, hpx, hpf⟩ := hpl x hk
      have hfp : fpX cnt (mI M 44) x = nI p := fpX_t hpc hpf hpx
      obtain ⟨g, hgg, rfl⟩ := mF_n hg hg40 hk
      refine j_aln dX10_state_28 rfl rfl ?_
      refine g_X10_12 dX10_state_29 fl_X10_36 ?_
      refine j_iln dX10_state_32 rfl rfl ?_
      refine j_azldN dX10_state_33 rfl rfl rfl (by decide) (by omega) ?_
      refine j_ifeq (tgt := 42) dX10_state_34 (by decide) (fun h34 => ?_) (fun h34 => ?_)
      · have h34 : mI M 48 g = 0 := h34
        refine j_aln dX10_state_42 rfl rfl ?_
        refine j_iln dX10_state_43 rfl rfl ?_
        refine j_V1d mf_X10_placeOf ml_X10_156 dX10_state_44 (Nat.le_of_ble_eq_true rfl) (Nat.le_of_ble_eq_true rfl) (Nat.le_of_ble_eq_true rfl) ⟨(Nat.le_of_ble_eq_true rfl), (Nat.le_of_ble_eq_true rfl)⟩ (by first | assumption | decide | (simp only [nv] at *; omega)) rfl rfl (c_X10_placeOf (M := cdM M (nI 0)) (show p < 13 by omega) hpx hpf) ?_
        refine j_aln dX10_state_47 rfl rfl ?_
        refine g_X10_7 dX10_state_48 fl_X10_137 ?_
        refine j_topi hbar ?_
        refine j_iclt (tgt := 59) dX10_state_51 (by decide) (fun h51 => ?_) (fun h51 => ?_)
        · have hr : (if ¬ mI M 48 (ntX (nI g)) = 0 then nI 111 else if fpX cnt (mI M 44) (nI g) < nI bar then mI M 49 (ntX (nI g)) else nI 98) = mI M 49 g := by rw [ntX_nI (show g < 2 ^ 31 by omega), if_neg (fun q => q h34), hfp, if_pos h51]
          refine j_aln dX10_state_59 rfl rfl ?_
          refine g_X10_13 dX10_state_60 fl_X10_39 ?_
          refine j_iln dX10_state_63 rfl rfl ?_
          refine j_acldN dX10_state_64 rfl rfl rfl (by decide) (by omega) ?_
          exact j_iret dX10_state_65 rfl (by first | rfl | exact hz49 _ (by omega)) (Nat.le_of_ble_eq_true rfl) (Nat.le_of_ble_eq_true rfl) (Or.inr ⟨hk, by first | (rw [hr]; done) | (rw [hr]; rfl), rfl⟩)
        · have hr : (if ¬ mI M 48 (ntX (nI g)) = 0 then nI 111 else if fpX cnt (mI M 44) (nI g) < nI bar then mI M 49 (ntX (nI g)) else nI 98) = nI 98 := by rw [ntX_nI (show g < 2 ^ 31 by omega), if_neg (fun q => q h34), hfp, if_neg h51]
          refine j_biN 98 dX10_state_54 rfl ?_
          refine j_goto (tgt := 65) dX10_state_56 (by decide) ?_
          exact j_iret dX10_state_65 rfl (by first | rfl | exact hz49 _ (by omega)) (Nat.le_of_ble_eq_true rfl) (Nat.le_of_ble_eq_true rfl) (Or.inr ⟨hk, by first | (rw [hr]; done) | (rw [hr]; rfl), rfl⟩)
      · have hr : (if ¬ mI M 48 (ntX (nI g)) = 0 then nI 111 else if fpX cnt (mI M 44) (nI g) < nI bar then mI M 49 (ntX (nI g)) else nI 98) = nI 111 := by rw [ntX_nI (show g < 2 ^ 31 by omega)]; exact if_pos h34
        refine j_biN 111 dX10_state_37 rfl ?_
        refine j_goto (tgt := 65) dX10_state_39 (by decide) ?_
        exact j_iret dX10_state_65 rfl (by first | rfl | exact hz49 _ (by omega)) (Nat.le_of_ble_eq_true rfl) (Nat.le_of_ble_eq_true rfl) (Or.inr ⟨hk, by first | (rw [hr]; done) | (rw [hr]; rfl), rfl⟩)
    · exact absurd (show (nI 0 : Int32) ≤ 0 by decide) h21
