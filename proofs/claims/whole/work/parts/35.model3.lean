/-! the model: its counts and plain answers -/
def ctK (P : Nat → Prop) [∀ i, Decidable (P i)] : Nat → Int32
  | 0 => nI 0
  | i + 1 => ctK P i + (if P i then nI 0 else nI 1)
theorem ctK_0 (P : Nat → Prop) [∀ i, Decidable (P i)] : ctK P 0 = nI 0 := by rw [ctK]
theorem ctK_t {P : Nat → Prop} [∀ i, Decidable (P i)] {i : Nat} (h : P i) : ctK P (i + 1) = ctK P i + nI 0 := by rw [ctK, if_pos h]
theorem ctK_f {P : Nat → Prop} [∀ i, Decidable (P i)] {i : Nat} (h : ¬ P i) : ctK P (i + 1) = ctK P i + nI 1 := by rw [ctK, if_neg h]
set_option maxRecDepth 100000 in
set_option maxHeartbeats 4000000 in
theorem c_X10_volume {l : Launch} {E : Ev} {M : Mm}   : Ct l E yX10_volume cX10_volume 3 (some .int) 1 0 0 [.ref (eA E 12 0)] M (dv (.int (ctK (fun i => mI M 54 i = 0) 512)) (cdM M (nI 0))) := by
  refine Ct.of (own := RX10) rfl [some (.ref (eA E 12 0)), none, none] (by decide) (Nat.le_of_ble_eq_true rfl) rfl ?_
  obtain ⟨w, hw, ht⟩ : ∃ w, w = 512 ∧ ctK (fun i => mI M 54 i = 0) 512 = ctK (fun i => mI M 54 i = 0) w := ⟨512, rfl, rfl⟩
  rw [ht]
  have K : ∀ i, i ≤ w → Jd l E RX10 cX10_volume 3 (some .int) [] (rmm 1 0 0) (QfN E (dv (.int (ctK (fun i => mI M 54 i = 0) w)) (cdM M (nI 0))) 0 0) 0 0 9 [some (.ref (eA E 12 0)), some (.int (ctK (fun i => mI M 54 i = 0) i)), some (.int (nI i))] [] (cdM M (nI 0)) := by
    refine up_to w _ ?_ (fun i hi ih => ?_)
    · refine j_iln dX10_volume_9 rfl rfl ?_
      refine j_siN 512 dX10_volume_10 rfl ?_
      refine j_icgeN (tgt := 39) dX10_volume_13 (by decide) (by omega) (by omega) (fun h13 => ?_) (fun h13 => ?_)
      · refine j_iln dX10_volume_39 rfl rfl ?_
        exact j_iret dX10_volume_40 rfl rfl (Nat.le_of_ble_eq_true rfl) (Nat.le_of_ble_eq_true rfl) ⟨rfl, rfl⟩
      · exact absurd (Nat.le_of_eq hw.symm) h13
    · refine j_iln dX10_volume_9 rfl rfl ?_
      refine j_siN 512 dX10_volume_10 rfl ?_
      refine j_icgeN (tgt := 39) dX10_volume_13 (by decide) (by omega) (by omega) (fun h13 => ?_) (fun h13 => ?_)
      · exact absurd h13 (by omega)
      · refine j_iln dX10_volume_16 rfl rfl ?_
        refine j_aln dX10_volume_17 rfl rfl ?_
        refine g_X10_21 dX10_volume_18 fl_X10_54 ?_
        refine j_iln dX10_volume_21 rfl rfl ?_
        refine j_azldN dX10_volume_22 rfl rfl rfl (by decide) (by omega) ?_
        refine j_ifeq (tgt := 30) dX10_volume_23 (by decide) (fun h23 => ?_) (fun h23 => ?_)
        · have hg : ctK (fun i => mI M 54 i = 0) (i + 1) = ctK (fun i => mI M 54 i = 0) i + nI 0 := ctK_t h23
          refine j_icN 0 dX10_volume_30 rfl ?_
          refine j_iadd dX10_volume_31 ?_
          refine j_ist_1 dX10_volume_32 (by decide) rfl ?_
          refine j_incN_2 1 dX10_volume_33 rfl (by decide) rfl ?_
          refine j_goto (tgt := 9) dX10_volume_36 (by decide) ?_
          rw [hg] at ih
          exact ih
        · have hg : ctK (fun i => mI M 54 i = 0) (i + 1) = ctK (fun i => mI M 54 i = 0) i + nI 1 := ctK_f h23
          refine j_icN 1 dX10_volume_26 rfl ?_
          refine j_goto (tgt := 31) dX10_volume_27 (by decide) ?_
          refine j_iadd dX10_volume_31 ?_
          refine j_ist_1 dX10_volume_32 (by decide) rfl ?_
          refine j_incN_2 1 dX10_volume_33 rfl (by decide) rfl ?_
          refine j_goto (tgt := 9) dX10_volume_36 (by decide) ?_
          rw [hg] at ih
          exact ih
  refine j_aln dX10_volume_0 rfl rfl ?_
  refine j_icN 0 dX10_volume_1 rfl ?_
  refine p_X10_0 dX10_volume_2 fl_X10_96 ?_
  refine j_icN 0 dX10_volume_5 rfl ?_
  refine j_ist_1 dX10_volume_6 (by decide) rfl ?_
  refine j_icN 0 dX10_volume_7 rfl ?_
  refine j_ist_2 dX10_volume_8 (by decide) rfl ?_
  have K0 := K 0 (by omega)
  rw [ctK_0] at K0
  exact K0
set_option maxRecDepth 100000 in
set_option maxHeartbeats 4000000 in
theorem c_X10_freedoms {l : Launch} {E : Ev} {M : Mm}   : Ct l E yX10_freedoms cX10_freedoms 1 (some .int) 1 0 0 [.ref (eA E 12 0)] M (dv (.int (nI 3 * mI M 12 27 - mI M 12 31)) (cdM M (nI 0))) := by
  refine Ct.of (own := RX10) rfl [some (.ref (eA E 12 0))] (by decide) (Nat.le_of_ble_eq_true rfl) rfl ?_
  refine j_aln dX10_freedoms_0 rfl rfl ?_
  refine j_icN 0 dX10_freedoms_1 rfl ?_
  refine p_X10_0 dX10_freedoms_2 fl_X10_96 ?_
  refine j_icN 3 dX10_freedoms_5 rfl ?_
  refine j_aln dX10_freedoms_6 rfl rfl ?_
  refine g_X10_27 dX10_freedoms_7 fl_X10_231 ?_
  refine j_imul dX10_freedoms_10 ?_
  refine j_aln dX10_freedoms_11 rfl rfl ?_
  refine g_X10_31 dX10_freedoms_12 fl_X10_237 ?_
  refine j_isub dX10_freedoms_15 ?_
  exact j_iret dX10_freedoms_16 rfl rfl (Nat.le_of_ble_eq_true rfl) (Nat.le_of_ble_eq_true rfl) ⟨rfl, rfl⟩
set_option maxRecDepth 100000 in
set_option maxHeartbeats 4000000 in
theorem c_X10_isSound {l : Launch} {E : Ev} {M : Mm}   : Ct l E yX10_isSound cX10_isSound 1 (some .boolean) 1 0 0 [.ref (eA E 12 0)] M (dv (.int (nI 1)) (cdM M (nI 0))) := by
  refine Ct.of (own := RX10) rfl [some (.ref (eA E 12 0))] (by decide) (Nat.le_of_ble_eq_true rfl) rfl ?_
  refine j_aln dX10_isSound_0 rfl rfl ?_
  refine j_icN 0 dX10_isSound_1 rfl ?_
  refine p_X10_0 dX10_isSound_2 fl_X10_96 ?_
  refine j_icN 1 dX10_isSound_5 rfl ?_
  exact j_iret dX10_isSound_6 rfl (by decide) (Nat.le_of_ble_eq_true rfl) (Nat.le_of_ble_eq_true rfl) ⟨rfl, rfl⟩
set_option maxRecDepth 100000 in
set_option maxHeartbeats 4000000 in
theorem c_X10_has {l : Launch} {E : Ev} {M : Mm} {x y z : Int32}  : Ct l E yX10_has cX10_has 5 (some .boolean) 3 0 0 [.ref (eA E 12 0), .int x, .int y, .int z] M (dv (.int (bI (if clX x y z = -1 then false else decide (¬ mI M 54 (ntX (clX x y z)) = 0)))) (cdM M (if clX x y z = -1 then nI 1 else nI 0))) := by
  refine Ct.of (own := RX10) rfl [some (.ref (eA E 12 0)), some (.int x), some (.int y), some (.int z), none] (by decide) (Nat.le_of_ble_eq_true rfl) rfl ?_
  refine j_iln dX10_has_0 rfl rfl ?_
  refine j_iln dX10_has_1 rfl rfl ?_
  refine j_iln dX10_has_2 rfl rfl ?_
  refine j_S3d mf_X10_cell ml_X10_180 dX10_has_3 (Nat.le_of_ble_eq_true rfl) (Nat.le_of_ble_eq_true rfl) (Nat.le_of_ble_eq_true rfl) ⟨(Nat.le_of_ble_eq_true rfl), (Nat.le_of_ble_eq_true rfl)⟩ c_X10_cell ?_
  refine j_ist_4 dX10_has_6 (by decide) rfl ?_
  refine j_aln dX10_has_8 rfl rfl ?_
  refine j_il dX10_has_9 rfl ?_
  refine j_ic (v := (-1)) dX10_has_11 (by decide) ?_
  refine j_icne (tgt := 19) dX10_has_12 (by decide) (fun h12 => ?_) (fun h12 => ?_)
  · have hM : (if clX x y z = -1 then nI 1 else nI 0) = nI 0 := if_neg h12
    refine j_icN 0 dX10_has_19 rfl ?_
    refine p_X10_0 dX10_has_20 fl_X10_96 ?_
    refine j_il dX10_has_23 rfl ?_
    refine j_ic (v := (-1)) dX10_has_25 (by decide) ?_
    refine j_iceq (tgt := 43) dX10_has_26 (by decide) (fun h26 => ?_) (fun h26 => ?_)
    · have hr : (if clX x y z = -1 then false else decide (¬ mI M 54 (ntX (clX x y z)) = 0)) = false := if_pos h26
      refine j_icN 0 dX10_has_43 rfl ?_
      exact j_iret dX10_has_44 rfl (by decide) (Nat.le_of_ble_eq_true rfl) (Nat.le_of_ble_eq_true rfl) ⟨by rw [hr]; rfl, by rw [hM]⟩
    · obtain ⟨t, ht, hte⟩ := clX_n h26
      refine j_aln dX10_has_29 rfl rfl ?_
      refine g_X10_21 dX10_has_30 fl_X10_54 ?_
      refine j_il dX10_has_33 rfl ?_
      refine j_azld t dX10_has_35 rfl rfl rfl hte (by omega) (by decide) ?_
      refine j_ifeq (tgt := 43) dX10_has_36 (by decide) (fun h36 => ?_) (fun h36 => ?_)
      · have hr : (if clX x y z = -1 then false else decide (¬ mI M 54 (ntX (clX x y z)) = 0)) = false := by rw [if_neg h26, hte, ntX_nI (by omega)]; exact decide_eq_false (fun q => q h36)
        refine j_icN 0 dX10_has_43 rfl ?_
        exact j_iret dX10_has_44 rfl (by decide) (Nat.le_of_ble_eq_true rfl) (Nat.le_of_ble_eq_true rfl) ⟨by rw [hr]; rfl, by rw [hM]⟩
      · have hr : (if clX x y z = -1 then false else decide (¬ mI M 54 (ntX (clX x y z)) = 0)) = true := by rw [if_neg h26, hte, ntX_nI (by omega)]; exact decide_eq_true h36
        refine j_icN 1 dX10_has_39 rfl ?_
        refine j_goto (tgt := 44) dX10_has_40 (by decide) ?_
        exact j_iret dX10_has_44 rfl (by decide) (Nat.le_of_ble_eq_true rfl) (Nat.le_of_ble_eq_true rfl) ⟨by rw [hr]; rfl, by rw [hM]⟩
  · have hM : (if clX x y z = -1 then nI 1 else nI 0) = nI 1 := if_pos h12
    refine j_icN 1 dX10_has_15 rfl ?_
    refine j_goto (tgt := 20) dX10_has_16 (by decide) ?_
    refine p_X10_0 dX10_has_20 fl_X10_96 ?_
    refine j_il dX10_has_23 rfl ?_
    refine j_ic (v := (-1)) dX10_has_25 (by decide) ?_
    refine j_iceq (tgt := 43) dX10_has_26 (by decide) (fun h26 => ?_) (fun h26 => ?_)
    · have hr : (if clX x y z = -1 then false else decide (¬ mI M 54 (ntX (clX x y z)) = 0)) = false := if_pos h26
      refine j_icN 0 dX10_has_43 rfl ?_
      exact j_iret dX10_has_44 rfl (by decide) (Nat.le_of_ble_eq_true rfl) (Nat.le_of_ble_eq_true rfl) ⟨by rw [hr]; rfl, by rw [hM]⟩
    · obtain ⟨t, ht, hte⟩ := clX_n h26
      refine j_aln dX10_has_29 rfl rfl ?_
      refine g_X10_21 dX10_has_30 fl_X10_54 ?_
      refine j_il dX10_has_33 rfl ?_
      refine j_azld t dX10_has_35 rfl rfl rfl hte (by omega) (by decide) ?_
      refine j_ifeq (tgt := 43) dX10_has_36 (by decide) (fun h36 => ?_) (fun h36 => ?_)
      · have hr : (if clX x y z = -1 then false else decide (¬ mI M 54 (ntX (clX x y z)) = 0)) = false := by rw [if_neg h26, hte, ntX_nI (by omega)]; exact decide_eq_false (fun q => q h36)
        refine j_icN 0 dX10_has_43 rfl ?_
        exact j_iret dX10_has_44 rfl (by decide) (Nat.le_of_ble_eq_true rfl) (Nat.le_of_ble_eq_true rfl) ⟨by rw [hr]; rfl, by rw [hM]⟩
      · have hr : (if clX x y z = -1 then false else decide (¬ mI M 54 (ntX (clX x y z)) = 0)) = true := by rw [if_neg h26, hte, ntX_nI (by omega)]; exact decide_eq_true h36
        refine j_icN 1 dX10_has_39 rfl ?_
        refine j_goto (tgt := 44) dX10_has_40 (by decide) ?_
        exact j_iret dX10_has_44 rfl (by decide) (Nat.le_of_ble_eq_true rfl) (Nat.le_of_ble_eq_true rfl) ⟨by rw [hr]; rfl, by rw [hM]⟩
set_option maxRecDepth 100000 in
set_option maxHeartbeats 4000000 in
theorem c_X10_hasAnew {l : Launch} {E : Ev} {M : Mm} {x y z : Int32}  : Ct l E yX10_hasAnew cX10_hasAnew 4 (some .boolean) 4 0 0 [.ref (eA E 12 0), .int x, .int y, .int z] M (dv (.int (bI (if clX x y z = -1 then false else decide (¬ mI M 54 (ntX (clX x y z)) = 0)))) (cdM M (if clX x y z = -1 then nI 1 else nI 0))) := by
  refine Ct.of (own := RX10) rfl [some (.ref (eA E 12 0)), some (.int x), some (.int y), some (.int z)] (by decide) (Nat.le_of_ble_eq_true rfl) rfl ?_
  refine j_aln dX10_hasAnew_0 rfl rfl ?_
  refine j_iln dX10_hasAnew_1 rfl rfl ?_
  refine j_iln dX10_hasAnew_2 rfl rfl ?_
  refine j_iln dX10_hasAnew_3 rfl rfl ?_
  refine j_V3d mf_X10_has ml_X10_214 dX10_hasAnew_4 (Nat.le_of_ble_eq_true rfl) (Nat.le_of_ble_eq_true rfl) (Nat.le_of_ble_eq_true rfl) ⟨(Nat.le_of_ble_eq_true rfl), (Nat.le_of_ble_eq_true rfl)⟩ (by first | assumption | decide | (simp only [nv] at *; omega)) rfl rfl c_X10_has ?_
  exact j_iret dX10_hasAnew_7 rfl (bI_nar _) (Nat.le_of_ble_eq_true rfl) (Nat.le_of_ble_eq_true rfl) ⟨rfl, rfl⟩
