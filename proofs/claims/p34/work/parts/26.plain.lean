/-! the object: its plain answers -/
theorem nm_n {x : Int32} (h : isNm x = true) : ∃ n, n < 8 ∧ x = nI n := nn_lt (by decide) (of_decide_eq_true h).1 (of_decide_eq_true h).2
theorem ax_n {x : Int32} (h : axX x = true) : ∃ n, n < 3 ∧ x = nI n := nn_lt (by decide) (of_decide_eq_true h).1 (of_decide_eq_true h).2
theorem sd_n {x : Int32} (h : sdX x = true) : ∃ n, n < 6 ∧ x = nI n := nn_lt (by decide) (of_decide_eq_true h).1 (of_decide_eq_true h).2
theorem pt_n {cnt : Nat} {x : Int32} (hc : cnt < 2 ^ 31) (h : prX (nI cnt) x = true) : ∃ n, n < cnt ∧ x = nI n := nn_lt hc (of_decide_eq_true h).1 (Int32.not_le.mpr (of_decide_eq_true h).2)
set_option maxRecDepth 100000 in
set_option maxHeartbeats 4000000 in
theorem c_X9_number {l : Launch} {E : Ev} {M : Mm} (hl9 : l.stackTraces = false) {x : Int32}  : CtX l E yX9_number cX9_number 2 (some .int) 6 [.ref (eA E 0 0), .int x] M (fun v M1 => isNm x = true ∧ v = some (.int (mI M 23 (ntX x))) ∧ M1 = M) (fun c M1 => isNm x = false ∧ c = "java/lang/IllegalArgumentException" ∧ M1 = M) := by
  refine CtX.of (own := RX9) rfl [some (.ref (eA E 0 0)), some (.int x)] (by decide) (Nat.le_of_ble_eq_true rfl) rfl ?_
  refine j_iln dX9_number_0 rfl rfl ?_
  refine j_S1d mf_X5_isName ml_X9_23 dX9_number_1 (Nat.le_of_ble_eq_true rfl) (Nat.le_of_ble_eq_true rfl) (Nat.le_of_ble_eq_true rfl) ⟨(Nat.le_of_ble_eq_true rfl), (Nat.le_of_ble_eq_true rfl)⟩ c_X5_isName ?_
  refine j_ifne (tgt := 17) dX9_number_4 (by decide) (fun h4 => ?_) (fun h4 => ?_)
  · have hk := bI_ne.mp h4
    obtain ⟨n, hn, rfl⟩ := nm_n hk
    rw [ntX_nI (by omega)]
    refine j_aln dX9_number_17 rfl rfl ?_
    refine g_X9_0 dX9_number_18 fl_X9_10 ?_
    refine g_X3_0 dX9_number_21 fl_X9_43 ?_
    refine g_X2_0 dX9_number_24 fl_X9_47 ?_
    refine g_X5_3 dX9_number_27 fl_X9_86 ?_
    refine j_iln dX9_number_30 rfl rfl ?_
    refine j_aildN dX9_number_31 rfl rfl rfl (by decide) (by omega) ?_
    exact j_iretX dX9_number_32 rfl rfl (Nat.le_of_ble_eq_true rfl) (Nat.le_of_ble_eq_true rfl) ⟨hk, rfl, rfl⟩
  · have hk : isNm x = false := bI_eq.mp h4
    exact j_throwS (text := "no such name") hl9 thr_36 (by decide +kernel) dX9_number_7 dX9_number_10 dX9_number_11 dX9_number_13 dX9_number_16 (Nat.le_of_ble_eq_true rfl) (Nat.le_of_ble_eq_true rfl) ⟨hk, rfl, rfl⟩
set_option maxRecDepth 100000 in
set_option maxHeartbeats 4000000 in
theorem c_X9_place {l : Launch} {E : Ev} {M : Mm} (hl9 : l.stackTraces = false) (hnse : NseR l E) {cnt : Nat} {x : Int32} (hcnt : mI M 2 5 = nI cnt) (hc12 : cnt ≤ 12) : CtX l E yX9_place cX9_place 3 (some .int) 6 [.ref (eA E 0 0), .int x] M (fun v M1 => 0 ≤ fpX cnt (mI M 24) x ∧ v = some (.int (fpX cnt (mI M 24) x)) ∧ M1 = M) (fun c M1 => fpX cnt (mI M 24) x < 0 ∧ c = "java/util/NoSuchElementException" ∧ M1 = M) := by
  refine CtX.of (own := RX9) rfl [some (.ref (eA E 0 0)), some (.int x), none] (by decide) (Nat.le_of_ble_eq_true rfl) rfl ?_
  refine j_aln dX9_place_0 rfl rfl ?_
  refine g_X9_0 dX9_place_1 fl_X9_10 ?_
  refine g_X3_0 dX9_place_4 fl_X9_43 ?_
  refine j_iln dX9_place_7 rfl rfl ?_
  refine j_V1d mf_X2_findPlace ml_X9_123 dX9_place_8 (Nat.le_of_ble_eq_true rfl) (Nat.le_of_ble_eq_true rfl) (Nat.le_of_ble_eq_true rfl) ⟨(Nat.le_of_ble_eq_true rfl), (Nat.le_of_ble_eq_true rfl)⟩ (by first | assumption | decide | (simp only [nv] at *; omega)) rfl rfl (c_X2_findPlace hcnt hc12) ?_
  refine j_ist_2 dX9_place_11 (by decide) rfl ?_
  refine j_iln dX9_place_12 rfl rfl ?_
  refine j_ifge (tgt := 26) dX9_place_13 (by decide) (fun h13 => ?_) (fun h13 => ?_)
  · refine j_iln dX9_place_26 rfl rfl ?_
    exact j_iretX dX9_place_27 rfl rfl (Nat.le_of_ble_eq_true rfl) (Nat.le_of_ble_eq_true rfl) ⟨h13, rfl, rfl⟩
  · exact hnse _ _ _ _ _ _ _ _ _ _ _ "no such feature" (by decide +kernel) dX9_place_16 dX9_place_19 dX9_place_20 dX9_place_22 dX9_place_25 (Nat.le_of_ble_eq_true rfl) (Nat.le_of_ble_eq_true rfl) ⟨Int32.not_le.mp h13, rfl, rfl⟩
set_option maxRecDepth 100000 in
set_option maxHeartbeats 4000000 in
theorem c_X9_worked {l : Launch} {E : Ev} {M : Mm}   : Ct l E yX9_worked cX9_worked 1 (some .long) 1 0 0 [.ref (eA E 0 0)] M (dv (.long (mW M 0)) M) := by
  refine Ct.of (own := RX9) rfl [some (.ref (eA E 0 0))] (by decide) (Nat.le_of_ble_eq_true rfl) rfl ?_
  refine j_aln dX9_worked_0 rfl rfl ?_
  refine g_X9_0 dX9_worked_1 fl_X9_10 ?_
  refine g_X3_2 dX9_worked_4 fl_X9_162 ?_
  exact j_lret dX9_worked_7 rfl (Nat.le_of_ble_eq_true rfl) (Nat.le_of_ble_eq_true rfl) ⟨rfl, rfl⟩
set_option maxRecDepth 100000 in
set_option maxHeartbeats 4000000 in
theorem c_X9_has {l : Launch} {E : Ev} {M : Mm} (hl9 : l.stackTraces = false) {bar : Nat} {x y z : Int32} (hbar : mI M 2 7 = nI bar) (hb12 : bar ≤ 12) : CtX l E yX9_has cX9_has 4 (some .boolean) 6 [.ref (eA E 0 0), .int x, .int y, .int z] M (fun v M1 => insd x y z = true ∧ v = some (.int (bI (cel (mL M bar) x y z))) ∧ M1 = M) (fun c M1 => insd x y z = false ∧ c = "java/lang/IndexOutOfBoundsException" ∧ M1 = M) := by
  refine CtX.of (own := RX9) rfl [some (.ref (eA E 0 0)), some (.int x), some (.int y), some (.int z)] (by decide) (Nat.le_of_ble_eq_true rfl) rfl ?_
  refine j_iln dX9_has_0 rfl rfl ?_
  refine j_iln dX9_has_1 rfl rfl ?_
  refine j_iln dX9_has_2 rfl rfl ?_
  refine j_S3d mf_X1_isInside ml_X9_166 dX9_has_3 (Nat.le_of_ble_eq_true rfl) (Nat.le_of_ble_eq_true rfl) (Nat.le_of_ble_eq_true rfl) ⟨(Nat.le_of_ble_eq_true rfl), (Nat.le_of_ble_eq_true rfl)⟩ c_X1_isInside ?_
  refine j_ifne (tgt := 19) dX9_has_6 (by decide) (fun h6 => ?_) (fun h6 => ?_)
  · have hk := bI_ne.mp h6
    refine j_aln dX9_has_19 rfl rfl ?_
    refine g_X9_0 dX9_has_20 fl_X9_10 ?_
    refine j_V0d mf_X3_body ml_X9_173 dX9_has_23 (Nat.le_of_ble_eq_true rfl) (Nat.le_of_ble_eq_true rfl) (Nat.le_of_ble_eq_true rfl) ⟨(Nat.le_of_ble_eq_true rfl), (Nat.le_of_ble_eq_true rfl)⟩ (by first | assumption | decide | (simp only [nv] at *; omega)) rfl rfl (c_X3_body hbar hb12) ?_
    refine g_X0_0 dX9_has_26 fl_X9_177 (show bar < 15 by omega) ?_
    refine j_iln dX9_has_29 rfl rfl ?_
    refine j_iln dX9_has_30 rfl rfl ?_
    refine j_iln dX9_has_31 rfl rfl ?_
    refine j_V3d mf_X1_contains ml_X9_183 dX9_has_32 (Nat.le_of_ble_eq_true rfl) (Nat.le_of_ble_eq_true rfl) (Nat.le_of_ble_eq_true rfl) ⟨(Nat.le_of_ble_eq_true rfl), (Nat.le_of_ble_eq_true rfl)⟩ (by first | assumption | decide | (simp only [nv] at *; omega)) rfl rfl (c_X1_contains (show bar < 25 by omega)) ?_
    exact j_iretX dX9_has_35 rfl (bI_nar _) (Nat.le_of_ble_eq_true rfl) (Nat.le_of_ble_eq_true rfl) ⟨hk, rfl, rfl⟩
  · have hk : insd x y z = false := bI_eq.mp h6
    exact j_throwS (text := "no such cell") hl9 thr_143 (by decide +kernel) dX9_has_9 dX9_has_12 dX9_has_13 dX9_has_15 dX9_has_18 (Nat.le_of_ble_eq_true rfl) (Nat.le_of_ble_eq_true rfl) ⟨hk, rfl, rfl⟩
set_option maxRecDepth 100000 in
set_option maxHeartbeats 4000000 in
theorem c_X9_hasAnew {l : Launch} {E : Ev} {M : Mm} (hl9 : l.stackTraces = false) {cnt bar : Nat} {fr : Nat → Nat} {x y z : Int32} (hbar : mI M 2 7 = nI bar) (hbc : bar ≤ cnt) (hc12 : cnt ≤ 12) (hrow : ∀ k, k < cnt → mI M 24 k = nI (fr k) ∧ fr k < 40) (hkd : ∀ k, k < cnt → seven (mI M 25 (fr k))) : CtX l E yX9_hasAnew cX9_hasAnew 4 (some .boolean) 7 [.ref (eA E 0 0), .int x, .int y, .int z] M (fun v M1 => insd x y z = true ∧ bfF M M1 ∧ SR M fr bar (mL M1 13) (mK M1 13) ∧ v = some (.int (bI (cel (mL M1 13) x y z)))) (fun c M1 => insd x y z = false ∧ c = "java/lang/IndexOutOfBoundsException" ∧ M1 = M) := by
  refine CtX.of (own := RX9) rfl [some (.ref (eA E 0 0)), some (.int x), some (.int y), some (.int z)] (by decide) (Nat.le_of_ble_eq_true rfl) rfl ?_
  refine j_iln dX9_hasAnew_0 rfl rfl ?_
  refine j_iln dX9_hasAnew_1 rfl rfl ?_
  refine j_iln dX9_hasAnew_2 rfl rfl ?_
  refine j_S3d mf_X1_isInside ml_X9_166 dX9_hasAnew_3 (Nat.le_of_ble_eq_true rfl) (Nat.le_of_ble_eq_true rfl) (Nat.le_of_ble_eq_true rfl) ⟨(Nat.le_of_ble_eq_true rfl), (Nat.le_of_ble_eq_true rfl)⟩ c_X1_isInside ?_
  refine j_ifne (tgt := 19) dX9_hasAnew_6 (by decide) (fun h6 => ?_) (fun h6 => ?_)
  · have hk := bI_ne.mp h6
    refine j_aln dX9_hasAnew_19 rfl rfl ?_
    refine g_X9_0 dX9_hasAnew_20 fl_X9_10 ?_
    refine j_V0g mf_X3_bodyFromNothing ml_X9_186 dX9_hasAnew_23 (Nat.le_of_ble_eq_true rfl) (Nat.le_of_ble_eq_true rfl) (Nat.le_of_ble_eq_true rfl) ⟨(Nat.le_of_ble_eq_true rfl), (Nat.le_of_ble_eq_true rfl)⟩ (by first | assumption | decide | (simp only [nv] at *; omega)) rfl rfl (c_X3_bodyFromNothing hbar hbc hc12 hrow hkd) ?_
    intro v M9 h9
    obtain ⟨rfl, hb9, hs9⟩ := h9
    refine g_X0_0 dX9_hasAnew_26 fl_X9_177 (show 13 < 15 by decide) ?_
    refine j_iln dX9_hasAnew_29 rfl rfl ?_
    refine j_iln dX9_hasAnew_30 rfl rfl ?_
    refine j_iln dX9_hasAnew_31 rfl rfl ?_
    refine j_V3d mf_X1_contains ml_X9_183 dX9_hasAnew_32 (Nat.le_of_ble_eq_true rfl) (Nat.le_of_ble_eq_true rfl) (Nat.le_of_ble_eq_true rfl) ⟨(Nat.le_of_ble_eq_true rfl), (Nat.le_of_ble_eq_true rfl)⟩ (by first | assumption | decide | (simp only [nv] at *; omega)) rfl rfl (c_X1_contains (show 13 < 25 by decide)) ?_
    exact j_iretX dX9_hasAnew_35 rfl (bI_nar _) (Nat.le_of_ble_eq_true rfl) (Nat.le_of_ble_eq_true rfl) ⟨hk, hb9, hs9, rfl⟩
  · have hk : insd x y z = false := bI_eq.mp h6
    exact j_throwS (text := "no such cell") hl9 thr_143 (by decide +kernel) dX9_hasAnew_9 dX9_hasAnew_12 dX9_hasAnew_13 dX9_hasAnew_15 dX9_hasAnew_18 (Nat.le_of_ble_eq_true rfl) (Nat.le_of_ble_eq_true rfl) ⟨hk, rfl, rfl⟩
set_option maxRecDepth 100000 in
set_option maxHeartbeats 4000000 in
theorem c_X9_squares {l : Launch} {E : Ev} {M : Mm} (hl9 : l.stackTraces = false) {bar : Nat} {x y : Int32} (hbar : mI M 2 7 = nI bar) (hb12 : bar ≤ 12) : CtX l E yX9_squares cX9_squares 3 (some .int) 6 [.ref (eA E 0 0), .int x, .int y] M (fun v M1 => (¬ x < 0 ∧ ¬ nI 40 ≤ x ∧ sdX y = true) ∧ v = some (.int (smI (fun z => bcl ((chA (mL M bar) (mK M bar) x y) z)) 8)) ∧ M1 = sL M 16 (chA (mL M bar) (mK M bar) x y)) (fun c M1 => ¬ (¬ x < 0 ∧ ¬ nI 40 ≤ x ∧ sdX y = true) ∧ c = "java/lang/IllegalArgumentException" ∧ M1 = M) := by
  refine CtX.of (own := RX9) rfl [some (.ref (eA E 0 0)), some (.int x), some (.int y)] (by decide) (Nat.le_of_ble_eq_true rfl) rfl ?_
  refine j_iln dX9_squares_0 rfl rfl ?_
  refine j_iflt (tgt := 17) dX9_squares_1 (by decide) (fun h1 => ?_) (fun h1 => ?_)
  · have hx : ¬ (¬ x < 0 ∧ ¬ nI 40 ≤ x ∧ sdX y = true) := fun q => q.1 h1
    exact j_throwS (text := "no such number or side") hl9 thr_36 (by decide +kernel) dX9_squares_17 dX9_squares_20 dX9_squares_21 dX9_squares_23 dX9_squares_26 (Nat.le_of_ble_eq_true rfl) (Nat.le_of_ble_eq_true rfl) ⟨hx, rfl, rfl⟩
  · refine j_iln dX9_squares_4 rfl rfl ?_
    refine j_biN 40 dX9_squares_5 rfl ?_
    refine j_icge (tgt := 17) dX9_squares_7 (by decide) (fun h7 => ?_) (fun h7 => ?_)
    · have hx : ¬ (¬ x < 0 ∧ ¬ nI 40 ≤ x ∧ sdX y = true) := fun q => q.2.1 h7
      exact j_throwS (text := "no such number or side") hl9 thr_36 (by decide +kernel) dX9_squares_17 dX9_squares_20 dX9_squares_21 dX9_squares_23 dX9_squares_26 (Nat.le_of_ble_eq_true rfl) (Nat.le_of_ble_eq_true rfl) ⟨hx, rfl, rfl⟩
    · refine j_iln dX9_squares_10 rfl rfl ?_
      refine j_S1d mf_X9_isSide ml_X9_189 dX9_squares_11 (Nat.le_of_ble_eq_true rfl) (Nat.le_of_ble_eq_true rfl) (Nat.le_of_ble_eq_true rfl) ⟨(Nat.le_of_ble_eq_true rfl), (Nat.le_of_ble_eq_true rfl)⟩ c_X9_isSide ?_
      refine j_ifne (tgt := 27) dX9_squares_14 (by decide) (fun h14 => ?_) (fun h14 => ?_)
      · have hk := bI_ne.mp h14
        obtain ⟨s, hs6, rfl⟩ := sd_n hk
        refine j_aln dX9_squares_27 rfl rfl ?_
        refine g_X9_0 dX9_squares_28 fl_X9_10 ?_
        refine j_iln dX9_squares_31 rfl rfl ?_
        refine j_iln dX9_squares_32 rfl rfl ?_
        refine j_V2d mf_X3_countNamed ml_X9_202 dX9_squares_33 (Nat.le_of_ble_eq_true rfl) (Nat.le_of_ble_eq_true rfl) (Nat.le_of_ble_eq_true rfl) ⟨(Nat.le_of_ble_eq_true rfl), (Nat.le_of_ble_eq_true rfl)⟩ (by first | assumption | decide | (simp only [nv] at *; omega)) rfl rfl (c_X3_countNamed hbar hb12 hs6) ?_
        exact j_iretX dX9_squares_36 rfl rfl (Nat.le_of_ble_eq_true rfl) (Nat.le_of_ble_eq_true rfl) ⟨⟨h1, h7, hk⟩, rfl, rfl⟩
      · have hx : ¬ (¬ x < 0 ∧ ¬ nI 40 ≤ x ∧ sdX y = true) := fun q => by rw [bI_eq.mp h14] at q; exact absurd q.2.2 (by decide)
        exact j_throwS (text := "no such number or side") hl9 thr_36 (by decide +kernel) dX9_squares_17 dX9_squares_20 dX9_squares_21 dX9_squares_23 dX9_squares_26 (Nat.le_of_ble_eq_true rfl) (Nat.le_of_ble_eq_true rfl) ⟨hx, rfl, rfl⟩
set_option maxRecDepth 100000 in
set_option maxHeartbeats 4000000 in
theorem c_X9_volume {l : Launch} {E : Ev} {M : Mm} {bar : Nat} (hbar : mI M 2 7 = nI bar) (hb12 : bar ≤ 12) : Ct l E yX9_volume cX9_volume 1 (some .int) 5 0 0 [.ref (eA E 0 0)] M (dv (.int (smI (fun z => bcl (mL M bar z)) 8)) M) := by
  refine Ct.of (own := RX9) rfl [some (.ref (eA E 0 0))] (by decide) (Nat.le_of_ble_eq_true rfl) rfl ?_
  refine j_aln dX9_volume_0 rfl rfl ?_
  refine g_X9_0 dX9_volume_1 fl_X9_10 ?_
  refine j_V0d mf_X3_body ml_X9_173 dX9_volume_4 (Nat.le_of_ble_eq_true rfl) (Nat.le_of_ble_eq_true rfl) (Nat.le_of_ble_eq_true rfl) ⟨(Nat.le_of_ble_eq_true rfl), (Nat.le_of_ble_eq_true rfl)⟩ (by first | assumption | decide | (simp only [nv] at *; omega)) rfl rfl (c_X3_body hbar hb12) ?_
  refine g_X0_0 dX9_volume_7 fl_X9_177 (show bar < 15 by omega) ?_
  refine j_V0d mf_X1_count ml_X9_206 dX9_volume_10 (Nat.le_of_ble_eq_true rfl) (Nat.le_of_ble_eq_true rfl) (Nat.le_of_ble_eq_true rfl) ⟨(Nat.le_of_ble_eq_true rfl), (Nat.le_of_ble_eq_true rfl)⟩ (by first | assumption | decide | (simp only [nv] at *; omega)) rfl rfl (c_X1_count (show bar < 25 by omega)) ?_
  exact j_iret dX9_volume_13 rfl rfl (Nat.le_of_ble_eq_true rfl) (Nat.le_of_ble_eq_true rfl) ⟨rfl, rfl⟩
set_option maxRecDepth 100000 in
set_option maxHeartbeats 4000000 in
theorem c_X9_bodies {l : Launch} {E : Ev} {M : Mm} {bar : Nat} (hbar : mI M 2 7 = nI bar) (hb12 : bar ≤ 12) : Ct l E yX9_bodies cX9_bodies 1 (some .int) 5 0 0 [.ref (eA E 0 0)] M (fun v M1 => v = some (.int (nI (pcX (mL M bar)))) ∧ ∃ R P, M1 = sL (sL M 17 R) 18 P) := by
  refine Ct.of (own := RX9) rfl [some (.ref (eA E 0 0))] (by decide) (Nat.le_of_ble_eq_true rfl) rfl ?_
  refine j_aln dX9_bodies_0 rfl rfl ?_
  refine g_X9_0 dX9_bodies_1 fl_X9_10 ?_
  refine j_V0g mf_X3_countPieces ml_X9_212 dX9_bodies_4 (Nat.le_of_ble_eq_true rfl) (Nat.le_of_ble_eq_true rfl) (Nat.le_of_ble_eq_true rfl) ⟨(Nat.le_of_ble_eq_true rfl), (Nat.le_of_ble_eq_true rfl)⟩ (by first | assumption | decide | (simp only [nv] at *; omega)) rfl rfl (c_X3_countPieces hbar hb12) ?_
  intro v M9 h9
  obtain ⟨rfl, R, P, rfl⟩ := h9
  exact j_iret dX9_bodies_7 rfl rfl (Nat.le_of_ble_eq_true rfl) (Nat.le_of_ble_eq_true rfl) ⟨rfl, R, P, rfl⟩
set_option maxRecDepth 100000 in
set_option maxHeartbeats 4000000 in
theorem c_X9_area {l : Launch} {E : Ev} {M : Mm} {bar : Nat} (hbar : mI M 2 7 = nI bar) (hb12 : bar ≤ 12) : Ct l E yX9_area cX9_area 3 (some .int) 5 0 0 [.ref (eA E 0 0)] M (dv (.int (smI (fun s => smI (fun z => bcl (sqa (mL M bar) s z)) 8) 6)) M) := by
  refine Ct.of (own := RX9) rfl [some (.ref (eA E 0 0)), none, none] (by decide) (Nat.le_of_ble_eq_true rfl) rfl ?_
  have K : ∀ s, s ≤ 6 → Jd l E RX9 cX9_area 3 (some .int) [] (rmm 5 0 0) (QfN E (dv (.int (smI (fun s => smI (fun z => bcl (sqa (mL M bar) s z)) 8) 6)) M) 0 0) 0 0 4 [some (.ref (eA E 0 0)), some (.int (smI (fun s => smI (fun z => bcl (sqa (mL M bar) s z)) 8) s)), some (.int (nI s))] [] M := by
    refine up_to 6 _ ?_ (fun s hs ih => ?_)
    · refine j_iln dX9_area_4 rfl rfl ?_
      refine j_biN 6 dX9_area_5 rfl ?_
      refine j_icgeN (tgt := 33) dX9_area_7 (by decide) (by omega) (by omega) (fun h7 => ?_) (fun h7 => ?_)
      · refine j_iln dX9_area_33 rfl rfl ?_
        exact j_iret dX9_area_34 rfl rfl (Nat.le_of_ble_eq_true rfl) (Nat.le_of_ble_eq_true rfl) ⟨rfl, rfl⟩
      · exact absurd (Nat.le_refl 6) h7
    · refine j_iln dX9_area_4 rfl rfl ?_
      refine j_biN 6 dX9_area_5 rfl ?_
      refine j_icgeN (tgt := 33) dX9_area_7 (by decide) (by omega) (by omega) (fun h7 => ?_) (fun h7 => ?_)
      · exact absurd h7 (by omega)
      · refine j_iln dX9_area_10 rfl rfl ?_
        refine j_aln dX9_area_11 rfl rfl ?_
        refine g_X9_0 dX9_area_12 fl_X9_10 ?_
        refine j_V0d mf_X3_body ml_X9_173 dX9_area_15 (Nat.le_of_ble_eq_true rfl) (Nat.le_of_ble_eq_true rfl) (Nat.le_of_ble_eq_true rfl) ⟨(Nat.le_of_ble_eq_true rfl), (Nat.le_of_ble_eq_true rfl)⟩ (by first | assumption | decide | (simp only [nv] at *; omega)) rfl rfl (c_X3_body hbar hb12) ?_
        refine g_X0_0 dX9_area_18 fl_X9_177 (show bar < 15 by omega) ?_
        refine j_iln dX9_area_21 rfl rfl ?_
        refine j_V1d mf_X1_countSquares ml_X9_209 dX9_area_22 (Nat.le_of_ble_eq_true rfl) (Nat.le_of_ble_eq_true rfl) (Nat.le_of_ble_eq_true rfl) ⟨(Nat.le_of_ble_eq_true rfl), (Nat.le_of_ble_eq_true rfl)⟩ (by first | assumption | decide | (simp only [nv] at *; omega)) rfl rfl (c_X1_countSquares (show bar < 25 by omega) (by omega)) ?_
        refine j_iadd dX9_area_25 ?_
        refine j_ist_1 dX9_area_26 (by decide) rfl ?_
        refine j_incN_2 1 dX9_area_27 rfl (by decide) rfl ?_
        refine j_goto (tgt := 4) dX9_area_30 (by decide) ?_
        exact ih
  refine j_icN 0 dX9_area_0 rfl ?_
  refine j_ist_1 dX9_area_1 (by decide) rfl ?_
  refine j_icN 0 dX9_area_2 rfl ?_
  refine j_ist_2 dX9_area_3 (by decide) rfl ?_
  exact K 0 (by omega)
set_option maxRecDepth 100000 in
set_option maxHeartbeats 4000000 in
theorem c_X9_freedoms {l : Launch} {E : Ev} {M : Mm}   : Ct l E yX9_freedoms cX9_freedoms 1 (some .int) 1 0 0 [.ref (eA E 0 0)] M (dv (.int (nI 3 * mI M 5 2 - mI M 5 3)) M) := by
  refine Ct.of (own := RX9) rfl [some (.ref (eA E 0 0))] (by decide) (Nat.le_of_ble_eq_true rfl) rfl ?_
  refine j_icN 3 dX9_freedoms_0 rfl ?_
  refine j_aln dX9_freedoms_1 rfl rfl ?_
  refine g_X9_1 dX9_freedoms_2 fl_X9_19 ?_
  refine g_X6_2 dX9_freedoms_5 fl_X9_241 ?_
  refine j_imul dX9_freedoms_8 ?_
  refine j_aln dX9_freedoms_9 rfl rfl ?_
  refine g_X9_1 dX9_freedoms_10 fl_X9_19 ?_
  refine g_X6_3 dX9_freedoms_13 fl_X9_269 ?_
  refine j_isub dX9_freedoms_16 ?_
  exact j_iret dX9_freedoms_17 rfl rfl (Nat.le_of_ble_eq_true rfl) (Nat.le_of_ble_eq_true rfl) ⟨rfl, rfl⟩
set_option maxRecDepth 100000 in
set_option maxHeartbeats 4000000 in
theorem c_X9_lines {l : Launch} {E : Ev} {M : Mm} (hl9 : l.stackTraces = false) {bar : Nat} {x : Int32} {up : Bool} (hbar : mI M 2 7 = nI bar) (hb12 : bar ≤ 12) : CtX l E yX9_lines cX9_lines 3 (some .int) 6 [.ref (eA E 0 0), .int x, .int (bI up)] M (fun v M1 => axX x = true ∧ v = some (.int (lnU (mL M bar) (ntX x) up 9)) ∧ M1 = M) (fun c M1 => axX x = false ∧ c = "java/lang/IllegalArgumentException" ∧ M1 = M) := by
  refine CtX.of (own := RX9) rfl [some (.ref (eA E 0 0)), some (.int x), some (.int (bI up))] (by decide) (Nat.le_of_ble_eq_true rfl) rfl ?_
  refine j_iln dX9_lines_0 rfl rfl ?_
  refine j_S1d mf_X9_isAxis ml_X9_221 dX9_lines_1 (Nat.le_of_ble_eq_true rfl) (Nat.le_of_ble_eq_true rfl) (Nat.le_of_ble_eq_true rfl) ⟨(Nat.le_of_ble_eq_true rfl), (Nat.le_of_ble_eq_true rfl)⟩ c_X9_isAxis ?_
  refine j_ifne (tgt := 17) dX9_lines_4 (by decide) (fun h4 => ?_) (fun h4 => ?_)
  · have hk := bI_ne.mp h4
    obtain ⟨n, hn, rfl⟩ := ax_n hk
    rw [ntX_nI (by omega)]
    refine j_aln dX9_lines_17 rfl rfl ?_
    refine g_X9_0 dX9_lines_18 fl_X9_10 ?_
    refine j_V0d mf_X3_body ml_X9_173 dX9_lines_21 (Nat.le_of_ble_eq_true rfl) (Nat.le_of_ble_eq_true rfl) (Nat.le_of_ble_eq_true rfl) ⟨(Nat.le_of_ble_eq_true rfl), (Nat.le_of_ble_eq_true rfl)⟩ (by first | assumption | decide | (simp only [nv] at *; omega)) rfl rfl (c_X3_body hbar hb12) ?_
    refine g_X0_0 dX9_lines_24 fl_X9_177 (show bar < 15 by omega) ?_
    refine j_iln dX9_lines_27 rfl rfl ?_
    refine j_iln dX9_lines_28 rfl rfl ?_
    refine j_S3d mf_X7_countLines ml_X9_304 dX9_lines_29 (Nat.le_of_ble_eq_true rfl) (Nat.le_of_ble_eq_true rfl) (Nat.le_of_ble_eq_true rfl) ⟨(Nat.le_of_ble_eq_true rfl), (Nat.le_of_ble_eq_true rfl)⟩ (c_X7_countLines (show bar < 25 by omega) hn) ?_
    exact j_iretX dX9_lines_32 rfl rfl (Nat.le_of_ble_eq_true rfl) (Nat.le_of_ble_eq_true rfl) ⟨hk, rfl, rfl⟩
  · have hk : axX x = false := bI_eq.mp h4
    exact j_throwS (text := "no such axis") hl9 thr_36 (by decide +kernel) dX9_lines_7 dX9_lines_10 dX9_lines_11 dX9_lines_13 dX9_lines_16 (Nat.le_of_ble_eq_true rfl) (Nat.le_of_ble_eq_true rfl) ⟨hk, rfl, rfl⟩
set_option maxRecDepth 100000 in
set_option maxHeartbeats 4000000 in
theorem c_X9_depth {l : Launch} {E : Ev} {M : Mm} (hl9 : l.stackTraces = false) {bar : Nat} {x u v9 : Int32} {up : Bool} (hbar : mI M 2 7 = nI bar) (hb12 : bar ≤ 12) : CtX l E yX9_depth cX9_depth 5 (some .int) 6 [.ref (eA E 0 0), .int x, .int (bI up), .int u, .int v9] M (fun v M1 => axX x = true ∧ insd u v9 0 = true ∧ v = some (.int (nI (fst8 (dpc (mL M bar) (ntX x) up u v9)))) ∧ M1 = M) (fun c M1 => ((axX x = false ∧ c = "java/lang/IllegalArgumentException") ∨ (axX x = true ∧ insd u v9 0 = false ∧ c = "java/lang/IndexOutOfBoundsException")) ∧ M1 = M) := by
  refine CtX.of (own := RX9) rfl [some (.ref (eA E 0 0)), some (.int x), some (.int (bI up)), some (.int u), some (.int v9)] (by decide) (Nat.le_of_ble_eq_true rfl) rfl ?_
  refine j_iln dX9_depth_0 rfl rfl ?_
  refine j_S1d mf_X9_isAxis ml_X9_221 dX9_depth_1 (Nat.le_of_ble_eq_true rfl) (Nat.le_of_ble_eq_true rfl) (Nat.le_of_ble_eq_true rfl) ⟨(Nat.le_of_ble_eq_true rfl), (Nat.le_of_ble_eq_true rfl)⟩ c_X9_isAxis ?_
  refine j_ifne (tgt := 17) dX9_depth_4 (by decide) (fun h4 => ?_) (fun h4 => ?_)
  · have hk := bI_ne.mp h4
    refine j_iln dX9_depth_17 rfl rfl ?_
    refine j_il dX9_depth_18 rfl ?_
    refine j_ic (v := 0) dX9_depth_20 (by decide) ?_
    refine j_S3d mf_X1_isInside ml_X9_166 dX9_depth_21 (Nat.le_of_ble_eq_true rfl) (Nat.le_of_ble_eq_true rfl) (Nat.le_of_ble_eq_true rfl) ⟨(Nat.le_of_ble_eq_true rfl), (Nat.le_of_ble_eq_true rfl)⟩ c_X1_isInside ?_
    refine j_ifne (tgt := 38) dX9_depth_24 (by decide) (fun h24 => ?_) (fun h24 => ?_)
    · have hi := bI_ne.mp h24
      obtain ⟨n, hn, rfl⟩ := ax_n hk
      rw [ntX_nI (by omega)]
      refine j_aln dX9_depth_38 rfl rfl ?_
      refine g_X9_0 dX9_depth_39 fl_X9_10 ?_
      refine j_V0d mf_X3_body ml_X9_173 dX9_depth_42 (Nat.le_of_ble_eq_true rfl) (Nat.le_of_ble_eq_true rfl) (Nat.le_of_ble_eq_true rfl) ⟨(Nat.le_of_ble_eq_true rfl), (Nat.le_of_ble_eq_true rfl)⟩ (by first | assumption | decide | (simp only [nv] at *; omega)) rfl rfl (c_X3_body hbar hb12) ?_
      refine g_X0_0 dX9_depth_45 fl_X9_177 (show bar < 15 by omega) ?_
      refine j_iln dX9_depth_48 rfl rfl ?_
      refine j_iln dX9_depth_49 rfl rfl ?_
      refine j_iln dX9_depth_50 rfl rfl ?_
      refine j_il dX9_depth_51 rfl ?_
      refine j_S5d mf_X7_depthOf ml_X9_298 dX9_depth_53 (Nat.le_of_ble_eq_true rfl) (Nat.le_of_ble_eq_true rfl) (Nat.le_of_ble_eq_true rfl) ⟨(Nat.le_of_ble_eq_true rfl), (Nat.le_of_ble_eq_true rfl)⟩ (c_X7_depthOf (show bar < 25 by omega) hn) ?_
      exact j_iretX dX9_depth_56 rfl rfl (Nat.le_of_ble_eq_true rfl) (Nat.le_of_ble_eq_true rfl) ⟨hk, hi, rfl, rfl⟩
    · have hi : insd u v9 0 = false := bI_eq.mp h24
      exact j_throwSW (text := "no such column") hl9 thr_143 (by decide +kernel) dX9_depth_27 dX9_depth_30 dX9_depth_31 dX9_depth_34 dX9_depth_37 (Nat.le_of_ble_eq_true rfl) (Nat.le_of_ble_eq_true rfl) ⟨Or.inr ⟨hk, hi, rfl⟩, rfl⟩
  · have hk : axX x = false := bI_eq.mp h4
    exact j_throwS (text := "no such axis") hl9 thr_36 (by decide +kernel) dX9_depth_7 dX9_depth_10 dX9_depth_11 dX9_depth_13 dX9_depth_16 (Nat.le_of_ble_eq_true rfl) (Nat.le_of_ble_eq_true rfl) ⟨Or.inl ⟨hk, rfl⟩, rfl⟩
