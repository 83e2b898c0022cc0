/-! the object: numbers, floats; terms -/
def aT (x y z : Int32) : Bool := isT x && isT y && isT z
set_option maxRecDepth 100000 in
set_option maxHeartbeats 4000000 in
theorem c_X9_areTerms {l : Launch} {E : Ev} {M : Mm} {x y z : Int32}  : Ct l E yX9_areTerms cX9_areTerms 3 (some .boolean) 3 0 0 [.int x, .int y, .int z] M (dv (.int (bI (aT x y z))) M) := by
  refine Ct.of (own := RX9) rfl [some (.int x), some (.int y), some (.int z)] (by decide) (Nat.le_of_ble_eq_true rfl) rfl ?_
  refine j_iln dX9_areTerms_0 rfl rfl ?_
  refine j_S1d mf_X5_isTerm ml_X9_33 dX9_areTerms_1 (Nat.le_of_ble_eq_true rfl) (Nat.le_of_ble_eq_true rfl) (Nat.le_of_ble_eq_true rfl) ⟨(Nat.le_of_ble_eq_true rfl), (Nat.le_of_ble_eq_true rfl)⟩ c_X5_isTerm ?_
  refine j_ifeq (tgt := 25) dX9_areTerms_4 (by decide) (fun h4 => ?_) (fun h4 => ?_)
  · have hr : aT x y z = false := by unfold aT; rw [bI_eq.mp h4]; rfl
    refine j_icN 0 dX9_areTerms_25 rfl ?_
    exact j_iret dX9_areTerms_26 rfl (by decide) (Nat.le_of_ble_eq_true rfl) (Nat.le_of_ble_eq_true rfl) ⟨by rw [hr]; rfl, rfl⟩
  · refine j_iln dX9_areTerms_7 rfl rfl ?_
    refine j_S1d mf_X5_isTerm ml_X9_33 dX9_areTerms_8 (Nat.le_of_ble_eq_true rfl) (Nat.le_of_ble_eq_true rfl) (Nat.le_of_ble_eq_true rfl) ⟨(Nat.le_of_ble_eq_true rfl), (Nat.le_of_ble_eq_true rfl)⟩ c_X5_isTerm ?_
    refine j_ifeq (tgt := 25) dX9_areTerms_11 (by decide) (fun h11 => ?_) (fun h11 => ?_)
    · have hr : aT x y z = false := by unfold aT; rw [bI_eq.mp h11, Bool.and_false]; rfl
      refine j_icN 0 dX9_areTerms_25 rfl ?_
      exact j_iret dX9_areTerms_26 rfl (by decide) (Nat.le_of_ble_eq_true rfl) (Nat.le_of_ble_eq_true rfl) ⟨by rw [hr]; rfl, rfl⟩
    · refine j_iln dX9_areTerms_14 rfl rfl ?_
      refine j_S1d mf_X5_isTerm ml_X9_33 dX9_areTerms_15 (Nat.le_of_ble_eq_true rfl) (Nat.le_of_ble_eq_true rfl) (Nat.le_of_ble_eq_true rfl) ⟨(Nat.le_of_ble_eq_true rfl), (Nat.le_of_ble_eq_true rfl)⟩ c_X5_isTerm ?_
      refine j_ifeq (tgt := 25) dX9_areTerms_18 (by decide) (fun h18 => ?_) (fun h18 => ?_)
      · have hr : aT x y z = false := by unfold aT; rw [bI_eq.mp h18]; exact Bool.and_false _
        refine j_icN 0 dX9_areTerms_25 rfl ?_
        exact j_iret dX9_areTerms_26 rfl (by decide) (Nat.le_of_ble_eq_true rfl) (Nat.le_of_ble_eq_true rfl) ⟨by rw [hr]; rfl, rfl⟩
      · have hr : aT x y z = true := by unfold aT; rw [bI_ne.mp h4, bI_ne.mp h11, bI_ne.mp h18]; rfl
        refine j_icN 1 dX9_areTerms_21 rfl ?_
        refine j_goto (tgt := 26) dX9_areTerms_22 (by decide) ?_
        exact j_iret dX9_areTerms_26 rfl (by decide) (Nat.le_of_ble_eq_true rfl) (Nat.le_of_ble_eq_true rfl) ⟨by rw [hr]; rfl, rfl⟩
set_option maxRecDepth 100000 in
set_option maxHeartbeats 4000000 in
theorem c_X9_centre {l : Launch} {E : Ev} {M : Mm} (hl9 : l.stackTraces = false) {bar : Nat} {x : Int32} (hbar : mI M 2 7 = nI bar) (hb12 : bar ≤ 12) (hn : ¬ (smI (fun z => bcl (mL M bar z)) 8) = 0 → vf_n64 (FP.ddiv (FP.i2d (saZ (mL M bar) (ntX x) 8)) (FP.i2d (smI (fun z => bcl (mL M bar z)) 8)))) : CtX l E yX9_centre cX9_centre 4 (some .double) 6 [.ref (eA E 0 0), .int x] M (fun v M1 => axX x = true ∧ ¬ (smI (fun z => bcl (mL M bar z)) 8) = 0 ∧ v = some (.double (FP.ddiv (FP.i2d (saZ (mL M bar) (ntX x) 8)) (FP.i2d (smI (fun z => bcl (mL M bar z)) 8)))) ∧ M1 = M) (fun c M1 => ((axX x = false ∧ c = "java/lang/IllegalArgumentException") ∨ (axX x = true ∧ (smI (fun z => bcl (mL M bar z)) 8) = 0 ∧ c = "java/lang/ArithmeticException")) ∧ M1 = M) := by
  refine CtX.of (own := RX9) rfl [some (.ref (eA E 0 0)), some (.int x), none, none] (by decide) (Nat.le_of_ble_eq_true rfl) rfl ?_
  refine j_iln dX9_centre_0 rfl rfl ?_
  refine j_S1d mf_X9_isAxis ml_X9_221 dX9_centre_1 (Nat.le_of_ble_eq_true rfl) (Nat.le_of_ble_eq_true rfl) (Nat.le_of_ble_eq_true rfl) ⟨(Nat.le_of_ble_eq_true rfl), (Nat.le_of_ble_eq_true rfl)⟩ c_X9_isAxis ?_
  refine j_ifne (tgt := 17) dX9_centre_4 (by decide) (fun h4 => ?_) (fun h4 => ?_)
  · have hk := bI_ne.mp h4
    refine j_aln dX9_centre_17 rfl rfl ?_
    refine g_X9_0 dX9_centre_18 fl_X9_10 ?_
    refine j_V0d mf_X3_body ml_X9_173 dX9_centre_21 (Nat.le_of_ble_eq_true rfl) (Nat.le_of_ble_eq_true rfl) (Nat.le_of_ble_eq_true rfl) ⟨(Nat.le_of_ble_eq_true rfl), (Nat.le_of_ble_eq_true rfl)⟩ (by first | assumption | decide | (simp only [nv] at *; omega)) rfl rfl (c_X3_body hbar hb12) ?_
    refine g_X0_0 dX9_centre_24 fl_X9_177 (show bar < 15 by omega) ?_
    refine j_ast_2 dX9_centre_27 (by decide) rfl ?_
    refine j_aln dX9_centre_28 rfl rfl ?_
    refine j_V0d mf_X1_count ml_X9_206 dX9_centre_29 (Nat.le_of_ble_eq_true rfl) (Nat.le_of_ble_eq_true rfl) (Nat.le_of_ble_eq_true rfl) ⟨(Nat.le_of_ble_eq_true rfl), (Nat.le_of_ble_eq_true rfl)⟩ (by first | assumption | decide | (simp only [nv] at *; omega)) rfl rfl (c_X1_count (show bar < 25 by omega)) ?_
    refine j_ist_3 dX9_centre_32 (by decide) rfl ?_
    refine j_iln dX9_centre_33 rfl rfl ?_
    refine j_ifne (tgt := 47) dX9_centre_34 (by decide) (fun h34 => ?_) (fun h34 => ?_)
    · obtain ⟨a, ha, rfl⟩ := ax_n hk
      have hn := hn h34
      rw [ntX_nI (show a < 2 ^ 31 by omega)] at hn ⊢
      refine j_aln dX9_centre_47 rfl rfl ?_
      refine j_iln dX9_centre_48 rfl rfl ?_
      refine j_S2d mf_X4_sumAlong ml_X9_231 dX9_centre_49 (Nat.le_of_ble_eq_true rfl) (Nat.le_of_ble_eq_true rfl) (Nat.le_of_ble_eq_true rfl) ⟨(Nat.le_of_ble_eq_true rfl), (Nat.le_of_ble_eq_true rfl)⟩ (c_X4_sumAlong (show bar < 25 by omega) ha) ?_
      refine j_i2d dX9_centre_52 ?_
      refine j_iln dX9_centre_53 rfl rfl ?_
      refine j_i2d dX9_centre_54 ?_
      refine j_ddiv dX9_centre_55 hn ?_
      exact j_dretX dX9_centre_56 rfl (Nat.le_of_ble_eq_true rfl) (Nat.le_of_ble_eq_true rfl) ⟨hk, h34, rfl, rfl⟩
    · exact j_throwS (text := "no cells") hl9 thr_226 (by decide +kernel) dX9_centre_37 dX9_centre_40 dX9_centre_41 dX9_centre_43 dX9_centre_46 (Nat.le_of_ble_eq_true rfl) (Nat.le_of_ble_eq_true rfl) ⟨Or.inr ⟨hk, h34, rfl⟩, rfl⟩
  · have hk : axX x = false := bI_eq.mp h4
    exact j_throwS (text := "no such axis") hl9 thr_36 (by decide +kernel) dX9_centre_7 dX9_centre_10 dX9_centre_11 dX9_centre_13 dX9_centre_16 (Nat.le_of_ble_eq_true rfl) (Nat.le_of_ble_eq_true rfl) ⟨Or.inl ⟨hk, rfl⟩, rfl⟩
