/-! the model: its small ones -/
def inX (v lo hi : Int32) : Bool := decide (¬ v < lo ∧ ¬ hi < v)
def mT (t : Int32) : Bool := inX t (-20) (nI 20) || inX t (nI 100) (nI 107)
def mTm (v : Nat → Int32) (t : Int32) : Int32 := if t < nI 100 then t else v (ntX t - 100)
theorem inX_i {v lo hi : Int32} : inX v lo hi = true ↔ ¬ v < lo ∧ ¬ hi < v := by unfold inX; exact decide_eq_true_iff
theorem mT_n {t : Int32} (h : mT t = true) (h1 : ¬ t < nI 100) : ∃ w, 100 ≤ w ∧ w < 108 ∧ t = nI w := by
  unfold mT at h
  rw [Bool.or_eq_true] at h
  rcases h with h | h
  · have h2 := (inX_i.mp h).2
    exact absurd (Int32.lt_of_lt_of_le (show nI 20 < nI 100 by decide) (Int32.not_lt.mp h1)) h2
  · have h2 := inX_i.mp h
    have h0 : ¬ t < 0 := fun q => h1 (Int32.lt_trans q (by decide))
    obtain ⟨w, hw, rfl⟩ := nn_le (n := 107) (by decide) h0 (Int32.not_lt.mp h2.2)
    have h3 : ¬ w < 100 := fun q => h1 ((nI_ltI (by omega) (by decide)).mpr q)
    exact ⟨w, by omega, by omega, rfl⟩
def mF (M : Mm) (x : Int32) : Bool := inX x (nI 0) (mI M 12 5 - nI 1) && decide (¬ mI M 47 (ntX x) = 0)
theorem le_gv {x : Int32} {gv : Nat} (hg : gv ≤ 40) (h : inX x (nI 0) (nI gv - nI 1) = true) : ∃ g, g < gv ∧ x = nI g := by
  have h2 := inX_i.mp h
  rcases Nat.eq_zero_or_pos gv with h0 | h0
  · subst h0
    have h3 : x ≤ -1 := Int32.not_lt.mp h2.2
    exact absurd (Int32.lt_of_le_of_lt h3 (by decide)) h2.1
  · rw [pk_sub h0] at h2
    obtain ⟨w, hw, rfl⟩ := nn_le (n := gv - 1) (by omega) h2.1 (Int32.not_lt.mp h2.2)
    exact ⟨w, by omega, rfl⟩
abbrev cdM (M : Mm) (w : Int32) : Mm := sI M 12 (upd (mI M 12) 0 w)
set_option maxRecDepth 100000 in
set_option maxHeartbeats 4000000 in
theorem c_X10_thrown {l : Launch} {E : Ev} {M : Mm}   : Ct l E yX10_thrown cX10_thrown 1 (some .int) 1 0 0 [.ref (eA E 12 0)] M (dv (.int (mI M 12 0)) M) := by
  refine Ct.of (own := RX10) rfl [some (.ref (eA E 12 0))] (by decide) (Nat.le_of_ble_eq_true rfl) rfl ?_
  refine j_aln dX10_thrown_0 rfl rfl ?_
  refine g_X10_0 dX10_thrown_1 fl_X10_96 ?_
  exact j_iret dX10_thrown_4 rfl rfl (Nat.le_of_ble_eq_true rfl) (Nat.le_of_ble_eq_true rfl) ⟨rfl, rfl⟩
set_option maxRecDepth 100000 in
set_option maxHeartbeats 4000000 in
theorem c_X10_in {l : Launch} {E : Ev} {M : Mm} {v lo hi : Int32}  : Ct l E yX10_in cX10_in 3 (some .boolean) 1 0 0 [.int v, .int lo, .int hi] M (dv (.int (bI (inX v lo hi))) M) := by
  refine Ct.of (own := RX10) rfl [some (.int v), some (.int lo), some (.int hi)] (by decide) (Nat.le_of_ble_eq_true rfl) rfl ?_
  refine j_iln dX10_in_0 rfl rfl ?_
  refine j_iln dX10_in_1 rfl rfl ?_
  refine j_iclt (tgt := 14) dX10_in_2 (by decide) (fun h2 => ?_) (fun h2 => ?_)
  · have hr : inX v lo hi = false := decide_eq_false (fun q => q.1 h2)
    refine j_icN 0 dX10_in_14 rfl ?_
    exact j_iret dX10_in_15 rfl (by decide) (Nat.le_of_ble_eq_true rfl) (Nat.le_of_ble_eq_true rfl) ⟨by rw [hr]; rfl, rfl⟩
  · refine j_iln dX10_in_5 rfl rfl ?_
    refine j_iln dX10_in_6 rfl rfl ?_
    refine j_icgt (tgt := 14) dX10_in_7 (by decide) (fun h7 => ?_) (fun h7 => ?_)
    · have hr : inX v lo hi = false := decide_eq_false (fun q => q.2 h7)
      refine j_icN 0 dX10_in_14 rfl ?_
      exact j_iret dX10_in_15 rfl (by decide) (Nat.le_of_ble_eq_true rfl) (Nat.le_of_ble_eq_true rfl) ⟨by rw [hr]; rfl, rfl⟩
    · have hr : inX v lo hi = true := decide_eq_true ⟨h2, h7⟩
      refine j_icN 1 dX10_in_10 rfl ?_
      refine j_goto (tgt := 15) dX10_in_11 (by decide) ?_
      exact j_iret dX10_in_15 rfl (by decide) (Nat.le_of_ble_eq_true rfl) (Nat.le_of_ble_eq_true rfl) ⟨by rw [hr]; rfl, rfl⟩
set_option maxRecDepth 100000 in
set_option maxHeartbeats 4000000 in
theorem c_X10_fails {l : Launch} {E : Ev} {M : Mm} {w : Int32}  : Ct l E yX10_fails cX10_fails 2 (some .int) 1 0 0 [.ref (eA E 12 0), .int w] M (dv (.int (nI 0)) (cdM M w)) := by
  refine Ct.of (own := RX10) rfl [some (.ref (eA E 12 0)), some (.int w)] (by decide) (Nat.le_of_ble_eq_true rfl) rfl ?_
  refine j_aln dX10_fails_0 rfl rfl ?_
  refine j_iln dX10_fails_1 rfl rfl ?_
  refine p_X10_0 dX10_fails_2 fl_X10_96 ?_
  refine j_icN 0 dX10_fails_5 rfl ?_
  exact j_iret dX10_fails_6 rfl rfl (Nat.le_of_ble_eq_true rfl) (Nat.le_of_ble_eq_true rfl) ⟨rfl, rfl⟩
set_option maxRecDepth 100000 in
set_option maxHeartbeats 4000000 in
theorem c_X10_isTerm {l : Launch} {E : Ev} {M : Mm} {t : Int32}  : Ct l E yX10_isTerm cX10_isTerm 1 (some .boolean) 2 0 0 [.int t] M (dv (.int (bI (mT t))) M) := by
  refine Ct.of (own := RX10) rfl [some (.int t)] (by decide) (Nat.le_of_ble_eq_true rfl) rfl ?_
  refine j_iln dX10_isTerm_0 rfl rfl ?_
  refine j_bi (v := (-20)) dX10_isTerm_1 (by decide) ?_
  refine j_biN 20 dX10_isTerm_3 rfl ?_
  refine j_S3d mf_X10_in ml_X10_100 dX10_isTerm_5 (Nat.le_of_ble_eq_true rfl) (Nat.le_of_ble_eq_true rfl) (Nat.le_of_ble_eq_true rfl) ⟨(Nat.le_of_ble_eq_true rfl), (Nat.le_of_ble_eq_true rfl)⟩ c_X10_in ?_
  refine j_ifne (tgt := 22) dX10_isTerm_8 (by decide) (fun h8 => ?_) (fun h8 => ?_)
  · have hr : mT t = true := by unfold mT; rw [bI_ne.mp h8]; rfl
    refine j_icN 1 dX10_isTerm_22 rfl ?_
    refine j_goto (tgt := 27) dX10_isTerm_23 (by decide) ?_
    exact j_iret dX10_isTerm_27 rfl (by decide) (Nat.le_of_ble_eq_true rfl) (Nat.le_of_ble_eq_true rfl) ⟨by rw [hr]; rfl, rfl⟩
  · refine j_iln dX10_isTerm_11 rfl rfl ?_
    refine j_biN 100 dX10_isTerm_12 rfl ?_
    refine j_biN 107 dX10_isTerm_14 rfl ?_
    refine j_S3d mf_X10_in ml_X10_100 dX10_isTerm_16 (Nat.le_of_ble_eq_true rfl) (Nat.le_of_ble_eq_true rfl) (Nat.le_of_ble_eq_true rfl) ⟨(Nat.le_of_ble_eq_true rfl), (Nat.le_of_ble_eq_true rfl)⟩ c_X10_in ?_
    refine j_ifeq (tgt := 26) dX10_isTerm_19 (by decide) (fun h19 => ?_) (fun h19 => ?_)
    · have hr : mT t = false := by unfold mT; rw [bI_eq.mp h8, bI_eq.mp h19]; rfl
      refine j_icN 0 dX10_isTerm_26 rfl ?_
      exact j_iret dX10_isTerm_27 rfl (by decide) (Nat.le_of_ble_eq_true rfl) (Nat.le_of_ble_eq_true rfl) ⟨by rw [hr]; rfl, rfl⟩
    · have hr : mT t = true := by unfold mT; rw [bI_ne.mp h19]; exact Bool.or_true _
      refine j_icN 1 dX10_isTerm_22 rfl ?_
      refine j_goto (tgt := 27) dX10_isTerm_23 (by decide) ?_
      exact j_iret dX10_isTerm_27 rfl (by decide) (Nat.le_of_ble_eq_true rfl) (Nat.le_of_ble_eq_true rfl) ⟨by rw [hr]; rfl, rfl⟩
set_option maxRecDepth 100000 in
set_option maxHeartbeats 4000000 in
theorem c_X10_term {l : Launch} {E : Ev} {M : Mm} {t : Int32} (ht : mT t = true) : Ct l E yX10_term cX10_term 2 (some .int) 1 0 0 [.ref (eA E 12 0), .int t] M (dv (.int (mTm (mI M 43) t)) M) := by
  refine Ct.of (own := RX10) rfl [some (.ref (eA E 12 0)), some (.int t)] (by decide) (Nat.le_of_ble_eq_true rfl) rfl ?_
  refine j_iln dX10_term_0 rfl rfl ?_
  refine j_biN 100 dX10_term_1 rfl ?_
  refine j_iclt (tgt := 18) dX10_term_3 (by decide) (fun h3 => ?_) (fun h3 => ?_)
  · refine j_iln dX10_term_18 rfl rfl ?_
    exact j_iret dX10_term_19 rfl rfl (Nat.le_of_ble_eq_true rfl) (Nat.le_of_ble_eq_true rfl) ⟨by unfold mTm; first | (rw [if_pos h3]; done) | (rw [if_neg h3, ntX_nI (by omega)]; done), rfl⟩
  · obtain ⟨w, hw1, hw2, rfl⟩ := mT_n ht h3
    refine j_aln dX10_term_6 rfl rfl ?_
    refine g_X10_4 dX10_term_7 fl_X10_20 ?_
    refine j_iln dX10_term_10 rfl rfl ?_
    refine j_biN 100 dX10_term_11 rfl ?_
    refine j_isubN dX10_term_13 hw1 ?_
    refine j_aildN dX10_term_14 rfl rfl rfl (by decide) (by omega) ?_
    refine j_goto (tgt := 19) dX10_term_15 (by decide) ?_
    exact j_iret dX10_term_19 rfl rfl (Nat.le_of_ble_eq_true rfl) (Nat.le_of_ble_eq_true rfl) ⟨by unfold mTm; first | (rw [if_pos h3]; done) | (rw [if_neg h3, ntX_nI (by omega)]; done), rfl⟩
set_option maxRecDepth 100000 in
set_option maxHeartbeats 4000000 in
theorem c_X10_dimension {l : Launch} {E : Ev} {M : Mm} {f w : Nat} (hf : f < 40) (hw : w < 6) (ht : mT (mI M 46 (6 * f + w)) = true) : Ct l E yX10_dimension cX10_dimension 3 (some .int) 2 0 0 [.ref (eA E 12 0), .int (nI f), .int (nI w)] M (dv (.int (mTm (mI M 43) (mI M 46 (6 * f + w)))) M) := by
  refine Ct.of (own := RX10) rfl [some (.ref (eA E 12 0)), some (.int (nI f)), some (.int (nI w))] (by decide) (Nat.le_of_ble_eq_true rfl) rfl ?_
  refine j_aln dX10_dimension_0 rfl rfl ?_
  refine j_aln dX10_dimension_1 rfl rfl ?_
  refine g_X10_10 dX10_dimension_2 fl_X10_29 ?_
  refine j_biN 6 dX10_dimension_5 rfl ?_
  refine j_iln dX10_dimension_7 rfl rfl ?_
  refine j_imulN dX10_dimension_8 ?_
  refine j_iln dX10_dimension_9 rfl rfl ?_
  refine j_iaddN dX10_dimension_10 ?_
  refine j_aildN dX10_dimension_11 rfl rfl rfl (by decide) (by omega) ?_
  refine j_V1d mf_X10_term ml_X10_104 dX10_dimension_12 (Nat.le_of_ble_eq_true rfl) (Nat.le_of_ble_eq_true rfl) (Nat.le_of_ble_eq_true rfl) ⟨(Nat.le_of_ble_eq_true rfl), (Nat.le_of_ble_eq_true rfl)⟩ (by first | assumption | decide | (simp only [nv] at *; omega)) rfl rfl (c_X10_term ht) ?_
  exact j_iret dX10_dimension_15 rfl rfl (Nat.le_of_ble_eq_true rfl) (Nat.le_of_ble_eq_true rfl) ⟨rfl, rfl⟩
set_option maxRecDepth 100000 in
set_option maxHeartbeats 4000000 in
theorem c_X10_isFeature {l : Launch} {E : Ev} {M : Mm} {gv : Nat} {x : Int32} (hg : mI M 12 5 = nI gv) (hg40 : gv ≤ 40) : Ct l E yX10_isFeature cX10_isFeature 2 (some .boolean) 2 0 0 [.ref (eA E 12 0), .int x] M (dv (.int (bI (mF M x))) M) := by
  refine Ct.of (own := RX10) rfl [some (.ref (eA E 12 0)), some (.int x)] (by decide) (Nat.le_of_ble_eq_true rfl) rfl ?_
  refine j_iln dX10_isFeature_0 rfl rfl ?_
  refine j_icN 0 dX10_isFeature_1 rfl ?_
  refine j_aln dX10_isFeature_2 rfl rfl ?_
  refine g_X10_5 dX10_isFeature_3 fl_X10_143 ?_
  refine j_icN 1 dX10_isFeature_6 rfl ?_
  refine j_isub dX10_isFeature_7 ?_
  refine j_S3d mf_X10_in ml_X10_100 dX10_isFeature_8 (Nat.le_of_ble_eq_true rfl) (Nat.le_of_ble_eq_true rfl) (Nat.le_of_ble_eq_true rfl) ⟨(Nat.le_of_ble_eq_true rfl), (Nat.le_of_ble_eq_true rfl)⟩ c_X10_in ?_
  refine j_ifeq (tgt := 27) dX10_isFeature_11 (by decide) (fun h11 => ?_) (fun h11 => ?_)
  · have hr : mF M x = false := by unfold mF; rw [bI_eq.mp h11]; rfl
    refine j_icN 0 dX10_isFeature_27 rfl ?_
    exact j_iret dX10_isFeature_28 rfl (by decide) (Nat.le_of_ble_eq_true rfl) (Nat.le_of_ble_eq_true rfl) ⟨by rw [hr]; rfl, rfl⟩
  · obtain ⟨g, hgg, rfl⟩ := le_gv hg40 (by have := bI_ne.mp h11; rwa [hg] at this)
    refine j_aln dX10_isFeature_14 rfl rfl ?_
    refine g_X10_11 dX10_isFeature_15 fl_X10_32 ?_
    refine j_iln dX10_isFeature_18 rfl rfl ?_
    refine j_azldN dX10_isFeature_19 rfl rfl rfl (by decide) (by omega) ?_
    refine j_ifeq (tgt := 27) dX10_isFeature_20 (by decide) (fun h20 => ?_) (fun h20 => ?_)
    · have hr : mF M (nI g) = false := by unfold mF; rw [ntX_nI (by omega), decide_eq_false (fun q => q h20)]; exact Bool.and_false _
      refine j_icN 0 dX10_isFeature_27 rfl ?_
      exact j_iret dX10_isFeature_28 rfl (by decide) (Nat.le_of_ble_eq_true rfl) (Nat.le_of_ble_eq_true rfl) ⟨by rw [hr]; rfl, rfl⟩
    · have hr : mF M (nI g) = true := by unfold mF; rw [bI_ne.mp h11, ntX_nI (by omega), decide_eq_true h20]; rfl
      refine j_icN 1 dX10_isFeature_23 rfl ?_
      refine j_goto (tgt := 28) dX10_isFeature_24 (by decide) ?_
      exact j_iret dX10_isFeature_28 rfl (by decide) (Nat.le_of_ble_eq_true rfl) (Nat.le_of_ble_eq_true rfl) ⟨by rw [hr]; rfl, rfl⟩
set_option maxRecDepth 100000 in
set_option maxHeartbeats 4000000 in
theorem c_X10_placeOf {l : Launch} {E : Ev} {M : Mm} {p : Nat} {x : Int32} (hp : p < 13) (hat : mI M 44 p = x) (hbf : ∀ j, j < p → ¬ mI M 44 j = x) : Ct l E yX10_placeOf cX10_placeOf 3 (some .int) 1 0 0 [.ref (eA E 12 0), .int x] M (dv (.int (nI p)) M) := by
  refine Ct.of (own := RX10) rfl [some (.ref (eA E 12 0)), some (.int x), none] (by decide) (Nat.le_of_ble_eq_true rfl) rfl ?_
  have K : ∀ i, i ≤ p → Jd l E RX10 cX10_placeOf 3 (some .int) [] (rmm 1 0 0) (QfN E (dv (.int (nI p)) M) 0 0) 0 0 2 [some (.ref (eA E 12 0)), some (.int x), some (.int (nI i))] [] M := by
    refine up_to p _ ?_ (fun i hi ih => ?_)
    · refine j_aln dX10_placeOf_2 rfl rfl ?_
      refine g_X10_8 dX10_placeOf_3 fl_X10_23 ?_
      refine j_iln dX10_placeOf_6 rfl rfl ?_
      refine j_aildN dX10_placeOf_7 rfl rfl rfl (by decide) (by omega) ?_
      refine j_iln dX10_placeOf_8 rfl rfl ?_
      refine j_iceq (tgt := 18) dX10_placeOf_9 (by decide) (fun h9 => ?_) (fun h9 => ?_)
      · refine j_iln dX10_placeOf_18 rfl rfl ?_
        exact j_iret dX10_placeOf_19 rfl rfl (Nat.le_of_ble_eq_true rfl) (Nat.le_of_ble_eq_true rfl) ⟨rfl, rfl⟩
      · exact absurd hat h9
    · refine j_aln dX10_placeOf_2 rfl rfl ?_
      refine g_X10_8 dX10_placeOf_3 fl_X10_23 ?_
      refine j_iln dX10_placeOf_6 rfl rfl ?_
      refine j_aildN dX10_placeOf_7 rfl rfl rfl (by decide) (by omega) ?_
      refine j_iln dX10_placeOf_8 rfl rfl ?_
      refine j_iceq (tgt := 18) dX10_placeOf_9 (by decide) (fun h9 => ?_) (fun h9 => ?_)
      · exact absurd h9 (hbf i hi)
      · refine j_incN_2 1 dX10_placeOf_12 rfl (by decide) rfl ?_
        refine j_goto (tgt := 2) dX10_placeOf_15 (by decide) ?_
        exact ih
  refine j_icN 0 dX10_placeOf_0 rfl ?_
  refine j_ist_2 dX10_placeOf_1 (by decide) rfl ?_
  exact K 0 (by omega)
def mT3 (x y z : Int32) : Bool := mT x && mT y && mT z
set_option maxRecDepth 100000 in
set_option maxHeartbeats 4000000 in
theorem c_X10_isDimension {l : Launch} {E : Ev} {M : Mm} {x y z : Int32}  : Ct l E yX10_isDimension cX10_isDimension 4 (some .boolean) 3 0 0 [.ref (eA E 12 0), .int x, .int y, .int z] M (dv (.int (bI (mT3 x y z))) M) := by
  refine Ct.of (own := RX10) rfl [some (.ref (eA E 12 0)), some (.int x), some (.int y), some (.int z)] (by decide) (Nat.le_of_ble_eq_true rfl) rfl ?_
  refine j_iln dX10_isDimension_0 rfl rfl ?_
  refine j_S1d mf_X10_isTerm ml_X10_108 dX10_isDimension_1 (Nat.le_of_ble_eq_true rfl) (Nat.le_of_ble_eq_true rfl) (Nat.le_of_ble_eq_true rfl) ⟨(Nat.le_of_ble_eq_true rfl), (Nat.le_of_ble_eq_true rfl)⟩ c_X10_isTerm ?_
  refine j_ifeq (tgt := 25) dX10_isDimension_4 (by decide) (fun h4 => ?_) (fun h4 => ?_)
  · have hr : mT3 x y z = false := by unfold mT3; rw [bI_eq.mp h4]; rfl
    refine j_icN 0 dX10_isDimension_25 rfl ?_
    exact j_iret dX10_isDimension_26 rfl (by decide) (Nat.le_of_ble_eq_true rfl) (Nat.le_of_ble_eq_true rfl) ⟨by rw [hr]; rfl, rfl⟩
  · refine j_iln dX10_isDimension_7 rfl rfl ?_
    refine j_S1d mf_X10_isTerm ml_X10_108 dX10_isDimension_8 (Nat.le_of_ble_eq_true rfl) (Nat.le_of_ble_eq_true rfl) (Nat.le_of_ble_eq_true rfl) ⟨(Nat.le_of_ble_eq_true rfl), (Nat.le_of_ble_eq_true rfl)⟩ c_X10_isTerm ?_
    refine j_ifeq (tgt := 25) dX10_isDimension_11 (by decide) (fun h11 => ?_) (fun h11 => ?_)
    · have hr : mT3 x y z = false := by unfold mT3; rw [bI_eq.mp h11, Bool.and_false]; rfl
      refine j_icN 0 dX10_isDimension_25 rfl ?_
      exact j_iret dX10_isDimension_26 rfl (by decide) (Nat.le_of_ble_eq_true rfl) (Nat.le_of_ble_eq_true rfl) ⟨by rw [hr]; rfl, rfl⟩
    · refine j_iln dX10_isDimension_14 rfl rfl ?_
      refine j_S1d mf_X10_isTerm ml_X10_108 dX10_isDimension_15 (Nat.le_of_ble_eq_true rfl) (Nat.le_of_ble_eq_true rfl) (Nat.le_of_ble_eq_true rfl) ⟨(Nat.le_of_ble_eq_true rfl), (Nat.le_of_ble_eq_true rfl)⟩ c_X10_isTerm ?_
      refine j_ifeq (tgt := 25) dX10_isDimension_18 (by decide) (fun h18 => ?_) (fun h18 => ?_)
      · have hr : mT3 x y z = false := by unfold mT3; rw [bI_eq.mp h18]; exact Bool.and_false _
        refine j_icN 0 dX10_isDimension_25 rfl ?_
        exact j_iret dX10_isDimension_26 rfl (by decide) (Nat.le_of_ble_eq_true rfl) (Nat.le_of_ble_eq_true rfl) ⟨by rw [hr]; rfl, rfl⟩
      · have hr : mT3 x y z = true := by unfold mT3; rw [bI_ne.mp h4, bI_ne.mp h11, bI_ne.mp h18]; rfl
        refine j_icN 1 dX10_isDimension_21 rfl ?_
        refine j_goto (tgt := 26) dX10_isDimension_22 (by decide) ?_
        exact j_iret dX10_isDimension_26 rfl (by decide) (Nat.le_of_ble_eq_true rfl) (Nat.le_of_ble_eq_true rfl) ⟨by rw [hr]; rfl, rfl⟩
set_option maxRecDepth 100000 in
set_option maxHeartbeats 4000000 in
theorem c_X10_worked {l : Launch} {E : Ev} {M : Mm}   : Ct l E yX10_worked cX10_worked 1 (some .long) 1 0 0 [.ref (eA E 12 0)] M (dv (.long (mW M 1)) (cdM M (nI 0))) := by
  refine Ct.of (own := RX10) rfl [some (.ref (eA E 12 0))] (by decide) (Nat.le_of_ble_eq_true rfl) rfl ?_
  refine j_aln dX10_worked_0 rfl rfl ?_
  refine j_icN 0 dX10_worked_1 rfl ?_
  refine p_X10_0 dX10_worked_2 fl_X10_96 ?_
  refine j_aln dX10_worked_5 rfl rfl ?_
  refine g_X10_14 dX10_worked_6 fl_X10_159 ?_
  exact j_lret dX10_worked_9 rfl (Nat.le_of_ble_eq_true rfl) (Nat.le_of_ble_eq_true rfl) ⟨rfl, rfl⟩
set_option maxRecDepth 100000 in
set_option maxHeartbeats 4000000 in
theorem c_X10_isPart {l : Launch} {E : Ev} {M : Mm} {x : Int32}  : Ct l E yX10_isPart cX10_isPart 2 (some .boolean) 2 0 0 [.ref (eA E 12 0), .int x] M (dv (.int (bI (inX x (nI 0) (mI M 12 27 - nI 1)))) M) := by
  refine Ct.of (own := RX10) rfl [some (.ref (eA E 12 0)), some (.int x)] (by decide) (Nat.le_of_ble_eq_true rfl) rfl ?_
  refine j_iln dX10_isPart_0 rfl rfl ?_
  refine j_icN 0 dX10_isPart_1 rfl ?_
  refine j_aln dX10_isPart_2 rfl rfl ?_
  refine g_X10_27 dX10_isPart_3 fl_X10_231 ?_
  refine j_icN 1 dX10_isPart_6 rfl ?_
  refine j_isub dX10_isPart_7 ?_
  refine j_S3d mf_X10_in ml_X10_100 dX10_isPart_8 (Nat.le_of_ble_eq_true rfl) (Nat.le_of_ble_eq_true rfl) (Nat.le_of_ble_eq_true rfl) ⟨(Nat.le_of_ble_eq_true rfl), (Nat.le_of_ble_eq_true rfl)⟩ c_X10_in ?_
  exact j_iret dX10_isPart_11 rfl (bI_nar _) (Nat.le_of_ble_eq_true rfl) (Nat.le_of_ble_eq_true rfl) ⟨rfl, rfl⟩
set_option maxRecDepth 100000 in
set_option maxHeartbeats 4000000 in
theorem c_X10_number {l : Launch} {E : Ev} {M : Mm} {x : Int32}  : Ct l E yX10_number cX10_number 2 (some .int) 2 0 0 [.ref (eA E 12 0), .int x] M (dv (.int (if inX x (nI 0) (nI 7) = true then mI M 43 (ntX x) else nI 0)) (if inX x (nI 0) (nI 7) = true then cdM M (nI 0) else cdM (cdM M (nI 0)) (nI 1))) := by
  refine Ct.of (own := RX10) rfl [some (.ref (eA E 12 0)), some (.int x)] (by decide) (Nat.le_of_ble_eq_true rfl) rfl ?_
  refine j_aln dX10_number_0 rfl rfl ?_
  refine j_icN 0 dX10_number_1 rfl ?_
  refine p_X10_0 dX10_number_2 fl_X10_96 ?_
  refine j_iln dX10_number_5 rfl rfl ?_
  refine j_icN 0 dX10_number_6 rfl ?_
  refine j_biN 7 dX10_number_7 rfl ?_
  refine j_S3d mf_X10_in ml_X10_100 dX10_number_9 (Nat.le_of_ble_eq_true rfl) (Nat.le_of_ble_eq_true rfl) (Nat.le_of_ble_eq_true rfl) ⟨(Nat.le_of_ble_eq_true rfl), (Nat.le_of_ble_eq_true rfl)⟩ c_X10_in ?_
  refine j_ifeq (tgt := 24) dX10_number_12 (by decide) (fun h12 => ?_) (fun h12 => ?_)
  · have hk := bI_eq.mp h12
    refine j_aln dX10_number_24 rfl rfl ?_
    refine j_icN 1 dX10_number_25 rfl ?_
    refine j_V1d mf_X10_fails ml_X10_112 dX10_number_26 (Nat.le_of_ble_eq_true rfl) (Nat.le_of_ble_eq_true rfl) (Nat.le_of_ble_eq_true rfl) ⟨(Nat.le_of_ble_eq_true rfl), (Nat.le_of_ble_eq_true rfl)⟩ (by first | assumption | decide | (simp only [nv] at *; omega)) rfl rfl c_X10_fails ?_
    exact j_iret dX10_number_29 rfl rfl (Nat.le_of_ble_eq_true rfl) (Nat.le_of_ble_eq_true rfl) ⟨by first | (rw [if_pos hk, ntX_nI (by omega)]; done) | (rw [if_pos hk, ntX_nI (by omega)]; rfl) | (rw [if_neg (by rw [hk]; decide)]; done), by first | (rw [if_pos hk]; done) | (rw [if_neg (by rw [hk]; decide)]; done)⟩
  · have hk := bI_ne.mp h12
    have hk2 := inX_i.mp hk
    obtain ⟨n, hn, rfl⟩ := nn_le (n := 7) (by decide) hk2.1 (Int32.not_lt.mp hk2.2)
    refine j_aln dX10_number_15 rfl rfl ?_
    refine g_X10_4 dX10_number_16 fl_X10_20 ?_
    refine j_iln dX10_number_19 rfl rfl ?_
    refine j_aildN dX10_number_20 rfl rfl rfl (by decide) (by omega) ?_
    refine j_goto (tgt := 29) dX10_number_21 (by decide) ?_
    exact j_iret dX10_number_29 rfl rfl (Nat.le_of_ble_eq_true rfl) (Nat.le_of_ble_eq_true rfl) ⟨by first | (rw [if_pos hk, ntX_nI (by omega)]; done) | (rw [if_pos hk, ntX_nI (by omega)]; rfl) | (rw [if_neg (by rw [hk]; decide)]; done), by first | (rw [if_pos hk]; done) | (rw [if_neg (by rw [hk]; decide)]; done)⟩
