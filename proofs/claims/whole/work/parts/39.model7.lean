/-! the model: places, cells of parts, boxes -/
set_option maxRecDepth 100000 in
set_option maxHeartbeats 4000000 in
theorem c_X10_place {l : Launch} {E : Ev} {M : Mm} {cnt gv : Nat} {x : Int32} (hg : mI M 12 5 = nI gv) (hg40 : gv ≤ 40) (hc12 : cnt ≤ 12) (hpl : ∀ x, mF M x = true → ∃ p, p < cnt ∧ mI M 44 p = x ∧ ∀ j, j < p → ¬ mI M 44 j = x) : Ct l E yX10_place cX10_place 2 (some .int) 3 0 0 [.ref (eA E 12 0), .int x] M (fun v M1 => (mF M x = false ∧ v = some (.int (nI 0)) ∧ M1 = cdM (c0 M) (nI 1)) ∨ (mF M x = true ∧ v = some (.int (fpX cnt (mI M 44) x)) ∧ M1 = c0 M)) := by
  refine Ct.of (own := RX10) rfl [some (.ref (eA E 12 0)), some (.int x)] (by decide) (Nat.le_of_ble_eq_true rfl) rfl ?_
  refine j_aln dX10_place_0 rfl rfl ?_
  refine j_icN 0 dX10_place_1 rfl ?_
  refine p_X10_0 dX10_place_2 fl_X10_96 ?_
  refine j_aln dX10_place_5 rfl rfl ?_
  refine j_iln dX10_place_6 rfl rfl ?_
  refine j_V1d mf_X10_isFeature ml_X10_150 dX10_place_7 (Nat.le_of_ble_eq_true rfl) (Nat.le_of_ble_eq_true rfl) (Nat.le_of_ble_eq_true rfl) ⟨(Nat.le_of_ble_eq_true rfl), (Nat.le_of_ble_eq_true rfl)⟩ (by first | assumption | decide | (simp only [nv] at *; omega)) rfl rfl (c_X10_isFeature (M := c0 M) hg hg40) ?_
  refine j_ifeq (tgt := 21) dX10_place_10 (by decide) (fun h10 => ?_) (fun h10 => ?_)
  · have hk : mF M x = false := bI_eq.mp h10
    refine j_aln dX10_place_21 rfl rfl ?_
    refine j_icN 1 dX10_place_22 rfl ?_
    refine j_V1d mf_X10_fails ml_X10_112 dX10_place_23 (Nat.le_of_ble_eq_true rfl) (Nat.le_of_ble_eq_true rfl) (Nat.le_of_ble_eq_true rfl) ⟨(Nat.le_of_ble_eq_true rfl), (Nat.le_of_ble_eq_true rfl)⟩ (by first | assumption | decide | (simp only [nv] at *; omega)) rfl rfl c_X10_fails ?_
    exact j_iret dX10_place_26 rfl rfl (Nat.le_of_ble_eq_true rfl) (Nat.le_of_ble_eq_true rfl) (by first | exact Or.inl ⟨hk, rfl, rfl⟩ | exact Or.inr ⟨hk, by rw [hfp], rfl⟩)
  · have hk : mF M x = true := bI_ne.mp h10
    obtain ⟨p, hpc, hpx, hpf⟩ := hpl x hk
    have hfp : fpX cnt (mI M 44) x = nI p := fpX_t hpc hpf hpx
    refine j_aln dX10_place_13 rfl rfl ?_
    refine j_iln dX10_place_14 rfl rfl ?_
    refine j_V1d mf_X10_placeOf ml_X10_156 dX10_place_15 (Nat.le_of_ble_eq_true rfl) (Nat.le_of_ble_eq_true rfl) (Nat.le_of_ble_eq_true rfl) ⟨(Nat.le_of_ble_eq_true rfl), (Nat.le_of_ble_eq_true rfl)⟩ (by first | assumption | decide | (simp only [nv] at *; omega)) rfl rfl (c_X10_placeOf (M := c0 M) (show p < 13 by omega) hpx hpf) ?_
    refine j_goto (tgt := 26) dX10_place_18 (by decide) ?_
    exact j_iret dX10_place_26 rfl rfl (Nat.le_of_ble_eq_true rfl) (Nat.le_of_ble_eq_true rfl) (by first | exact Or.inl ⟨hk, rfl, rfl⟩ | exact Or.inr ⟨hk, by rw [hfp], rfl⟩)
def hcX (M : Mm) (p : Nat) (q : Int32) : Bool := if q = -1 then false else if mI M 61 p = 0 then decide (¬ mI M 54 (ntX q) = 0) else decide (¬ mI M 62 (512 * p + ntX q) = 0)
set_option maxRecDepth 100000 in
set_option maxHeartbeats 4000000 in
theorem c_X10_hasCell {l : Launch} {E : Ev} {M : Mm} {p : Nat} {q : Int32} (hp : p < 6) (hq : ¬ q = -1 → ∃ t, t < 512 ∧ q = nI t) : Ct l E yX10_hasCell cX10_hasCell 3 (some .boolean) 1 0 0 [.ref (eA E 12 0), .int (nI p), .int q] M (dv (.int (bI (hcX M p q))) M) := by
  refine Ct.of (own := RX10) rfl [some (.ref (eA E 12 0)), some (.int (nI p)), some (.int q)] (by decide) (Nat.le_of_ble_eq_true rfl) rfl ?_
  refine j_iln dX10_hasCell_0 rfl rfl ?_
  refine j_ic (v := (-1)) dX10_hasCell_1 (by decide) ?_
  refine j_iceq (tgt := 45) dX10_hasCell_2 (by decide) (fun h2 => ?_) (fun h2 => ?_)
  · have hr : hcX M p q = false := if_pos h2
    refine j_icN 0 dX10_hasCell_45 rfl ?_
    exact j_iret dX10_hasCell_46 rfl (by decide) (Nat.le_of_ble_eq_true rfl) (Nat.le_of_ble_eq_true rfl) ⟨by rw [hr]; rfl, rfl⟩
  · obtain ⟨t, ht, rfl⟩ := hq h2
    refine j_aln dX10_hasCell_5 rfl rfl ?_
    refine g_X10_29 dX10_hasCell_6 fl_X10_75 ?_
    refine j_iln dX10_hasCell_9 rfl rfl ?_
    refine j_azldN dX10_hasCell_10 rfl rfl rfl (by decide) (by omega) ?_
    refine j_ifeq (tgt := 32) dX10_hasCell_11 (by decide) (fun h11 => ?_) (fun h11 => ?_)
    · refine j_aln dX10_hasCell_32 rfl rfl ?_
      refine g_X10_21 dX10_hasCell_33 fl_X10_54 ?_
      refine j_iln dX10_hasCell_36 rfl rfl ?_
      refine j_azldN dX10_hasCell_37 rfl rfl rfl (by decide) (by omega) ?_
      refine j_ifeq (tgt := 45) dX10_hasCell_38 (by decide) (fun h38 => ?_) (fun h38 => ?_)
      · have hr : hcX M p (nI t) = false := by unfold hcX; rw [if_neg h2, if_pos h11, ntX_nI (show t < 2 ^ 31 by omega)]; exact decide_eq_false (fun q => q h38)
        refine j_icN 0 dX10_hasCell_45 rfl ?_
        exact j_iret dX10_hasCell_46 rfl (by decide) (Nat.le_of_ble_eq_true rfl) (Nat.le_of_ble_eq_true rfl) ⟨by rw [hr]; rfl, rfl⟩
      · have hr : hcX M p (nI t) = true := by unfold hcX; rw [if_neg h2, if_pos h11, ntX_nI (show t < 2 ^ 31 by omega)]; exact decide_eq_true h38
        refine j_icN 1 dX10_hasCell_41 rfl ?_
        refine j_goto (tgt := 46) dX10_hasCell_42 (by decide) ?_
        exact j_iret dX10_hasCell_46 rfl (by decide) (Nat.le_of_ble_eq_true rfl) (Nat.le_of_ble_eq_true rfl) ⟨by rw [hr]; rfl, rfl⟩
    · refine j_aln dX10_hasCell_14 rfl rfl ?_
      refine g_X10_30 dX10_hasCell_15 fl_X10_78 ?_
      refine j_siN 512 dX10_hasCell_18 rfl ?_
      refine j_iln dX10_hasCell_21 rfl rfl ?_
      refine j_imulN dX10_hasCell_22 ?_
      refine j_iln dX10_hasCell_23 rfl rfl ?_
      refine j_iaddN dX10_hasCell_24 ?_
      refine j_azldN dX10_hasCell_25 rfl rfl rfl (by decide) (by omega) ?_
      refine j_ifeq (tgt := 45) dX10_hasCell_26 (by decide) (fun h26 => ?_) (fun h26 => ?_)
      · have hr : hcX M p (nI t) = false := by unfold hcX; rw [if_neg h2, if_neg h11, ntX_nI (show t < 2 ^ 31 by omega)]; exact decide_eq_false (fun q => q h26)
        refine j_icN 0 dX10_hasCell_45 rfl ?_
        exact j_iret dX10_hasCell_46 rfl (by decide) (Nat.le_of_ble_eq_true rfl) (Nat.le_of_ble_eq_true rfl) ⟨by rw [hr]; rfl, rfl⟩
      · have hr : hcX M p (nI t) = true := by unfold hcX; rw [if_neg h2, if_neg h11, ntX_nI (show t < 2 ^ 31 by omega)]; exact decide_eq_true h26
        refine j_goto (tgt := 41) dX10_hasCell_29 (by decide) ?_
        refine j_icN 1 dX10_hasCell_41 rfl ?_
        refine j_goto (tgt := 46) dX10_hasCell_42 (by decide) ?_
        exact j_iret dX10_hasCell_46 rfl (by decide) (Nat.le_of_ble_eq_true rfl) (Nat.le_of_ble_eq_true rfl) ⟨by rw [hr]; rfl, rfl⟩
def dmX (M : Mm) (f w : Nat) : Int32 := mTm (mI M 43) (mI M 46 (6 * f + w))
def ibK (M : Mm) (n f : Nat) : Nat → Bool
  | 0 => true
  | a + 1 => ibK M n f a && inX (nI (alN n a)) (dmX M f a) (dmX M f a + dmX M f (3 + a) - nI 1)
theorem ibK_0 (M : Mm) (n f : Nat) : ibK M n f 0 = true := by rw [ibK]
theorem ibK_s (M : Mm) (n f a : Nat) : ibK M n f (a + 1) = (ibK M n f a && inX (nI (alN n a)) (dmX M f a) (dmX M f a + dmX M f (3 + a) - nI 1)) := by rw [ibK]
set_option maxRecDepth 100000 in
set_option maxHeartbeats 4000000 in
theorem c_X10_isInBox {l : Launch} {E : Ev} {M : Mm} {n f : Nat} (hn : n < 512) (hf : f < 40) (ht : ∀ w, w < 6 → mT (mI M 46 (6 * f + w)) = true) : Ct l E yX10_isInBox cX10_isInBox 6 (some .boolean) 3 0 0 [.ref (eA E 12 0), .int (nI n), .int (nI f)] M (dv (.int (bI (ibK M n f 3))) M) := by
  refine Ct.of (own := RX10) rfl [some (.ref (eA E 12 0)), some (.int (nI n)), some (.int (nI f)), none, none, none] (by decide) (Nat.le_of_ble_eq_true rfl) rfl ?_
  have K : ∀ i, i ≤ 3 → ∀ (o5 : Option Value), Jd l E RX10 cX10_isInBox 6 (some .boolean) [] (rmm 3 0 0) (QfN E (dv (.int (bI (ibK M n f 3))) M) 0 0) 0 0 5 [some (.ref (eA E 12 0)), some (.int (nI n)), some (.int (nI f)), some (.int (bI (ibK M n f i))), some (.int (nI i)), o5] [] M := by
    refine up_to 3 _ ?_ (fun i hi ih => ?_)
    · intro o5
      refine j_il dX10_isInBox_5 rfl ?_
      refine j_icN 3 dX10_isInBox_7 rfl ?_
      refine j_icgeN (tgt := 64) dX10_isInBox_8 (by decide) (by omega) (by omega) (fun h8 => ?_) (fun h8 => ?_)
      · refine j_iln dX10_isInBox_64 rfl rfl ?_
        exact j_iret dX10_isInBox_65 rfl (bI_nar _) (Nat.le_of_ble_eq_true rfl) (Nat.le_of_ble_eq_true rfl) ⟨rfl, rfl⟩
      · exact absurd (Nat.le_refl 3) h8
    · intro o5
      refine j_il dX10_isInBox_5 rfl ?_
      refine j_icN 3 dX10_isInBox_7 rfl ?_
      refine j_icgeN (tgt := 64) dX10_isInBox_8 (by decide) (by omega) (by omega) (fun h8 => ?_) (fun h8 => ?_)
      · exact absurd h8 (by omega)
      · refine j_aln dX10_isInBox_11 rfl rfl ?_
        refine j_iln dX10_isInBox_12 rfl rfl ?_
        refine j_il dX10_isInBox_13 rfl ?_
        refine j_V2d mf_X10_dimension ml_X10_146 dX10_isInBox_15 (Nat.le_of_ble_eq_true rfl) (Nat.le_of_ble_eq_true rfl) (Nat.le_of_ble_eq_true rfl) ⟨(Nat.le_of_ble_eq_true rfl), (Nat.le_of_ble_eq_true rfl)⟩ (by first | assumption | decide | (simp only [nv] at *; omega)) rfl rfl (c_X10_dimension hf (show i < 6 by omega) (ht i (by omega))) ?_
        refine j_ist_5 dX10_isInBox_18 (by decide) rfl ?_
        refine j_iln dX10_isInBox_20 rfl rfl ?_
        refine j_ifeq (tgt := 56) dX10_isInBox_21 (by decide) (fun h21 => ?_) (fun h21 => ?_)
        · have hg : ibK M n f (i + 1) = false := by rw [ibK_s, bI_eq.mp h21]; rfl
          refine j_icN 0 dX10_isInBox_56 rfl ?_
          refine j_ist_3 dX10_isInBox_57 (by decide) rfl ?_
          refine j_incN_4 1 dX10_isInBox_58 rfl (by decide) rfl ?_
          refine j_goto (tgt := 5) dX10_isInBox_61 (by decide) ?_
          rw [hg] at ih
          exact ih _
        · refine j_iln dX10_isInBox_24 rfl rfl ?_
          refine j_il dX10_isInBox_25 rfl ?_
          refine j_S2d mf_X10_along ml_X10_177 dX10_isInBox_27 (Nat.le_of_ble_eq_true rfl) (Nat.le_of_ble_eq_true rfl) (Nat.le_of_ble_eq_true rfl) ⟨(Nat.le_of_ble_eq_true rfl), (Nat.le_of_ble_eq_true rfl)⟩ (c_X10_along hn hi) ?_
          refine j_il dX10_isInBox_30 rfl ?_
          refine j_il dX10_isInBox_32 rfl ?_
          refine j_aln dX10_isInBox_34 rfl rfl ?_
          refine j_iln dX10_isInBox_35 rfl rfl ?_
          refine j_icN 3 dX10_isInBox_36 rfl ?_
          refine j_il dX10_isInBox_37 rfl ?_
          refine j_iaddN dX10_isInBox_39 ?_
          refine j_V2d mf_X10_dimension ml_X10_146 dX10_isInBox_40 (Nat.le_of_ble_eq_true rfl) (Nat.le_of_ble_eq_true rfl) (Nat.le_of_ble_eq_true rfl) ⟨(Nat.le_of_ble_eq_true rfl), (Nat.le_of_ble_eq_true rfl)⟩ (by first | assumption | decide | (simp only [nv] at *; omega)) rfl rfl (c_X10_dimension hf (show 3 + i < 6 by omega) (ht (3 + i) (by omega))) ?_
          refine j_iadd dX10_isInBox_43 ?_
          refine j_icN 1 dX10_isInBox_44 rfl ?_
          refine j_isub dX10_isInBox_45 ?_
          refine j_S3d mf_X10_in ml_X10_100 dX10_isInBox_46 (Nat.le_of_ble_eq_true rfl) (Nat.le_of_ble_eq_true rfl) (Nat.le_of_ble_eq_true rfl) ⟨(Nat.le_of_ble_eq_true rfl), (Nat.le_of_ble_eq_true rfl)⟩ c_X10_in ?_
          refine j_ifeq (tgt := 56) dX10_isInBox_49 (by decide) (fun h49 => ?_) (fun h49 => ?_)
          · have hg : ibK M n f (i + 1) = false := by rw [ibK_s, show inX (nI (alN n i)) (dmX M f i) (dmX M f i + dmX M f (3 + i) - nI 1) = false from bI_eq.mp h49]; exact Bool.and_false _
            refine j_icN 0 dX10_isInBox_56 rfl ?_
            refine j_ist_3 dX10_isInBox_57 (by decide) rfl ?_
            refine j_incN_4 1 dX10_isInBox_58 rfl (by decide) rfl ?_
            refine j_goto (tgt := 5) dX10_isInBox_61 (by decide) ?_
            rw [hg] at ih
            exact ih _
          · have hg : ibK M n f (i + 1) = true := by rw [ibK_s, bI_ne.mp h21, show inX (nI (alN n i)) (dmX M f i) (dmX M f i + dmX M f (3 + i) - nI 1) = true from bI_ne.mp h49]; rfl
            refine j_icN 1 dX10_isInBox_52 rfl ?_
            refine j_goto (tgt := 57) dX10_isInBox_53 (by decide) ?_
            refine j_ist_3 dX10_isInBox_57 (by decide) rfl ?_
            refine j_incN_4 1 dX10_isInBox_58 rfl (by decide) rfl ?_
            refine j_goto (tgt := 5) dX10_isInBox_61 (by decide) ?_
            rw [hg] at ih
            exact ih _
  refine j_icN 1 dX10_isInBox_0 rfl ?_
  refine j_ist_3 dX10_isInBox_1 (by decide) rfl ?_
  refine j_icN 0 dX10_isInBox_2 rfl ?_
  refine j_ist_4 dX10_isInBox_3 (by decide) rfl ?_
  have K0 := K 0 (by omega) none
  rw [ibK_0] at K0
  exact K0
