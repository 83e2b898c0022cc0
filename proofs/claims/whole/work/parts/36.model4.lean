/-! the model: area, order, parts -/
set_option maxRecDepth 100000 in
set_option maxHeartbeats 4000000 in
theorem c_X10_area {l : Launch} {E : Ev} {M : Mm}   : Ct l E yX10_area cX10_area 3 (some .int) 1 0 0 [.ref (eA E 12 0)] M (dv (.int (ctK (fun i => mI M 56 i = -1) 3072)) (cdM M (nI 0))) := by
  refine Ct.of (own := RX10) rfl [some (.ref (eA E 12 0)), none, none] (by decide) (Nat.le_of_ble_eq_true rfl) rfl ?_
  obtain ⟨w, hw, ht⟩ : ∃ w, w = 3072 ∧ ctK (fun i => mI M 56 i = -1) 3072 = ctK (fun i => mI M 56 i = -1) w := ⟨3072, rfl, rfl⟩
  rw [ht]
  have K : ∀ i, i ≤ w → Jd l E RX10 cX10_area 3 (some .int) [] (rmm 1 0 0) (QfN E (dv (.int (ctK (fun i => mI M 56 i = -1) w)) (cdM M (nI 0))) 0 0) 0 0 9 [some (.ref (eA E 12 0)), some (.int (ctK (fun i => mI M 56 i = -1) i)), some (.int (nI i))] [] (cdM M (nI 0)) := by
    refine up_to w _ ?_ (fun i hi ih => ?_)
    · refine j_iln dX10_area_9 rfl rfl ?_
      refine j_siN 3072 dX10_area_10 rfl ?_
      refine j_icgeN (tgt := 40) dX10_area_13 (by decide) (by omega) (by omega) (fun h13 => ?_) (fun h13 => ?_)
      · refine j_iln dX10_area_40 rfl rfl ?_
        exact j_iret dX10_area_41 rfl rfl (Nat.le_of_ble_eq_true rfl) (Nat.le_of_ble_eq_true rfl) ⟨rfl, rfl⟩
      · exact absurd (Nat.le_of_eq hw.symm) h13
    · refine j_iln dX10_area_9 rfl rfl ?_
      refine j_siN 3072 dX10_area_10 rfl ?_
      refine j_icgeN (tgt := 40) dX10_area_13 (by decide) (by omega) (by omega) (fun h13 => ?_) (fun h13 => ?_)
      · exact absurd h13 (by omega)
      · refine j_iln dX10_area_16 rfl rfl ?_
        refine j_aln dX10_area_17 rfl rfl ?_
        refine g_X10_23 dX10_area_18 fl_X10_60 ?_
        refine j_iln dX10_area_21 rfl rfl ?_
        refine j_aildN dX10_area_22 rfl rfl rfl (by decide) (by omega) ?_
        refine j_ic (v := (-1)) dX10_area_23 (by decide) ?_
        refine j_icne (tgt := 31) dX10_area_24 (by decide) (fun h24 => ?_) (fun h24 => ?_)
        · have hg : ctK (fun i => mI M 56 i = -1) (i + 1) = ctK (fun i => mI M 56 i = -1) i + nI 1 := ctK_f (P := (fun i => mI M 56 i = -1)) h24
          refine j_icN 1 dX10_area_31 rfl ?_
          refine j_iadd dX10_area_32 ?_
          refine j_ist_1 dX10_area_33 (by decide) rfl ?_
          refine j_incN_2 1 dX10_area_34 rfl (by decide) rfl ?_
          refine j_goto (tgt := 9) dX10_area_37 (by decide) ?_
          rw [hg] at ih
          exact ih
        · have hg : ctK (fun i => mI M 56 i = -1) (i + 1) = ctK (fun i => mI M 56 i = -1) i + nI 0 := ctK_t (P := (fun i => mI M 56 i = -1)) h24
          refine j_icN 0 dX10_area_27 rfl ?_
          refine j_goto (tgt := 32) dX10_area_28 (by decide) ?_
          refine j_iadd dX10_area_32 ?_
          refine j_ist_1 dX10_area_33 (by decide) rfl ?_
          refine j_incN_2 1 dX10_area_34 rfl (by decide) rfl ?_
          refine j_goto (tgt := 9) dX10_area_37 (by decide) ?_
          rw [hg] at ih
          exact ih
  refine j_aln dX10_area_0 rfl rfl ?_
  refine j_icN 0 dX10_area_1 rfl ?_
  refine p_X10_0 dX10_area_2 fl_X10_96 ?_
  refine j_icN 0 dX10_area_5 rfl ?_
  refine j_ist_1 dX10_area_6 (by decide) rfl ?_
  refine j_icN 0 dX10_area_7 rfl ?_
  refine j_ist_2 dX10_area_8 (by decide) rfl ?_
  have K0 := K 0 (by omega)
  rw [ctK_0] at K0
  exact K0
theorem ne_mF {M : Mm} {f : Nat} (h : ¬ neX M f = -1) : mF M (neX M f) = true := by
  unfold neX at *
  by_cases q : ¬ ndM M f = nI f ∧ mF M (ndM M f) = true
  · rw [if_pos q]; exact q.2
  · rw [if_neg q] at h; exact absurd rfl h
def orX (M : Mm) (cnt : Nat) (fr : Nat → Nat) : Bool := (List.range cnt).all (fun j => decide (neX M (fr j) = -1 ∨ fpX cnt (mI M 44) (neX M (fr j)) ≤ nI j))
theorem or_t {M : Mm} {cnt : Nat} {fr : Nat → Nat} (h : ∀ j, j < cnt → (neX M (fr j) = -1 ∨ fpX cnt (mI M 44) (neX M (fr j)) ≤ nI j)) : orX M cnt fr = true :=
  List.all_eq_true.mpr fun j hj => decide_eq_true (h j (List.mem_range.mp hj))
theorem or_f {M : Mm} {cnt k : Nat} {fr : Nat → Nat} (hk : k < cnt) (h : ¬ (neX M (fr k) = -1 ∨ fpX cnt (mI M 44) (neX M (fr k)) ≤ nI k)) : orX M cnt fr = false := by
  cases e : orX M cnt fr
  · rfl
  · exact absurd (of_decide_eq_true (List.all_eq_true.mp e k (List.mem_range.mpr hk))) h
set_option maxRecDepth 100000 in
set_option maxHeartbeats 4000000 in
theorem c_X10_isOrdered {l : Launch} {E : Ev} {M : Mm} {cnt gv : Nat} {fr : Nat → Nat} (hcnt : mI M 12 6 = nI cnt) (hc12 : cnt ≤ 12) (hg : mI M 12 5 = nI gv) (hg40 : gv ≤ 40) (hrow : ∀ k, k < cnt → mI M 44 k = nI (fr k) ∧ fr k < 40) (htm : ∀ f, f < 40 → mT (mI M 46 (6 * f + 0)) = true) (hpl : ∀ x, mF M x = true → ∃ p, p < cnt ∧ mI M 44 p = x ∧ ∀ j, j < p → ¬ mI M 44 j = x) : Ct l E yX10_isOrdered cX10_isOrdered 3 (some .boolean) 4 0 0 [.ref (eA E 12 0)] M (dv (.int (bI (orX M cnt fr))) M) := by
  refine Ct.of (own := RX10) rfl [some (.ref (eA E 12 0)), none, none] (by decide) (Nat.le_of_ble_eq_true rfl) rfl ?_
  have K : ∀ k, k ≤ cnt → ∀ (o2 : Option Value), (∀ j, j < k → (neX M (fr j) = -1 ∨ fpX cnt (mI M 44) (neX M (fr j)) ≤ nI j)) → Jd l E RX10 cX10_isOrdered 3 (some .boolean) [] (rmm 4 0 0) (QfN E (dv (.int (bI (orX M cnt fr))) M) 0 0) 0 0 2 [some (.ref (eA E 12 0)), some (.int (nI k)), o2] [] M := by
    refine up_to cnt _ ?_ (fun k hk ih => ?_)
    · intro o2 hall
      refine j_iln dX10_isOrdered_2 rfl rfl ?_
      refine j_aln dX10_isOrdered_3 rfl rfl ?_
      refine g_X10_6 dX10_isOrdered_4 fl_X10_131 ?_
      refine j_topi hcnt ?_
      refine j_icgeN (tgt := 43) dX10_isOrdered_7 (by decide) (by omega) (by omega) (fun h7 => ?_) (fun h7 => ?_)
      · refine j_icN 1 dX10_isOrdered_43 rfl ?_
        exact j_iret dX10_isOrdered_44 rfl (by decide) (Nat.le_of_ble_eq_true rfl) (Nat.le_of_ble_eq_true rfl) ⟨by rw [or_t hall]; rfl, rfl⟩
      · exact absurd (Nat.le_refl cnt) h7
    · intro o2 hall
      refine j_iln dX10_isOrdered_2 rfl rfl ?_
      refine j_aln dX10_isOrdered_3 rfl rfl ?_
      refine g_X10_6 dX10_isOrdered_4 fl_X10_131 ?_
      refine j_topi hcnt ?_
      refine j_icgeN (tgt := 43) dX10_isOrdered_7 (by decide) (by omega) (by omega) (fun h7 => ?_) (fun h7 => ?_)
      · exact absurd h7 (by omega)
      · refine j_aln dX10_isOrdered_10 rfl rfl ?_
        refine j_aln dX10_isOrdered_11 rfl rfl ?_
        refine g_X10_8 dX10_isOrdered_12 fl_X10_23 ?_
        refine j_iln dX10_isOrdered_15 rfl rfl ?_
        refine j_aildN dX10_isOrdered_16 rfl rfl rfl (by decide) (by omega) ?_
        refine j_topi (hrow k hk).1 ?_
        refine j_V1d mf_X10_needed ml_X10_153 dX10_isOrdered_17 (Nat.le_of_ble_eq_true rfl) (Nat.le_of_ble_eq_true rfl) (Nat.le_of_ble_eq_true rfl) ⟨(Nat.le_of_ble_eq_true rfl), (Nat.le_of_ble_eq_true rfl)⟩ (by first | assumption | decide | (simp only [nv] at *; omega)) rfl rfl (c_X10_needed (hrow k hk).2 hg hg40 (htm (fr k) (hrow k hk).2)) ?_
        refine j_ist_2 dX10_isOrdered_20 (by decide) rfl ?_
        refine j_iln dX10_isOrdered_21 rfl rfl ?_
        refine j_ic (v := (-1)) dX10_isOrdered_22 (by decide) ?_
        refine j_iceq (tgt := 37) dX10_isOrdered_23 (by decide) (fun h23 => ?_) (fun h23 => ?_)
        · have hn : (neX M (fr k) = -1 ∨ fpX cnt (mI M 44) (neX M (fr k)) ≤ nI k) := Or.inl h23
          refine j_incN_1 1 dX10_isOrdered_37 rfl (by decide) rfl ?_
          refine j_goto (tgt := 2) dX10_isOrdered_40 (by decide) ?_
          exact ih _ (fun j hj => by
            rcases Nat.lt_or_ge j k with h | h
            · exact hall j h
            · rw [show j = k by omega]; exact hn)
        · obtain ⟨p, hpc, hpx, hpf⟩ := hpl _ (ne_mF h23)
          have hfp : fpX cnt (mI M 44) (neX M (fr k)) = nI p := fpX_t hpc hpf hpx
          refine j_aln dX10_isOrdered_26 rfl rfl ?_
          refine j_iln dX10_isOrdered_27 rfl rfl ?_
          refine j_V1d mf_X10_placeOf ml_X10_156 dX10_isOrdered_28 (Nat.le_of_ble_eq_true rfl) (Nat.le_of_ble_eq_true rfl) (Nat.le_of_ble_eq_true rfl) ⟨(Nat.le_of_ble_eq_true rfl), (Nat.le_of_ble_eq_true rfl)⟩ (by first | assumption | decide | (simp only [nv] at *; omega)) rfl rfl (c_X10_placeOf (show p < 13 by omega) hpx hpf) ?_
          refine j_iln dX10_isOrdered_31 rfl rfl ?_
          refine j_icleN (tgt := 37) dX10_isOrdered_32 (by decide) (by omega) (by omega) (fun h32 => ?_) (fun h32 => ?_)
          · have hn : (neX M (fr k) = -1 ∨ fpX cnt (mI M 44) (neX M (fr k)) ≤ nI k) := Or.inr (by rw [hfp]; exact nI_le h32 (by omega))
            refine j_incN_1 1 dX10_isOrdered_37 rfl (by decide) rfl ?_
            refine j_goto (tgt := 2) dX10_isOrdered_40 (by decide) ?_
            exact ih _ (fun j hj => by
              rcases Nat.lt_or_ge j k with h | h
              · exact hall j h
              · rw [show j = k by omega]; exact hn)
          · have hn : ¬ (neX M (fr k) = -1 ∨ fpX cnt (mI M 44) (neX M (fr k)) ≤ nI k) := fun q => q.elim h23 (fun q => by rw [hfp] at q; exact h32 ((nI_leI (by omega) (by omega)).mp q))
            refine j_icN 0 dX10_isOrdered_35 rfl ?_
            exact j_iret dX10_isOrdered_36 rfl (by decide) (Nat.le_of_ble_eq_true rfl) (Nat.le_of_ble_eq_true rfl) ⟨by rw [or_f hk hn]; rfl, rfl⟩
  refine j_icN 0 dX10_isOrdered_0 rfl ?_
  refine j_ist_1 dX10_isOrdered_1 (by decide) rfl ?_
  exact K 0 (by omega) none (fun j hj => absurd hj (by omega))
set_option maxRecDepth 100000 in
set_option maxHeartbeats 4000000 in
theorem c_X10_moved {l : Launch} {E : Ev} {M : Mm} {cnt : Nat} {x y : Int32} (hc : mI M 12 27 = nI cnt) (hc6 : cnt ≤ 6) : Ct l E yX10_moved cX10_moved 3 (some .int) 3 0 0 [.ref (eA E 12 0), .int x, .int y] M (fun v M1 => (inX x (nI 0) (mI M 12 27 - nI 1) = false ∧ v = some (.int (nI 0)) ∧ M1 = cdM (cdM M (nI 0)) (nI 1)) ∨ (inX x (nI 0) (mI M 12 27 - nI 1) = true ∧ inX y (nI 0) (nI 2) = false ∧ v = some (.int (nI 0)) ∧ M1 = cdM (cdM M (nI 0)) (nI 2)) ∨ (inX x (nI 0) (mI M 12 27 - nI 1) = true ∧ inX y (nI 0) (nI 2) = true ∧ v = some (.int (mI M 60 (3 * ntX x + ntX y))) ∧ M1 = cdM M (nI 0))) := by
  refine Ct.of (own := RX10) rfl [some (.ref (eA E 12 0)), some (.int x), some (.int y)] (by decide) (Nat.le_of_ble_eq_true rfl) rfl ?_
  refine j_aln dX10_moved_0 rfl rfl ?_
  refine j_icN 0 dX10_moved_1 rfl ?_
  refine p_X10_0 dX10_moved_2 fl_X10_96 ?_
  refine j_aln dX10_moved_5 rfl rfl ?_
  refine j_iln dX10_moved_6 rfl rfl ?_
  refine j_V1d mf_X10_isPart ml_X10_234 dX10_moved_7 (Nat.le_of_ble_eq_true rfl) (Nat.le_of_ble_eq_true rfl) (Nat.le_of_ble_eq_true rfl) ⟨(Nat.le_of_ble_eq_true rfl), (Nat.le_of_ble_eq_true rfl)⟩ (by first | assumption | decide | (simp only [nv] at *; omega)) rfl rfl c_X10_isPart ?_
  refine j_ifne (tgt := 19) dX10_moved_10 (by decide) (fun h10 => ?_) (fun h10 => ?_)
  · have hp := bI_ne.mp h10
    refine j_iln dX10_moved_19 rfl rfl ?_
    refine j_icN 0 dX10_moved_20 rfl ?_
    refine j_icN 2 dX10_moved_21 rfl ?_
    refine j_S3d mf_X10_in ml_X10_100 dX10_moved_22 (Nat.le_of_ble_eq_true rfl) (Nat.le_of_ble_eq_true rfl) (Nat.le_of_ble_eq_true rfl) ⟨(Nat.le_of_ble_eq_true rfl), (Nat.le_of_ble_eq_true rfl)⟩ c_X10_in ?_
    refine j_ifeq (tgt := 41) dX10_moved_25 (by decide) (fun h25 => ?_) (fun h25 => ?_)
    · have ha := bI_eq.mp h25
      refine j_aln dX10_moved_41 rfl rfl ?_
      refine j_icN 2 dX10_moved_42 rfl ?_
      refine j_V1d mf_X10_fails ml_X10_112 dX10_moved_43 (Nat.le_of_ble_eq_true rfl) (Nat.le_of_ble_eq_true rfl) (Nat.le_of_ble_eq_true rfl) ⟨(Nat.le_of_ble_eq_true rfl), (Nat.le_of_ble_eq_true rfl)⟩ (by first | assumption | decide | (simp only [nv] at *; omega)) rfl rfl c_X10_fails ?_
      exact j_iret dX10_moved_46 rfl rfl (Nat.le_of_ble_eq_true rfl) (Nat.le_of_ble_eq_true rfl) (by first | exact Or.inr (Or.inl ⟨hp, ha, rfl, rfl⟩) | exact Or.inr (Or.inr ⟨hp, ha, by rw [ntX_nI (by omega), ntX_nI (by omega)]; rfl, rfl⟩))
    · have ha := bI_ne.mp h25
      have ha2 := inX_i.mp ha
      obtain ⟨a, haa, rfl⟩ := nn_le (n := 2) (by decide) ha2.1 (Int32.not_lt.mp ha2.2)
      have hp2 : inX x (nI 0) (nI cnt - nI 1) = true := by have := hp; rwa [show mI (cdM M (nI 0)) 12 27 = nI cnt from hc] at this
      obtain ⟨p, hpp, rfl⟩ := le_gv (by omega) hp2
      refine j_aln dX10_moved_28 rfl rfl ?_
      refine g_X10_28 dX10_moved_29 fl_X10_72 ?_
      refine j_icN 3 dX10_moved_32 rfl ?_
      refine j_iln dX10_moved_33 rfl rfl ?_
      refine j_imulN dX10_moved_34 ?_
      refine j_iln dX10_moved_35 rfl rfl ?_
      refine j_iaddN dX10_moved_36 ?_
      refine j_aildN dX10_moved_37 rfl rfl rfl (by decide) (by omega) ?_
      refine j_goto (tgt := 46) dX10_moved_38 (by decide) ?_
      exact j_iret dX10_moved_46 rfl rfl (Nat.le_of_ble_eq_true rfl) (Nat.le_of_ble_eq_true rfl) (by first | exact Or.inr (Or.inl ⟨hp, ha, rfl, rfl⟩) | exact Or.inr (Or.inr ⟨hp, ha, by rw [ntX_nI (by omega), ntX_nI (by omega)]; rfl, rfl⟩))
  · have hp := bI_eq.mp h10
    refine j_aln dX10_moved_13 rfl rfl ?_
    refine j_icN 1 dX10_moved_14 rfl ?_
    refine j_V1d mf_X10_fails ml_X10_112 dX10_moved_15 (Nat.le_of_ble_eq_true rfl) (Nat.le_of_ble_eq_true rfl) (Nat.le_of_ble_eq_true rfl) ⟨(Nat.le_of_ble_eq_true rfl), (Nat.le_of_ble_eq_true rfl)⟩ (by first | assumption | decide | (simp only [nv] at *; omega)) rfl rfl c_X10_fails ?_
    exact j_iret dX10_moved_18 rfl rfl (Nat.le_of_ble_eq_true rfl) (Nat.le_of_ble_eq_true rfl) (Or.inl ⟨hp, rfl, rfl⟩)
