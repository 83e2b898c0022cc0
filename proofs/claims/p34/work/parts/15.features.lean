/-! Features -/
def szX (M : Mm) (f w : Nat) : Int32 := valX (mI M 23) (mI M 26 (f * 6 + w))
def fpN (cnt : Nat) (row : Nat → Int32) (x : Int32) : Option Nat := (List.range cnt).find? (fun k => decide (row k = x))
def fpX (cnt : Nat) (row : Nat → Int32) (x : Int32) : Int32 := match fpN cnt row x with
  | some k => nI k
  | none => -1
theorem fpX_t {cnt k : Nat} {row : Nat → Int32} {x : Int32} (hk : k < cnt) (h0 : ∀ j, j < k → ¬ row j = x) (h1 : row k = x) : fpX cnt row x = nI k := by
  unfold fpX fpN
  rw [find_r hk (fun j hj => decide_eq_false (h0 j hj)) (decide_eq_true h1)]
theorem fpX_f {cnt : Nat} {row : Nat → Int32} {x : Int32} (h0 : ∀ j, j < cnt → ¬ row j = x) : fpX cnt row x = -1 := by
  unfold fpX fpN
  rw [List.find?_eq_none.mpr (fun y hy => by rw [decide_eq_false (h0 y (List.mem_range.mp hy))]; decide)]
/-- whether another feature needs it; whether all stand behind the needed -/
def nbO (M : Mm) (cnt : Nat) (fr : Nat → Nat) (x : Int32) : Bool := (List.range cnt).any (fun k => decide (¬ nI (fr k) = x ∧ mI M 25 (fr k) = nI 101 ∧ szX M (fr k) 0 = x))
def sbN (M : Mm) (cnt : Nat) (fr : Nat → Nat) : Bool := (List.range cnt).all (fun k => decide (mI M 25 (fr k) = nI 101 → fpX cnt (mI M 24) (szX M (fr k) 0) ≤ nI k))
theorem nbO_t {M : Mm} {cnt : Nat} {fr : Nat → Nat} {x : Int32} {k : Nat} (hk : k < cnt) (h : ¬ nI (fr k) = x ∧ mI M 25 (fr k) = nI 101 ∧ szX M (fr k) 0 = x) : nbO M cnt fr x = true :=
  List.any_eq_true.mpr ⟨k, List.mem_range.mpr hk, decide_eq_true h⟩
theorem nbO_f {M : Mm} {cnt : Nat} {fr : Nat → Nat} {x : Int32} (h : ∀ k, k < cnt → ¬ (¬ nI (fr k) = x ∧ mI M 25 (fr k) = nI 101 ∧ szX M (fr k) 0 = x)) : nbO M cnt fr x = false := by
  cases e : nbO M cnt fr x
  · rfl
  · obtain ⟨k, hk, h2⟩ := List.any_eq_true.mp e
    exact absurd (of_decide_eq_true h2) (h k (List.mem_range.mp hk))
theorem sbN_t {M : Mm} {cnt : Nat} {fr : Nat → Nat} (h : ∀ k, k < cnt → mI M 25 (fr k) = nI 101 → fpX cnt (mI M 24) (szX M (fr k) 0) ≤ nI k) : sbN M cnt fr = true :=
  List.all_eq_true.mpr fun k hk => decide_eq_true (h k (List.mem_range.mp hk))
theorem sbN_f {M : Mm} {cnt : Nat} {fr : Nat → Nat} {k : Nat} (hk : k < cnt) (h1 : mI M 25 (fr k) = nI 101) (h2 : ¬ fpX cnt (mI M 24) (szX M (fr k) 0) ≤ nI k) : sbN M cnt fr = false := by
  cases e : sbN M cnt fr
  · rfl
  · exact absurd (of_decide_eq_true (List.all_eq_true.mp e k (List.mem_range.mpr hk)) h1) h2
set_option maxRecDepth 100000 in
set_option maxHeartbeats 4000000 in
theorem c_X2_sizeOf {l : Launch} {E : Ev} {M : Mm} {f w : Nat} (hf : f < 40) (hw : w < 6) : Ct l E yX2_sizeOf cX2_sizeOf 3 (some .int) 3 0 0 [.ref (eA E 2 0), .int (nI f), .int (nI w)] M (dv (.int (szX M f w)) M) := by
  refine Ct.of (own := RX2) rfl [some (.ref (eA E 2 0)), some (.int (nI f)), some (.int (nI w))] (by decide) (Nat.le_of_ble_eq_true rfl) rfl ?_
  refine j_aln dX2_sizeOf_0 rfl rfl ?_
  refine g_X2_0 dX2_sizeOf_1 fl_X2_12 ?_
  refine j_aln dX2_sizeOf_4 rfl rfl ?_
  refine g_X2_3 dX2_sizeOf_5 fl_X2_26 ?_
  refine j_iln dX2_sizeOf_8 rfl rfl ?_
  refine j_biN 6 dX2_sizeOf_9 rfl ?_
  refine j_imulN dX2_sizeOf_11 ?_
  refine j_iln dX2_sizeOf_12 rfl rfl ?_
  refine j_iaddN dX2_sizeOf_13 ?_
  refine j_aildN dX2_sizeOf_14 rfl rfl rfl (by decide) (by omega) ?_
  refine j_V1d mf_X5_valueOf ml_X2_37 dX2_sizeOf_15 (Nat.le_of_ble_eq_true rfl) (Nat.le_of_ble_eq_true rfl) (Nat.le_of_ble_eq_true rfl) ⟨(Nat.le_of_ble_eq_true rfl), (Nat.le_of_ble_eq_true rfl)⟩ (by first | assumption | decide | (simp only [nv] at *; omega)) rfl rfl c_X5_valueOf ?_
  exact j_iret dX2_sizeOf_18 rfl rfl (Nat.le_of_ble_eq_true rfl) (Nat.le_of_ble_eq_true rfl) ⟨rfl, rfl⟩
set_option maxRecDepth 100000 in
set_option maxHeartbeats 4000000 in
theorem c_X2_findPlace {l : Launch} {E : Ev} {M : Mm} {cnt : Nat} {x : Int32} (hcnt : mI M 2 5 = nI cnt) (hc12 : cnt ≤ 12) : Ct l E yX2_findPlace cX2_findPlace 3 (some .int) 1 0 0 [.ref (eA E 2 0), .int x] M (dv (.int (fpX cnt (mI M 24) x)) M) := by
  refine Ct.of (own := RX2) rfl [some (.ref (eA E 2 0)), some (.int x), none] (by decide) (Nat.le_of_ble_eq_true rfl) rfl ?_
  have K : ∀ k, k ≤ cnt → (∀ j, j < k → ¬ mI M 24 j = x) → Jd l E RX2 cX2_findPlace 3 (some .int) [] (rmm 1 0 0) (QfN E (dv (.int (fpX cnt (mI M 24) x)) M) 0 0) 0 0 2 [some (.ref (eA E 2 0)), some (.int x), some (.int (nI k))] [] M := by
    refine up_to cnt _ ?_ (fun k hk ih => ?_)
    · intro hall
      refine j_iln dX2_findPlace_2 rfl rfl ?_
      refine j_aln dX2_findPlace_3 rfl rfl ?_
      refine g_X2_5 dX2_findPlace_4 fl_X2_33 ?_
      refine j_topi hcnt ?_
      refine j_icgeN (tgt := 28) dX2_findPlace_7 (by decide) (by omega) (by omega) (fun h7 => ?_) (fun h7 => ?_)
      · refine j_ic (v := (-1)) dX2_findPlace_28 (by decide) ?_
        exact j_iret dX2_findPlace_29 rfl rfl (Nat.le_of_ble_eq_true rfl) (Nat.le_of_ble_eq_true rfl) ⟨by rw [fpX_f hall], rfl⟩
      · exact absurd (Nat.le_refl cnt) h7
    · intro hall
      refine j_iln dX2_findPlace_2 rfl rfl ?_
      refine j_aln dX2_findPlace_3 rfl rfl ?_
      refine g_X2_5 dX2_findPlace_4 fl_X2_33 ?_
      refine j_topi hcnt ?_
      refine j_icgeN (tgt := 28) dX2_findPlace_7 (by decide) (by omega) (by omega) (fun h7 => ?_) (fun h7 => ?_)
      · exact absurd h7 (by omega)
      · refine j_aln dX2_findPlace_10 rfl rfl ?_
        refine g_X2_1 dX2_findPlace_11 fl_X2_18 ?_
        refine j_iln dX2_findPlace_14 rfl rfl ?_
        refine j_aildN dX2_findPlace_15 rfl rfl rfl (by decide) (by omega) ?_
        refine j_iln dX2_findPlace_16 rfl rfl ?_
        refine j_icne (tgt := 22) dX2_findPlace_17 (by decide) (fun h17 => ?_) (fun h17 => ?_)
        · refine j_incN_2 1 dX2_findPlace_22 rfl (by decide) rfl ?_
          refine j_goto (tgt := 2) dX2_findPlace_25 (by decide) ?_
          exact ih (fun j hj => by
            rcases Nat.lt_or_ge j k with h | h
            · exact hall j h
            · rw [show j = k by omega]; exact h17)
        · refine j_iln dX2_findPlace_20 rfl rfl ?_
          exact j_iret dX2_findPlace_21 rfl rfl (Nat.le_of_ble_eq_true rfl) (Nat.le_of_ble_eq_true rfl) ⟨by rw [fpX_t hk hall h17], rfl⟩
  refine j_icN 0 dX2_findPlace_0 rfl ?_
  refine j_ist_2 dX2_findPlace_1 (by decide) rfl ?_
  exact K 0 (by omega) (fun j hj => absurd hj (by omega))
set_option maxRecDepth 100000 in
set_option maxHeartbeats 4000000 in
theorem c_X2_isNeededByOther {l : Launch} {E : Ev} {M : Mm} {cnt : Nat} {fr : Nat → Nat} {x : Int32} (hcnt : mI M 2 5 = nI cnt) (hc12 : cnt ≤ 12) (hrow : ∀ k, k < cnt → mI M 24 k = nI (fr k) ∧ fr k < 40) : Ct l E yX2_isNeededByOther cX2_isNeededByOther 4 (some .boolean) 4 0 0 [.ref (eA E 2 0), .int x] M (dv (.int (bI (nbO M cnt fr x))) M) := by
  refine Ct.of (own := RX2) rfl [some (.ref (eA E 2 0)), some (.int x), none, none] (by decide) (Nat.le_of_ble_eq_true rfl) rfl ?_
  have K : ∀ k, k ≤ cnt → ∀ (o3 : Option Value), (∀ j, j < k → ¬ (¬ nI (fr j) = x ∧ mI M 25 (fr j) = nI 101 ∧ szX M (fr j) 0 = x)) → Jd l E RX2 cX2_isNeededByOther 4 (some .boolean) [] (rmm 4 0 0) (QfN E (dv (.int (bI (nbO M cnt fr x))) M) 0 0) 0 0 2 [some (.ref (eA E 2 0)), some (.int x), some (.int (nI k)), o3] [] M := by
    refine up_to cnt _ ?_ (fun k hk ih => ?_)
    · intro o3 hall
      refine j_iln dX2_isNeededByOther_2 rfl rfl ?_
      refine j_aln dX2_isNeededByOther_3 rfl rfl ?_
      refine g_X2_5 dX2_isNeededByOther_4 fl_X2_33 ?_
      refine j_topi hcnt ?_
      refine j_icgeN (tgt := 51) dX2_isNeededByOther_7 (by decide) (by omega) (by omega) (fun h7 => ?_) (fun h7 => ?_)
      · refine j_icN 0 dX2_isNeededByOther_51 rfl ?_
        exact j_iret dX2_isNeededByOther_52 rfl (by decide) (Nat.le_of_ble_eq_true rfl) (Nat.le_of_ble_eq_true rfl) ⟨by rw [nbO_f hall]; rfl, rfl⟩
      · exact absurd (Nat.le_refl cnt) h7
    · intro o3 hall
      refine j_iln dX2_isNeededByOther_2 rfl rfl ?_
      refine j_aln dX2_isNeededByOther_3 rfl rfl ?_
      refine g_X2_5 dX2_isNeededByOther_4 fl_X2_33 ?_
      refine j_topi hcnt ?_
      refine j_icgeN (tgt := 51) dX2_isNeededByOther_7 (by decide) (by omega) (by omega) (fun h7 => ?_) (fun h7 => ?_)
      · exact absurd h7 (by omega)
      · refine j_aln dX2_isNeededByOther_10 rfl rfl ?_
        refine g_X2_1 dX2_isNeededByOther_11 fl_X2_18 ?_
        refine j_iln dX2_isNeededByOther_14 rfl rfl ?_
        refine j_aildN dX2_isNeededByOther_15 rfl rfl rfl (by decide) (by omega) ?_
        refine j_topi (hrow k hk).1 ?_
        refine j_ist_3 dX2_isNeededByOther_16 (by decide) rfl ?_
        refine j_iln dX2_isNeededByOther_17 rfl rfl ?_
        refine j_iln dX2_isNeededByOther_18 rfl rfl ?_
        refine j_iceq (tgt := 45) dX2_isNeededByOther_19 (by decide) (fun h19 => ?_) (fun h19 => ?_)
        · have hn : ¬ (¬ nI (fr k) = x ∧ mI M 25 (fr k) = nI 101 ∧ szX M (fr k) 0 = x) := fun g => g.1 h19
          refine j_incN_2 1 dX2_isNeededByOther_45 rfl (by decide) rfl ?_
          refine j_goto (tgt := 2) dX2_isNeededByOther_48 (by decide) ?_
          exact ih _ (fun j hj => by
            rcases Nat.lt_or_ge j k with h | h
            · exact hall j h
            · rw [show j = k by omega]; exact hn)
        · refine j_aln dX2_isNeededByOther_22 rfl rfl ?_
          refine g_X2_2 dX2_isNeededByOther_23 fl_X2_22 ?_
          refine j_iln dX2_isNeededByOther_26 rfl rfl ?_
          refine j_acldN dX2_isNeededByOther_27 rfl rfl rfl (by decide) (by have := (hrow k hk).2; omega) ?_
          refine j_biN 101 dX2_isNeededByOther_28 rfl ?_
          refine j_icne (tgt := 45) dX2_isNeededByOther_30 (by decide) (fun h30 => ?_) (fun h30 => ?_)
          · have hn : ¬ (¬ nI (fr k) = x ∧ mI M 25 (fr k) = nI 101 ∧ szX M (fr k) 0 = x) := fun g => h30 g.2.1
            refine j_incN_2 1 dX2_isNeededByOther_45 rfl (by decide) rfl ?_
            refine j_goto (tgt := 2) dX2_isNeededByOther_48 (by decide) ?_
            exact ih _ (fun j hj => by
              rcases Nat.lt_or_ge j k with h | h
              · exact hall j h
              · rw [show j = k by omega]; exact hn)
          · refine j_aln dX2_isNeededByOther_33 rfl rfl ?_
            refine j_iln dX2_isNeededByOther_34 rfl rfl ?_
            refine j_icN 0 dX2_isNeededByOther_35 rfl ?_
            refine j_V2d mf_X2_sizeOf ml_X2_47 dX2_isNeededByOther_36 (Nat.le_of_ble_eq_true rfl) (Nat.le_of_ble_eq_true rfl) (Nat.le_of_ble_eq_true rfl) ⟨(Nat.le_of_ble_eq_true rfl), (Nat.le_of_ble_eq_true rfl)⟩ (by first | assumption | decide | (simp only [nv] at *; omega)) rfl rfl (c_X2_sizeOf (hrow k hk).2 (by omega)) ?_
            refine j_iln dX2_isNeededByOther_39 rfl rfl ?_
            refine j_icne (tgt := 45) dX2_isNeededByOther_40 (by decide) (fun h40 => ?_) (fun h40 => ?_)
            · have hn : ¬ (¬ nI (fr k) = x ∧ mI M 25 (fr k) = nI 101 ∧ szX M (fr k) 0 = x) := fun g => h40 g.2.2
              refine j_incN_2 1 dX2_isNeededByOther_45 rfl (by decide) rfl ?_
              refine j_goto (tgt := 2) dX2_isNeededByOther_48 (by decide) ?_
              exact ih _ (fun j hj => by
                rcases Nat.lt_or_ge j k with h | h
                · exact hall j h
                · rw [show j = k by omega]; exact hn)
            · refine j_icN 1 dX2_isNeededByOther_43 rfl ?_
              exact j_iret dX2_isNeededByOther_44 rfl (by decide) (Nat.le_of_ble_eq_true rfl) (Nat.le_of_ble_eq_true rfl) ⟨by rw [nbO_t hk ⟨h19, h30, h40⟩]; rfl, rfl⟩
  refine j_icN 0 dX2_isNeededByOther_0 rfl ?_
  refine j_ist_2 dX2_isNeededByOther_1 (by decide) rfl ?_
  exact K 0 (by omega) none (fun j hj => absurd hj (by omega))
set_option maxRecDepth 100000 in
set_option maxHeartbeats 4000000 in
theorem c_X2_standBehindNeeded {l : Launch} {E : Ev} {M : Mm} {cnt : Nat} {fr : Nat → Nat} (hcnt : mI M 2 5 = nI cnt) (hc12 : cnt ≤ 12) (hrow : ∀ k, k < cnt → mI M 24 k = nI (fr k) ∧ fr k < 40) : Ct l E yX2_standBehindNeeded cX2_standBehindNeeded 3 (some .boolean) 4 0 0 [.ref (eA E 2 0)] M (dv (.int (bI (sbN M cnt fr))) M) := by
  refine Ct.of (own := RX2) rfl [some (.ref (eA E 2 0)), none, none] (by decide) (Nat.le_of_ble_eq_true rfl) rfl ?_
  have K : ∀ k, k ≤ cnt → ∀ (o2 : Option Value), (∀ j, j < k → (mI M 25 (fr j) = nI 101 → fpX cnt (mI M 24) (szX M (fr j) 0) ≤ nI j)) → Jd l E RX2 cX2_standBehindNeeded 3 (some .boolean) [] (rmm 4 0 0) (QfN E (dv (.int (bI (sbN M cnt fr))) M) 0 0) 0 0 2 [some (.ref (eA E 2 0)), some (.int (nI k)), o2] [] M := by
    refine up_to cnt _ ?_ (fun k hk ih => ?_)
    · intro o2 hall
      refine j_iln dX2_standBehindNeeded_2 rfl rfl ?_
      refine j_aln dX2_standBehindNeeded_3 rfl rfl ?_
      refine g_X2_5 dX2_standBehindNeeded_4 fl_X2_33 ?_
      refine j_topi hcnt ?_
      refine j_icgeN (tgt := 50) dX2_standBehindNeeded_7 (by decide) (by omega) (by omega) (fun h7 => ?_) (fun h7 => ?_)
      · refine j_icN 1 dX2_standBehindNeeded_50 rfl ?_
        exact j_iret dX2_standBehindNeeded_51 rfl (by decide) (Nat.le_of_ble_eq_true rfl) (Nat.le_of_ble_eq_true rfl) ⟨by rw [sbN_t hall]; rfl, rfl⟩
      · exact absurd (Nat.le_refl cnt) h7
    · intro o2 hall
      refine j_iln dX2_standBehindNeeded_2 rfl rfl ?_
      refine j_aln dX2_standBehindNeeded_3 rfl rfl ?_
      refine g_X2_5 dX2_standBehindNeeded_4 fl_X2_33 ?_
      refine j_topi hcnt ?_
      refine j_icgeN (tgt := 50) dX2_standBehindNeeded_7 (by decide) (by omega) (by omega) (fun h7 => ?_) (fun h7 => ?_)
      · exact absurd h7 (by omega)
      · refine j_aln dX2_standBehindNeeded_10 rfl rfl ?_
        refine g_X2_1 dX2_standBehindNeeded_11 fl_X2_18 ?_
        refine j_iln dX2_standBehindNeeded_14 rfl rfl ?_
        refine j_aildN dX2_standBehindNeeded_15 rfl rfl rfl (by decide) (by omega) ?_
        refine j_topi (hrow k hk).1 ?_
        refine j_ist_2 dX2_standBehindNeeded_16 (by decide) rfl ?_
        refine j_aln dX2_standBehindNeeded_17 rfl rfl ?_
        refine g_X2_2 dX2_standBehindNeeded_18 fl_X2_22 ?_
        refine j_iln dX2_standBehindNeeded_21 rfl rfl ?_
        refine j_acldN dX2_standBehindNeeded_22 rfl rfl rfl (by decide) (by have := (hrow k hk).2; omega) ?_
        refine j_biN 101 dX2_standBehindNeeded_23 rfl ?_
        refine j_icne (tgt := 44) dX2_standBehindNeeded_25 (by decide) (fun h25 => ?_) (fun h25 => ?_)
        · have hn : (mI M 25 (fr k) = nI 101 → fpX cnt (mI M 24) (szX M (fr k) 0) ≤ nI k) := fun g => absurd g h25
          refine j_incN_1 1 dX2_standBehindNeeded_44 rfl (by decide) rfl ?_
          refine j_goto (tgt := 2) dX2_standBehindNeeded_47 (by decide) ?_
          exact ih _ (fun j hj => by
            rcases Nat.lt_or_ge j k with h | h
            · exact hall j h
            · rw [show j = k by omega]; exact hn)
        · refine j_aln dX2_standBehindNeeded_28 rfl rfl ?_
          refine j_aln dX2_standBehindNeeded_29 rfl rfl ?_
          refine j_iln dX2_standBehindNeeded_30 rfl rfl ?_
          refine j_icN 0 dX2_standBehindNeeded_31 rfl ?_
          refine j_V2d mf_X2_sizeOf ml_X2_47 dX2_standBehindNeeded_32 (Nat.le_of_ble_eq_true rfl) (Nat.le_of_ble_eq_true rfl) (Nat.le_of_ble_eq_true rfl) ⟨(Nat.le_of_ble_eq_true rfl), (Nat.le_of_ble_eq_true rfl)⟩ (by first | assumption | decide | (simp only [nv] at *; omega)) rfl rfl (c_X2_sizeOf (hrow k hk).2 (by omega)) ?_
          refine j_V1d mf_X2_findPlace ml_X2_60 dX2_standBehindNeeded_35 (Nat.le_of_ble_eq_true rfl) (Nat.le_of_ble_eq_true rfl) (Nat.le_of_ble_eq_true rfl) ⟨(Nat.le_of_ble_eq_true rfl), (Nat.le_of_ble_eq_true rfl)⟩ (by first | assumption | decide | (simp only [nv] at *; omega)) rfl rfl (c_X2_findPlace hcnt hc12) ?_
          refine j_iln dX2_standBehindNeeded_38 rfl rfl ?_
          refine j_icle (tgt := 44) dX2_standBehindNeeded_39 (by decide) (fun h39 => ?_) (fun h39 => ?_)
          · have hn : (mI M 25 (fr k) = nI 101 → fpX cnt (mI M 24) (szX M (fr k) 0) ≤ nI k) := fun _ => h39
            refine j_incN_1 1 dX2_standBehindNeeded_44 rfl (by decide) rfl ?_
            refine j_goto (tgt := 2) dX2_standBehindNeeded_47 (by decide) ?_
            exact ih _ (fun j hj => by
              rcases Nat.lt_or_ge j k with h | h
              · exact hall j h
              · rw [show j = k by omega]; exact hn)
          · refine j_icN 0 dX2_standBehindNeeded_42 rfl ?_
            exact j_iret dX2_standBehindNeeded_43 rfl (by decide) (Nat.le_of_ble_eq_true rfl) (Nat.le_of_ble_eq_true rfl) ⟨by rw [sbN_f hk h25 h39]; rfl, rfl⟩
  refine j_icN 0 dX2_standBehindNeeded_0 rfl ?_
  refine j_ist_1 dX2_standBehindNeeded_1 (by decide) rfl ?_
  exact K 0 (by omega) none (fun j hj => absurd hj (by omega))
set_option maxRecDepth 100000 in
set_option maxHeartbeats 4000000 in
theorem c_X2_putFurther {l : Launch} {E : Ev} {M : Mm} {f w : Nat} {x : Int32} (hf : f < 40) (hw : w < 3) : Ct l E yX2_putFurther cX2_putFurther 5 (some .int) 4 0 0 [.ref (eA E 2 0), .int (nI f), .int (nI w), .int x] M (dv (.int (if szX (sI M 26 (upd (mI M 26) (f * 6 + 3 + w) x)) f (3 + w) = szX M f (3 + w) then nI 0 else nI 1)) (sI M 26 (upd (mI M 26) (f * 6 + 3 + w) x))) := by
  refine Ct.of (own := RX2) rfl [some (.ref (eA E 2 0)), some (.int (nI f)), some (.int (nI w)), some (.int x), none] (by decide) (Nat.le_of_ble_eq_true rfl) rfl ?_
  refine j_aln dX2_putFurther_0 rfl rfl ?_
  refine j_iln dX2_putFurther_1 rfl rfl ?_
  refine j_icN 3 dX2_putFurther_2 rfl ?_
  refine j_iln dX2_putFurther_3 rfl rfl ?_
  refine j_iaddN dX2_putFurther_4 ?_
  refine j_V2d mf_X2_sizeOf ml_X2_47 dX2_putFurther_5 (Nat.le_of_ble_eq_true rfl) (Nat.le_of_ble_eq_true rfl) (Nat.le_of_ble_eq_true rfl) ⟨(Nat.le_of_ble_eq_true rfl), (Nat.le_of_ble_eq_true rfl)⟩ (by first | assumption | decide | (simp only [nv] at *; omega)) rfl rfl (c_X2_sizeOf hf (by omega)) ?_
  refine j_ist_4 dX2_putFurther_8 (by decide) rfl ?_
  refine j_aln dX2_putFurther_10 rfl rfl ?_
  refine g_X2_3 dX2_putFurther_11 fl_X2_26 ?_
  refine j_iln dX2_putFurther_14 rfl rfl ?_
  refine j_biN 6 dX2_putFurther_15 rfl ?_
  refine j_imulN dX2_putFurther_17 ?_
  refine j_icN 3 dX2_putFurther_18 rfl ?_
  refine j_iaddN dX2_putFurther_19 ?_
  refine j_iln dX2_putFurther_20 rfl rfl ?_
  refine j_iaddN dX2_putFurther_21 ?_
  refine j_iln dX2_putFurther_22 rfl rfl ?_
  refine j_aistN dX2_putFurther_23 rfl (fun _ => rfl) rfl (by decide) (by omega) ?_
  refine j_aln dX2_putFurther_24 rfl rfl ?_
  refine j_iln dX2_putFurther_25 rfl rfl ?_
  refine j_icN 3 dX2_putFurther_26 rfl ?_
  refine j_iln dX2_putFurther_27 rfl rfl ?_
  refine j_iaddN dX2_putFurther_28 ?_
  refine j_V2d mf_X2_sizeOf ml_X2_47 dX2_putFurther_29 (Nat.le_of_ble_eq_true rfl) (Nat.le_of_ble_eq_true rfl) (Nat.le_of_ble_eq_true rfl) ⟨(Nat.le_of_ble_eq_true rfl), (Nat.le_of_ble_eq_true rfl)⟩ (by first | assumption | decide | (simp only [nv] at *; omega)) rfl rfl (c_X2_sizeOf hf (by omega)) ?_
  refine j_il dX2_putFurther_32 rfl ?_
  refine j_icne (tgt := 41) dX2_putFurther_34 (by decide) (fun h34 => ?_) (fun h34 => ?_)
  · refine j_icN 1 dX2_putFurther_41 rfl ?_
    exact j_iret dX2_putFurther_42 rfl rfl (Nat.le_of_ble_eq_true rfl) (Nat.le_of_ble_eq_true rfl) ⟨by first | rw [if_pos h34] | rw [if_neg h34], rfl⟩
  · refine j_icN 0 dX2_putFurther_37 rfl ?_
    refine j_goto (tgt := 42) dX2_putFurther_38 (by decide) ?_
    exact j_iret dX2_putFurther_42 rfl rfl (Nat.le_of_ble_eq_true rfl) (Nat.le_of_ble_eq_true rfl) ⟨by first | rw [if_pos h34] | rw [if_neg h34], rfl⟩
def app1 (M : Mm) (g cnt : Nat) (c x y z : Int32) : Mm := sI (sI (sI M 25 (upd (mI M 25) g c)) 26 (fun i => if i = g * 6 then x else if i = g * 6 + 1 then y else if i = g * 6 + 2 then z else if g * 6 + 3 ≤ i ∧ i < g * 6 + 6 then nI 1 else mI M 26 i)) 24 (upd (mI M 24) cnt (nI g))
def appM (M : Mm) (g cnt bar : Nat) (c x y z : Int32) : Mm := sI (app1 M g cnt c x y z) 2 (upd (upd (upd (mI M 2) 6 (nI (g + 1))) 7 (nI (if bar = cnt then cnt + 1 else bar))) 5 (nI (cnt + 1)))
set_option maxRecDepth 100000 in
set_option maxHeartbeats 4000000 in
theorem c_X2_append {l : Launch} {E : Ev} {M : Mm} {g cnt bar : Nat} {c x y z : Int32} (hg : mI M 2 6 = nI g) (hcnt : mI M 2 5 = nI cnt) (hbar : mI M 2 7 = nI bar) (hg40 : g < 40) (hc12 : cnt < 12) (hb12 : bar ≤ 12) (hcc : vp_nar .char c = c) : Ct l E yX2_append cX2_append 8 (some .int) 1 0 0 [.ref (eA E 2 0), .int c, .int x, .int y, .int z] M (dv (.int (nI g)) (appM M g cnt bar c x y z)) := by
  refine Ct.of (own := RX2) rfl [some (.ref (eA E 2 0)), some (.int c), some (.int x), some (.int y), some (.int z), none, none, none] (by decide) (Nat.le_of_ble_eq_true rfl) rfl ?_
  have K : ∀ i, i ≤ 6 → 3 ≤ i → Jd l E RX2 cX2_append 8 (some .int) [] (rmm 1 0 0) (QfN E (dv (.int (nI g)) (appM M g cnt bar c x y z)) 0 0) 0 0 53 [some (.ref (eA E 2 0)), some (.int c), some (.int x), some (.int y), some (.int z), some (.int (nI g)), some (.int (nI (g * 6))), some (.int (nI i))] [] (sI (sI M 25 (upd (mI M 25) g c)) 26 (fun j => if j = g * 6 then x else if j = g * 6 + 1 then y else if j = g * 6 + 2 then z else if g * 6 + 3 ≤ j ∧ j < g * 6 + i then nI 1 else mI M 26 j)) := by
    refine up_to 6 _ ?_ (fun i hi ih => ?_)
    · intro h3
      refine j_il dX2_append_53 rfl ?_
      refine j_biN 6 dX2_append_55 rfl ?_
      refine j_icgeN (tgt := 77) dX2_append_57 (by decide) (by omega) (by omega) (fun h57 => ?_) (fun h57 => ?_)
      · refine j_aln dX2_append_77 rfl rfl ?_
        refine g_X2_1 dX2_append_78 fl_X2_18 ?_
        refine j_aln dX2_append_81 rfl rfl ?_
        refine g_X2_5 dX2_append_82 fl_X2_33 ?_
        refine j_topi hcnt ?_
        refine j_il dX2_append_85 rfl ?_
        refine j_aistN dX2_append_87 rfl (fun _ => rfl) rfl (by decide) (by omega) ?_
        refine j_aln dX2_append_88 rfl rfl ?_
        refine j_dup dX2_append_89 rfl ?_
        refine g_X2_6 dX2_append_90 fl_X2_41 ?_
        refine j_topi hg ?_
        refine j_icN 1 dX2_append_93 rfl ?_
        refine j_iaddN dX2_append_94 ?_
        refine p_X2_6 dX2_append_95 fl_X2_41 ?_
        refine j_aln dX2_append_98 rfl rfl ?_
        refine j_aln dX2_append_99 rfl rfl ?_
        refine g_X2_7 dX2_append_100 fl_X2_44 ?_
        refine j_topi hbar ?_
        refine j_aln dX2_append_103 rfl rfl ?_
        refine g_X2_5 dX2_append_104 fl_X2_33 ?_
        refine j_topi hcnt ?_
        refine j_icneN (tgt := 119) dX2_append_107 (by decide) (by omega) (by omega) (fun h107 => ?_) (fun h107 => ?_)
        · refine j_aln dX2_append_119 rfl rfl ?_
          refine g_X2_7 dX2_append_120 fl_X2_44 ?_
          refine j_topi hbar ?_
          refine p_X2_7 dX2_append_123 fl_X2_44 ?_
          refine j_aln dX2_append_126 rfl rfl ?_
          refine j_dup dX2_append_127 rfl ?_
          refine g_X2_5 dX2_append_128 fl_X2_33 ?_
          refine j_topi hcnt ?_
          refine j_icN 1 dX2_append_131 rfl ?_
          refine j_iaddN dX2_append_132 ?_
          refine p_X2_5 dX2_append_133 fl_X2_33 ?_
          refine j_il dX2_append_136 rfl ?_
          exact j_iret dX2_append_138 rfl rfl (Nat.le_of_ble_eq_true rfl) (Nat.le_of_ble_eq_true rfl) ⟨rfl, by unfold appM; (first | rw [if_pos h107] | rw [if_neg h107]); (first | rw [sI_sI, sI_sI] | rw [sI_sI]); rfl⟩
        · refine j_aln dX2_append_110 rfl rfl ?_
          refine g_X2_5 dX2_append_111 fl_X2_33 ?_
          refine j_topi hcnt ?_
          refine j_icN 1 dX2_append_114 rfl ?_
          refine j_iaddN dX2_append_115 ?_
          refine j_goto (tgt := 123) dX2_append_116 (by decide) ?_
          refine p_X2_7 dX2_append_123 fl_X2_44 ?_
          refine j_aln dX2_append_126 rfl rfl ?_
          refine j_dup dX2_append_127 rfl ?_
          refine g_X2_5 dX2_append_128 fl_X2_33 ?_
          refine j_topi hcnt ?_
          refine j_icN 1 dX2_append_131 rfl ?_
          refine j_iaddN dX2_append_132 ?_
          refine p_X2_5 dX2_append_133 fl_X2_33 ?_
          refine j_il dX2_append_136 rfl ?_
          exact j_iret dX2_append_138 rfl rfl (Nat.le_of_ble_eq_true rfl) (Nat.le_of_ble_eq_true rfl) ⟨rfl, by unfold appM; (first | rw [if_pos h107] | rw [if_neg h107]); (first | rw [sI_sI, sI_sI] | rw [sI_sI]); rfl⟩
      · exact absurd (Nat.le_refl 6) h57
    · intro h3
      refine j_il dX2_append_53 rfl ?_
      refine j_biN 6 dX2_append_55 rfl ?_
      refine j_icgeN (tgt := 77) dX2_append_57 (by decide) (by omega) (by omega) (fun h57 => ?_) (fun h57 => ?_)
      · exact absurd h57 (by omega)
      · refine j_aln dX2_append_60 rfl rfl ?_
        refine g_X2_3 dX2_append_61 fl_X2_26 ?_
        refine j_il dX2_append_64 rfl ?_
        refine j_il dX2_append_66 rfl ?_
        refine j_iaddN dX2_append_68 ?_
        refine j_ic (v := 1) dX2_append_69 (by decide) ?_
        refine j_aistN dX2_append_70 rfl (fun _ => rfl) rfl (by decide) (by omega) ?_
        refine j_incN_7 1 dX2_append_71 rfl (by decide) rfl ?_
        refine j_goto (tgt := 53) dX2_append_74 (by decide) ?_
        refine j_mem ?_ (ih (by omega))
        rw [sI_sI]
        congr 1
        funext j
        simp only [upd, mI_sI, if_true]
        by_cases e9 : j = g * 6 + i
        · subst e9
          have e0 : ¬ g * 6 + i = g * 6 := by omega
          have e1 : ¬ g * 6 + i = g * 6 + 1 := by omega
          have e2 : ¬ g * 6 + i = g * 6 + 2 := by omega
          have e3 : g * 6 + 3 ≤ g * 6 + i ∧ g * 6 + i < g * 6 + (i + 1) := by omega
          rw [if_pos rfl, if_neg e0, if_neg e1, if_neg e2, if_pos e3]; rfl
        · have e4 : (g * 6 + 3 ≤ j ∧ j < g * 6 + (i + 1)) ↔ (g * 6 + 3 ≤ j ∧ j < g * 6 + i) := by omega
          simp only [e9, if_false, e4]
  refine j_aln dX2_append_0 rfl rfl ?_
  refine g_X2_6 dX2_append_1 fl_X2_41 ?_
  refine j_topi hg ?_
  refine j_ist_5 dX2_append_4 (by decide) rfl ?_
  refine j_il dX2_append_6 rfl ?_
  refine j_biN 6 dX2_append_8 rfl ?_
  refine j_imulN dX2_append_10 ?_
  refine j_ist_6 dX2_append_11 (by decide) rfl ?_
  refine j_aln dX2_append_13 rfl rfl ?_
  refine g_X2_2 dX2_append_14 fl_X2_22 ?_
  refine j_il dX2_append_17 rfl ?_
  refine j_iln dX2_append_19 rfl rfl ?_
  refine j_acstN dX2_append_20 rfl (fun _ => rfl) rfl (by decide) (by omega) hcc ?_
  refine j_aln dX2_append_21 rfl rfl ?_
  refine g_X2_3 dX2_append_22 fl_X2_26 ?_
  refine j_il dX2_append_25 rfl ?_
  refine j_iln dX2_append_27 rfl rfl ?_
  refine j_aistN dX2_append_28 rfl (fun _ => rfl) rfl (by decide) (by omega) ?_
  refine j_aln dX2_append_29 rfl rfl ?_
  refine g_X2_3 dX2_append_30 fl_X2_26 ?_
  refine j_il dX2_append_33 rfl ?_
  refine j_icN 1 dX2_append_35 rfl ?_
  refine j_iaddN dX2_append_36 ?_
  refine j_iln dX2_append_37 rfl rfl ?_
  refine j_aistN dX2_append_38 rfl (fun _ => rfl) rfl (by decide) (by omega) ?_
  refine j_aln dX2_append_39 rfl rfl ?_
  refine g_X2_3 dX2_append_40 fl_X2_26 ?_
  refine j_il dX2_append_43 rfl ?_
  refine j_icN 2 dX2_append_45 rfl ?_
  refine j_iaddN dX2_append_46 ?_
  refine j_il dX2_append_47 rfl ?_
  refine j_aistN dX2_append_49 rfl (fun _ => rfl) rfl (by decide) (by omega) ?_
  refine j_icN 3 dX2_append_50 rfl ?_
  refine j_ist_7 dX2_append_51 (by decide) rfl ?_
  have K3 := K 3 (by omega) (by omega)
  refine j_mem ?_ K3
  rw [sI_sI, sI_sI]
  congr 1
  funext j
  simp only [upd, mI_sI, if_true, if_neg (show ¬ (26 : Nat) = 25 by decide)]
  by_cases e0 : j = g * 6
  · subst e0; simp
  · by_cases e1 : j = g * 6 + 1
    · subst e1; simp
    · by_cases e2 : j = g * 6 + 2
      · subst e2; simp
      · have e3 : ¬ (g * 6 + 3 ≤ j ∧ j < g * 6 + 3) := by omega
        simp [e0, e1, e2, e3]
