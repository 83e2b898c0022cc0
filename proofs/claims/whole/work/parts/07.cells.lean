/-! the class Cells: reads and sets -/
/-- an answer of a question -/
def bI (b : Bool) : Int32 := if b then 1 else 0
def insd (x y z : Int32) : Bool := decide (¬ x < 0 ∧ ¬ nI 8 ≤ x ∧ ¬ y < 0 ∧ ¬ nI 8 ≤ y ∧ ¬ z < 0 ∧ ¬ nI 8 ≤ z)
/-- a row written up to a place -/
def wsL (f g : Nat → Int64) (i : Nat) : Nat → Int64 := fun z => if z < i then g z else f z
theorem wsL_0 (f g : Nat → Int64) : wsL f g 0 = f := by funext z; simp [wsL]
theorem wsL_at (f g : Nat → Int64) (i : Nat) : wsL f g i i = f i := by simp [wsL]
theorem wsL_s {f g : Nat → Int64} {i : Nat} {v : Int64} (h : v = g i) : vp_updL (wsL f g i) i v = wsL f g (i + 1) := by
  funext z
  subst h
  by_cases h1 : z = i
  · subst h1; simp [vp_updL, wsL]
  · by_cases h2 : z < i
    · simp [vp_updL, wsL, h1, h2, Nat.lt_succ_of_lt h2]
    · have : ¬ z < i + 1 := by omega
      simp [vp_updL, wsL, h1, h2, this]
theorem sim_w {M : Mm} {c N : Nat} (f g : Nat → Int64) (hN : 8 ≤ N) : Sim (sL M c (wsL f g N)) (sL M c g) := sim_L fun z hz => by simp [wsL, Nat.lt_of_lt_of_le hz hN]
set_option maxRecDepth 100000 in
set_option maxHeartbeats 4000000 in
theorem c_X1_isInside {l : Launch} {E : Ev} {M : Mm} {x y z : Int32}  : Ct l E yX1_isInside cX1_isInside 3 (some .boolean) 1 0 0 [.int x, .int y, .int z] M (dv (.int (bI (insd x y z))) M) := by
  refine Ct.of (own := RX1) rfl [some (.int x), some (.int y), some (.int z)] (by decide) (Nat.le_of_ble_eq_true rfl) rfl ?_
  refine j_iln dX1_isInside_0 rfl rfl ?_
  refine j_iflt (tgt := 34) dX1_isInside_1 (by decide) (fun h1 => ?_) (fun h1 => ?_)
  · refine j_icN 0 dX1_isInside_34 rfl ?_
    exact j_iret dX1_isInside_35 rfl (by decide) (Nat.le_of_ble_eq_true rfl) (Nat.le_of_ble_eq_true rfl) ⟨by simp_all [insd, bI, nI], rfl⟩
  · refine j_iln dX1_isInside_4 rfl rfl ?_
    refine j_biN 8 dX1_isInside_5 rfl ?_
    refine j_icge (tgt := 34) dX1_isInside_7 (by decide) (fun h7 => ?_) (fun h7 => ?_)
    · refine j_icN 0 dX1_isInside_34 rfl ?_
      exact j_iret dX1_isInside_35 rfl (by decide) (Nat.le_of_ble_eq_true rfl) (Nat.le_of_ble_eq_true rfl) ⟨by simp_all [insd, bI, nI], rfl⟩
    · refine j_iln dX1_isInside_10 rfl rfl ?_
      refine j_iflt (tgt := 34) dX1_isInside_11 (by decide) (fun h11 => ?_) (fun h11 => ?_)
      · refine j_icN 0 dX1_isInside_34 rfl ?_
        exact j_iret dX1_isInside_35 rfl (by decide) (Nat.le_of_ble_eq_true rfl) (Nat.le_of_ble_eq_true rfl) ⟨by simp_all [insd, bI, nI], rfl⟩
      · refine j_iln dX1_isInside_14 rfl rfl ?_
        refine j_biN 8 dX1_isInside_15 rfl ?_
        refine j_icge (tgt := 34) dX1_isInside_17 (by decide) (fun h17 => ?_) (fun h17 => ?_)
        · refine j_icN 0 dX1_isInside_34 rfl ?_
          exact j_iret dX1_isInside_35 rfl (by decide) (Nat.le_of_ble_eq_true rfl) (Nat.le_of_ble_eq_true rfl) ⟨by simp_all [insd, bI, nI], rfl⟩
        · refine j_iln dX1_isInside_20 rfl rfl ?_
          refine j_iflt (tgt := 34) dX1_isInside_21 (by decide) (fun h21 => ?_) (fun h21 => ?_)
          · refine j_icN 0 dX1_isInside_34 rfl ?_
            exact j_iret dX1_isInside_35 rfl (by decide) (Nat.le_of_ble_eq_true rfl) (Nat.le_of_ble_eq_true rfl) ⟨by simp_all [insd, bI, nI], rfl⟩
          · refine j_iln dX1_isInside_24 rfl rfl ?_
            refine j_biN 8 dX1_isInside_25 rfl ?_
            refine j_icge (tgt := 34) dX1_isInside_27 (by decide) (fun h27 => ?_) (fun h27 => ?_)
            · refine j_icN 0 dX1_isInside_34 rfl ?_
              exact j_iret dX1_isInside_35 rfl (by decide) (Nat.le_of_ble_eq_true rfl) (Nat.le_of_ble_eq_true rfl) ⟨by simp_all [insd, bI, nI], rfl⟩
            · refine j_icN 1 dX1_isInside_30 rfl ?_
              refine j_goto (tgt := 35) dX1_isInside_31 (by decide) ?_
              exact j_iret dX1_isInside_35 rfl (by decide) (Nat.le_of_ble_eq_true rfl) (Nat.le_of_ble_eq_true rfl) ⟨by simp_all [insd, bI, nI], rfl⟩
set_option maxRecDepth 100000 in
set_option maxHeartbeats 4000000 in
theorem c_X1_bitOf {l : Launch} {E : Ev} {M : Mm} {x y : Int32}  : Ct l E yX1_bitOf cX1_bitOf 2 (some .int) 1 0 0 [.int x, .int y] M (dv (.int (y * nI 8 + x)) M) := by
  refine Ct.of (own := RX1) rfl [some (.int x), some (.int y)] (by decide) (Nat.le_of_ble_eq_true rfl) rfl ?_
  refine j_iln dX1_bitOf_0 rfl rfl ?_
  refine j_biN 8 dX1_bitOf_1 rfl ?_
  refine j_imul dX1_bitOf_3 ?_
  refine j_iln dX1_bitOf_4 rfl rfl ?_
  refine j_iadd dX1_bitOf_5 ?_
  exact j_iret dX1_bitOf_6 rfl rfl (Nat.le_of_ble_eq_true rfl) (Nat.le_of_ble_eq_true rfl) ⟨rfl, rfl⟩
set_option maxRecDepth 100000 in
set_option maxHeartbeats 4000000 in
theorem c_X1_clear {l : Launch} {E : Ev} {M : Mm} {c : Nat} (hc : c < nv 7) : Ct l E yX1_clear cX1_clear 2 none 1 0 0 [.ref (eA E 7 c)] M (dn (sL M c (fun z => 0))) := by
  refine Ct.of (own := RX1) rfl [some (.ref (eA E 7 c)), none] (by decide) (Nat.le_of_ble_eq_true rfl) rfl ?_
  have K : ∀ i, i ≤ 8 → Jd l E RX1 cX1_clear 2 none [] (rmm 1 0 0) (QfN E (dn (sL M c (fun z => 0))) 0 0) 0 0 2 [some (.ref (eA E 7 c)), some (.int (nI i))] [] (sL M c (wsL (mL M c) (fun z => 0) i)) := by
    refine up_to 8 _ ?_ (fun i hi ih => ?_)
    · refine j_iln dX1_clear_2 rfl rfl ?_
      refine j_biN 8 dX1_clear_3 rfl ?_
      refine j_icgeN (tgt := 21) dX1_clear_5 (by decide) (by omega) (by omega) (fun h5 => ?_) (fun h5 => ?_)
      · refine j_sim (sim_w _ _ (Nat.le_refl 8)) ?_
        exact j_vret dX1_clear_21 rfl (Nat.le_of_ble_eq_true rfl) (Nat.le_of_ble_eq_true rfl) ⟨rfl, rfl⟩
      · exact absurd (Nat.le_refl 8) h5
    · refine j_iln dX1_clear_2 rfl rfl ?_
      refine j_biN 8 dX1_clear_3 rfl ?_
      refine j_icgeN (tgt := 21) dX1_clear_5 (by decide) (by omega) (by omega) (fun h5 => ?_) (fun h5 => ?_)
      · exact absurd h5 (by omega)
      · refine j_aln dX1_clear_8 rfl rfl ?_
        refine g_X1_0 dX1_clear_9 fl_X1_9 (by first | assumption | decide | (simp only [nv] at *; omega)) ?_
        refine j_iln dX1_clear_12 rfl rfl ?_
        refine j_lc (v := 0) dX1_clear_13 (by decide) ?_
        refine j_astLN dX1_clear_14 (by first | assumption | decide | (simp only [nv] at *; omega)) (by omega) ?_
        refine j_incN_1 1 dX1_clear_15 rfl (by decide) rfl ?_
        refine j_goto (tgt := 2) dX1_clear_18 (by decide) ?_
        refine j_mem ?_ ih
        rw [sL_sL, mL_sL, if_pos rfl, wsL_s]
        try simp only [mL_sL, if_pos, if_neg, wsL_at, hne, ne_eq, not_false_eq_true]
  refine j_icN 0 dX1_clear_0 rfl ?_
  refine j_ist_1 dX1_clear_1 (by decide) rfl ?_
  have K0 := K 0 (by omega)
  rw [wsL_0, sL_id] at K0
  exact K0
set_option maxRecDepth 100000 in
set_option maxHeartbeats 4000000 in
theorem c_X1_addAll {l : Launch} {E : Ev} {M : Mm} {c q : Nat} (hc : c < nv 7) (ho : q < nv 7) (hne : ¬ q = c) : Ct l E yX1_addAll cX1_addAll 3 none 1 0 0 [.ref (eA E 7 c), .ref (eA E 7 q)] M (dn (sL M c (fun z => mL M c z ||| mL M q z))) := by
  refine Ct.of (own := RX1) rfl [some (.ref (eA E 7 c)), some (.ref (eA E 7 q)), none] (by decide) (Nat.le_of_ble_eq_true rfl) rfl ?_
  have K : ∀ i, i ≤ 8 → Jd l E RX1 cX1_addAll 3 none [] (rmm 1 0 0) (QfN E (dn (sL M c (fun z => mL M c z ||| mL M q z))) 0 0) 0 0 2 [some (.ref (eA E 7 c)), some (.ref (eA E 7 q)), some (.int (nI i))] [] (sL M c (wsL (mL M c) (fun z => mL M c z ||| mL M q z) i)) := by
    refine up_to 8 _ ?_ (fun i hi ih => ?_)
    · refine j_iln dX1_addAll_2 rfl rfl ?_
      refine j_biN 8 dX1_addAll_3 rfl ?_
      refine j_icgeN (tgt := 29) dX1_addAll_5 (by decide) (by omega) (by omega) (fun h5 => ?_) (fun h5 => ?_)
      · refine j_sim (sim_w _ _ (Nat.le_refl 8)) ?_
        exact j_vret dX1_addAll_29 rfl (Nat.le_of_ble_eq_true rfl) (Nat.le_of_ble_eq_true rfl) ⟨rfl, rfl⟩
      · exact absurd (Nat.le_refl 8) h5
    · refine j_iln dX1_addAll_2 rfl rfl ?_
      refine j_biN 8 dX1_addAll_3 rfl ?_
      refine j_icgeN (tgt := 29) dX1_addAll_5 (by decide) (by omega) (by omega) (fun h5 => ?_) (fun h5 => ?_)
      · exact absurd h5 (by omega)
      · refine j_aln dX1_addAll_8 rfl rfl ?_
        refine g_X1_0 dX1_addAll_9 fl_X1_9 (by first | assumption | decide | (simp only [nv] at *; omega)) ?_
        refine j_iln dX1_addAll_12 rfl rfl ?_
        refine j_dup2 dX1_addAll_13 rfl rfl ?_
        refine j_aldLN dX1_addAll_14 (by first | assumption | decide | (simp only [nv] at *; omega)) (by omega) ?_
        refine j_aln dX1_addAll_15 rfl rfl ?_
        refine g_X1_0 dX1_addAll_16 fl_X1_9 (by first | assumption | decide | (simp only [nv] at *; omega)) ?_
        refine j_iln dX1_addAll_19 rfl rfl ?_
        refine j_aldLN dX1_addAll_20 (by first | assumption | decide | (simp only [nv] at *; omega)) (by omega) ?_
        refine j_lor dX1_addAll_21 ?_
        refine j_astLN dX1_addAll_22 (by first | assumption | decide | (simp only [nv] at *; omega)) (by omega) ?_
        refine j_incN_2 1 dX1_addAll_23 rfl (by decide) rfl ?_
        refine j_goto (tgt := 2) dX1_addAll_26 (by decide) ?_
        refine j_mem ?_ ih
        rw [sL_sL, mL_sL, if_pos rfl, wsL_s]
        try simp only [mL_sL, if_pos, if_neg, wsL_at, hne, ne_eq, not_false_eq_true]
  refine j_icN 0 dX1_addAll_0 rfl ?_
  refine j_ist_2 dX1_addAll_1 (by decide) rfl ?_
  have K0 := K 0 (by omega)
  rw [wsL_0, sL_id] at K0
  exact K0
set_option maxRecDepth 100000 in
set_option maxHeartbeats 4000000 in
theorem c_X1_takeOutAll {l : Launch} {E : Ev} {M : Mm} {c q : Nat} (hc : c < nv 7) (ho : q < nv 7) (hne : ¬ q = c) : Ct l E yX1_takeOutAll cX1_takeOutAll 3 none 1 0 0 [.ref (eA E 7 c), .ref (eA E 7 q)] M (dn (sL M c (fun z => mL M c z &&& (mL M q z ^^^ -1)))) := by
  refine Ct.of (own := RX1) rfl [some (.ref (eA E 7 c)), some (.ref (eA E 7 q)), none] (by decide) (Nat.le_of_ble_eq_true rfl) rfl ?_
  have K : ∀ i, i ≤ 8 → Jd l E RX1 cX1_takeOutAll 3 none [] (rmm 1 0 0) (QfN E (dn (sL M c (fun z => mL M c z &&& (mL M q z ^^^ -1)))) 0 0) 0 0 2 [some (.ref (eA E 7 c)), some (.ref (eA E 7 q)), some (.int (nI i))] [] (sL M c (wsL (mL M c) (fun z => mL M c z &&& (mL M q z ^^^ -1)) i)) := by
    refine up_to 8 _ ?_ (fun i hi ih => ?_)
    · refine j_iln dX1_takeOutAll_2 rfl rfl ?_
      refine j_biN 8 dX1_takeOutAll_3 rfl ?_
      refine j_icgeN (tgt := 33) dX1_takeOutAll_5 (by decide) (by omega) (by omega) (fun h5 => ?_) (fun h5 => ?_)
      · refine j_sim (sim_w _ _ (Nat.le_refl 8)) ?_
        exact j_vret dX1_takeOutAll_33 rfl (Nat.le_of_ble_eq_true rfl) (Nat.le_of_ble_eq_true rfl) ⟨rfl, rfl⟩
      · exact absurd (Nat.le_refl 8) h5
    · refine j_iln dX1_takeOutAll_2 rfl rfl ?_
      refine j_biN 8 dX1_takeOutAll_3 rfl ?_
      refine j_icgeN (tgt := 33) dX1_takeOutAll_5 (by decide) (by omega) (by omega) (fun h5 => ?_) (fun h5 => ?_)
      · exact absurd h5 (by omega)
      · refine j_aln dX1_takeOutAll_8 rfl rfl ?_
        refine g_X1_0 dX1_takeOutAll_9 fl_X1_9 (by first | assumption | decide | (simp only [nv] at *; omega)) ?_
        refine j_iln dX1_takeOutAll_12 rfl rfl ?_
        refine j_dup2 dX1_takeOutAll_13 rfl rfl ?_
        refine j_aldLN dX1_takeOutAll_14 (by first | assumption | decide | (simp only [nv] at *; omega)) (by omega) ?_
        refine j_aln dX1_takeOutAll_15 rfl rfl ?_
        refine g_X1_0 dX1_takeOutAll_16 fl_X1_9 (by first | assumption | decide | (simp only [nv] at *; omega)) ?_
        refine j_iln dX1_takeOutAll_19 rfl rfl ?_
        refine j_aldLN dX1_takeOutAll_20 (by first | assumption | decide | (simp only [nv] at *; omega)) (by omega) ?_
        refine j_ldc2 dX1_takeOutAll_21 cn_X1_31 ?_
        refine j_lxor dX1_takeOutAll_24 ?_
        refine j_land dX1_takeOutAll_25 ?_
        refine j_astLN dX1_takeOutAll_26 (by first | assumption | decide | (simp only [nv] at *; omega)) (by omega) ?_
        refine j_incN_2 1 dX1_takeOutAll_27 rfl (by decide) rfl ?_
        refine j_goto (tgt := 2) dX1_takeOutAll_30 (by decide) ?_
        refine j_mem ?_ ih
        rw [sL_sL, mL_sL, if_pos rfl, wsL_s]
        try simp only [mL_sL, if_pos, if_neg, wsL_at, hne, ne_eq, not_false_eq_true]
  refine j_icN 0 dX1_takeOutAll_0 rfl ?_
  refine j_ist_2 dX1_takeOutAll_1 (by decide) rfl ?_
  have K0 := K 0 (by omega)
  rw [wsL_0, sL_id] at K0
  exact K0
set_option maxRecDepth 100000 in
set_option maxHeartbeats 4000000 in
theorem c_X1_keepOnly {l : Launch} {E : Ev} {M : Mm} {c q : Nat} (hc : c < nv 7) (ho : q < nv 7) (hne : ¬ q = c) : Ct l E yX1_keepOnly cX1_keepOnly 3 none 1 0 0 [.ref (eA E 7 c), .ref (eA E 7 q)] M (dn (sL M c (fun z => mL M c z &&& mL M q z))) := by
  refine Ct.of (own := RX1) rfl [some (.ref (eA E 7 c)), some (.ref (eA E 7 q)), none] (by decide) (Nat.le_of_ble_eq_true rfl) rfl ?_
  have K : ∀ i, i ≤ 8 → Jd l E RX1 cX1_keepOnly 3 none [] (rmm 1 0 0) (QfN E (dn (sL M c (fun z => mL M c z &&& mL M q z))) 0 0) 0 0 2 [some (.ref (eA E 7 c)), some (.ref (eA E 7 q)), some (.int (nI i))] [] (sL M c (wsL (mL M c) (fun z => mL M c z &&& mL M q z) i)) := by
    refine up_to 8 _ ?_ (fun i hi ih => ?_)
    · refine j_iln dX1_keepOnly_2 rfl rfl ?_
      refine j_biN 8 dX1_keepOnly_3 rfl ?_
      refine j_icgeN (tgt := 29) dX1_keepOnly_5 (by decide) (by omega) (by omega) (fun h5 => ?_) (fun h5 => ?_)
      · refine j_sim (sim_w _ _ (Nat.le_refl 8)) ?_
        exact j_vret dX1_keepOnly_29 rfl (Nat.le_of_ble_eq_true rfl) (Nat.le_of_ble_eq_true rfl) ⟨rfl, rfl⟩
      · exact absurd (Nat.le_refl 8) h5
    · refine j_iln dX1_keepOnly_2 rfl rfl ?_
      refine j_biN 8 dX1_keepOnly_3 rfl ?_
      refine j_icgeN (tgt := 29) dX1_keepOnly_5 (by decide) (by omega) (by omega) (fun h5 => ?_) (fun h5 => ?_)
      · exact absurd h5 (by omega)
      · refine j_aln dX1_keepOnly_8 rfl rfl ?_
        refine g_X1_0 dX1_keepOnly_9 fl_X1_9 (by first | assumption | decide | (simp only [nv] at *; omega)) ?_
        refine j_iln dX1_keepOnly_12 rfl rfl ?_
        refine j_dup2 dX1_keepOnly_13 rfl rfl ?_
        refine j_aldLN dX1_keepOnly_14 (by first | assumption | decide | (simp only [nv] at *; omega)) (by omega) ?_
        refine j_aln dX1_keepOnly_15 rfl rfl ?_
        refine g_X1_0 dX1_keepOnly_16 fl_X1_9 (by first | assumption | decide | (simp only [nv] at *; omega)) ?_
        refine j_iln dX1_keepOnly_19 rfl rfl ?_
        refine j_aldLN dX1_keepOnly_20 (by first | assumption | decide | (simp only [nv] at *; omega)) (by omega) ?_
        refine j_land dX1_keepOnly_21 ?_
        refine j_astLN dX1_keepOnly_22 (by first | assumption | decide | (simp only [nv] at *; omega)) (by omega) ?_
        refine j_incN_2 1 dX1_keepOnly_23 rfl (by decide) rfl ?_
        refine j_goto (tgt := 2) dX1_keepOnly_26 (by decide) ?_
        refine j_mem ?_ ih
        rw [sL_sL, mL_sL, if_pos rfl, wsL_s]
        try simp only [mL_sL, if_pos, if_neg, wsL_at, hne, ne_eq, not_false_eq_true]
  refine j_icN 0 dX1_keepOnly_0 rfl ?_
  refine j_ist_2 dX1_keepOnly_1 (by decide) rfl ?_
  have K0 := K 0 (by omega)
  rw [wsL_0, sL_id] at K0
  exact K0
set_option maxRecDepth 100000 in
set_option maxHeartbeats 4000000 in
theorem c_X1_copyFrom {l : Launch} {E : Ev} {M : Mm} {c q : Nat} (hc : c < nv 7) (ho : q < nv 7) : Ct l E yX1_copyFrom cX1_copyFrom 2 none 1 0 0 [.ref (eA E 7 c), .ref (eA E 7 q)] M (dn (sL M c (mL M q))) := by
  refine Ct.of (own := RX1) rfl [some (.ref (eA E 7 c)), some (.ref (eA E 7 q))] (by decide) (Nat.le_of_ble_eq_true rfl) rfl ?_
  refine j_aln dX1_copyFrom_0 rfl rfl ?_
  refine g_X1_0 dX1_copyFrom_1 fl_X1_9 (by first | assumption | decide | (simp only [nv] at *; omega)) ?_
  refine j_ic (v := 0) dX1_copyFrom_4 (by decide) ?_
  refine j_aln dX1_copyFrom_5 rfl rfl ?_
  refine g_X1_0 dX1_copyFrom_6 fl_X1_9 (by first | assumption | decide | (simp only [nv] at *; omega)) ?_
  refine j_ic (v := 0) dX1_copyFrom_9 (by decide) ?_
  refine j_bi (v := 8) dX1_copyFrom_10 (by decide) ?_
  refine j_cpyL dX1_copyFrom_12 ml_X1_25 ac_native ac_static ac_init (by assumption) (by assumption) (by decide) (Nat.le_of_ble_eq_true rfl) (by decide +kernel) ?_
  refine j_sim (sim_L (g := mL M q) (fun z hz => ?_)) ?_
  · simp [va_cpy, hz]
  exact j_vret dX1_copyFrom_15 rfl (Nat.le_of_ble_eq_true rfl) (Nat.le_of_ble_eq_true rfl) ⟨rfl, rfl⟩
