/-! the class Cells: reads and sets -/
/-- an answer of a question -/
def bI (b : Bool) : Int32 := if b then 1 else 0
def insd (x y z : Int32) : Bool := decide (¬ x < 0 ∧ ¬ nI 8 ≤ x ∧ ¬ y < 0 ∧ ¬ nI 8 ≤ y ∧ ¬ z < 0 ∧ ¬ nI 8 ≤ z)
/-- a row written up to a place -/
def wsL (f g : Nat → Int64) (i : Nat) : Nat → Int64 := fun z => if z < i then g z else f z
theorem wsL_0 (f g : Nat → Int64) : wsL f g 0 = f := by funext z; simp [wsL]
theorem wsL_at (f g : Nat → Int64) (i : Nat) : wsL f g i i = f i := by simp [wsL]
theorem wsL_s {f g : Nat → Int64} {i : Nat} {v : Int64} (h : v = g i) : vp_updL (wsL f g i) i v = wsL f g (i + 1) := by
  funext z
  subst h
  by_cases h1 : z = i
  · subst h1; simp [vp_updL, wsL]
  · by_cases h2 : z < i
    · simp [vp_updL, wsL, h1, h2, Nat.lt_succ_of_lt h2]
    · have : ¬ z < i + 1 := by omega
      simp [vp_updL, wsL, h1, h2, this]
theorem sim_w {M : Mm} {c N : Nat} (f g : Nat → Int64) (hN : 8 ≤ N) : Sim (sL M c (wsL f g N)) (sL M c g) := sim_L fun z hz => by simp [wsL, Nat.lt_of_lt_of_le hz hN]
set_option maxRecDepth 100000 in
set_option maxHeartbeats 4000000 in
theorem c_X1_isInside {l : Launch} {E : Ev} {M : Mm} {x y z : Int32}  : Ct l E yX1_isInside cX1_isInside 3 (some .boolean) 1 0 0 [.int x, .int y, .int z] M (dv (.int (bI (insd x y z))) M) := by
  refine Ct.of (own := RX1) rfl [some (.int x), some (.int y), some (.int z)] (by decide) (Nat.le_of_ble_eq_true rfl) rfl ?_
  refine j_iln dX1_isInside_0 rfl rfl ?_
  refine j_iflt (tgt := 34) dX1_isInside_1 (by decide) (fun h1 => ?_) (fun h1 => ?_)
  · refine j_icN 0 dX1_isInside_34 rfl ?_
    exact j_iret dX1_isInside_35 rfl (by decide) (Nat.le_of_ble_eq_true rfl) (Nat.le_of_ble_eq_true rfl) ⟨by simp_all [insd, bI, nI], rfl⟩
  · refine j_iln dX1_isInside_4 rfl rfl ?_
    refine j_biN 8 dX1_isInside_5 rfl ?_
    refine j_icge (tgt := 34) dX1_isInside_7 (by decide) (fun h7 => ?_) (fun h7 => ?_)
    · refine j_icN 0 dX1_isInside_34 rfl ?_
      exact j_iret dX1_isInside_35 rfl (by decide) (Nat.le_of_ble_eq_true rfl) (Nat.le_of_ble_eq_true rfl) ⟨by simp_all [insd, bI, nI], rfl⟩
    · refine j_iln dX1_isInside_10 rfl rfl ?_
      refine j_iflt (tgt := 34) dX1_isInside_11 (by decide) (fun h11 => ?_) (fun h11 => ?_)
      · refine j_icN 0 dX1_isInside_34 rfl ?_
        exact j_iret dX1_isInside_35 rfl (by decide) (Nat.le_of_ble_eq_true rfl) (Nat.le_of_ble_eq_true rfl) ⟨by simp_all [insd, bI, nI], rfl⟩
      · refine j_iln dX1_isInside_14 rfl rfl ?_
        refine j_biN 8 dX1_isInside_15 rfl ?_
        refine j_icge (tgt := 34) dX1_isInside_17 (by decide) (fun h17 => ?_) (fun h17 => ?_)
        · refine j_icN 0 dX1_isInside_34 rfl ?_
          exact j_iret dX1_isInside_35 rfl (by decide) (Nat.le_of_ble_eq_true rfl) (Nat.le_of_ble_eq_true rfl) ⟨by simp_all [insd, bI, nI], rfl⟩
        · refine j_iln dX1_isInside_20 rfl rfl ?_
          refine j_iflt (tgt := 34) dX1_isInside_21 (by decide) (fun h21 => ?_) (fun h21 => ?_)
          · refine j_icN 0 dX1_isInside_34 rfl ?_
            exact j_iret dX1_isInside_35 rfl (by decide) (Nat.le_of_ble_eq_true rfl) (Nat.le_of_ble_eq_true rfl) ⟨by simp_all [insd, bI, nI], rfl⟩
          · refine j_iln dX1_isInside_24 rfl rfl ?_
            refine j_biN 8 dX1_isInside_25 rfl ?_
            refine j_icge (tgt := 34) dX1_isInside_27 (by decide) (fun h27 => ?_) (fun h27 => ?_)
            · refine j_icN 0 dX1_isInside_34 rfl ?_
              exact j_iret dX1_isInside_35 rfl (by decide) (Nat.le_of_ble_eq_true rfl) (Nat.le_of_ble_eq_true rfl) ⟨by simp_all [insd, bI, nI], rfl⟩
            · refine j_icN 1 dX1_isInside_30 rfl ?_
              refine j_goto (tgt := 35) dX1_isInside_31 (by decide) ?_
              exact j_iret dX1_isInside_35 rfl (by decide) (Nat.le_of_ble_eq_true rfl) (Nat.le_of_ble_eq_true rfl) ⟨by simp_all [insd, bI, nI], rfl⟩
set_option maxRecDepth 100000 in
set_option maxHeartbeats 4000000 in
theorem c_X1_bitOf {l : Launch} {E : Ev} {M : Mm} {x y : Int32}  : Ct l E yX1_bitOf cX1_bitOf 2 (some .int) 1 0 0 [.int x, .int y] M (dv (.int (y * nI 8 + x)) M) := by
  refine Ct.of (own := RX1) rfl [some (.int x), some (.int y)] (by decide) (Nat.le_of_ble_eq_true rfl) rfl ?_
  refine j_iln dX1_bitOf_0 rfl rfl ?_
  refine j_biN 8 dX1_bitOf_1 rfl ?_
  refine j_imul dX1_bitOf_3 ?_
  refine j_iln dX1_bitOf_4 rfl rfl ?_
  refine j_iadd dX1_bitOf_5 ?_
  exact j_iret dX1_bitOf_6 rfl rfl (Nat.le_of_ble_eq_true rfl) (Nat.le_of_ble_eq_true rfl) ⟨rfl, rfl⟩
set_option maxRecDepth 100000 in
set_option maxHeartbeats 4000000 in
theorem c_X1_clear {l : Launch} {E : Ev} {M : Mm} {c : Nat} (hc : c < nv 7) : Ct l E yX1_clear cX1_clear 2 none 1 0 0 [.ref (eA E 7 c)] M (dn (sL M c (fun z => 0))) := by
  refine Ct.of (own := RX1) rfl [some (.ref (eA E 7 c)), none] (by decide) (Nat.le_of_ble_eq_true rfl) rfl ?_
  have K : ∀ i, i ≤ 8 → Jd l E RX1 cX1_clear 2 none [] (rmm 1 0 0) (QfN E (dn (sL M c (fun z => 0))) 0 0) 0 0 2 [some (.ref (eA E 7 c)), some (.int (nI i))] [] (sL M c (wsL (mL M c) (fun z => 0) i)) := by
    refine up_to 8 _ ?_ (fun i hi ih => ?_)
    · refine j_iln dX1_clear_2 rfl rfl ?_
      refine j_biN 8 dX1_clear_3 rfl ?_
      refine j_icgeN (tgt := 21) dX1_clear_5 (by decide) (by omega) (by omega) (fun h5 => ?_) (fun h5 => ?_)
      · refine j_sim (sim_w _ _ (Nat.le_refl 8)) ?_
        exact j_vret dX1_clear_21 rfl (Nat.le_of_ble_eq_true rfl) (Nat.le_of_ble_eq_true rfl) ⟨rfl, rfl⟩
      · exact absurd (Nat.le_refl 8) h5
    · refine j_iln dX1_clear_2 rfl rfl ?_
      refine j_biN 8 dX1_clear_3 rfl ?_
      refine j_icgeN (tgt := 21) dX1_clear_5 (by decide) (by omega) (by omega) (fun h5 => ?_) (fun h5 => ?_)
      · exact absurd h5 (by omega)
      · refine j_aln dX1_clear_8 rfl rfl ?_
        refine g_X1_0 dX1_clear_9 fl_X1_9 (by first | assumption | decide | (simp only [nv] at *; omega)) ?_
        refine j_iln dX1_clear_12 rfl rfl ?_
        refine j_lc (v := 0) dX1_clear_13 (by decide) ?_
        refine j_astLN dX1_clear_14 (by first | assumption | decide | (simp only [nv] at *; omega)) (by omega) ?_
        refine j_incN_1 1 dX1_clear_15 rfl (by decide) rfl ?_
        refine j_goto (tgt := 2) dX1_clear_18 (by decide) ?_
        refine j_mem ?_ ih
        rw [sL_sL, mL_sL, if_pos rfl, wsL_s]
        try simp only [mL_sL, if_pos, if_neg, wsL_at, hne, ne_eq, not_false_eq_true]
        try rfl
  refine j_icN 0 dX1_clear_0 rfl ?_
  refine j_ist_1 dX1_clear_1 (by decide) rfl ?_
  have K0 := K 0 (by omega)
  rw [wsL_0, sL_id] at K0
  exact K0
set_option maxRecDepth 100000 in
set_option maxHeartbeats 4000000 in
theorem c_X1_addAll {l : Launch} {E : Ev} {M : Mm} {c q : Nat} (hc : c < nv 7) (ho : q < nv 7) (hne : ¬ q = c) : Ct l E yX1_addAll cX1_addAll 3 none 1 0 0 [.ref (eA E 7 c), .ref (eA E 7 q)] M (dn (sL M c (fun z => mL M c z ||| mL M q z))) := by
  refine Ct.of (own := RX1) rfl [some (.ref (eA E 7 c)), some (.ref (eA E 7 q)), none] (by decide) (Nat.le_of_ble_eq_true rfl) rfl ?_
  have K : ∀ i, i ≤ 8 → Jd l E RX1 cX1_addAll 3 none [] (rmm 1 0 0) (QfN E (dn (sL M c (fun z => mL M c z ||| mL M q z))) 0 0) 0 0 2 [some (.ref (eA E 7 c)), some (.ref (eA E 7 q)), some (.int (nI i))] [] (sL M c (wsL (mL M c) (fun z => mL M c z ||| mL M q z) i)) := by
    refine up_to 8 _ ?_ (fun i hi ih => ?_)
    · refine j_iln dX1_addAll_2 rfl rfl ?_
      refine j_biN 8 dX1_addAll_3 rfl ?_
      refine j_icgeN (tgt := 29) dX1_addAll_5 (by decide) (by omega) (by omega) (fun h5 => ?_) (fun h5 => ?_)
      · refine j_sim (sim_w _ _ (Nat.le_refl 8)) ?_
        exact j_vret dX1_addAll_29 rfl (Nat.le_of_ble_eq_true rfl) (Nat.le_of_ble_eq_true rfl) ⟨rfl, rfl⟩
      · exact absurd (Nat.le_refl 8) h5
    · refine j_iln dX1_addAll_2 rfl rfl ?_
      refine j_biN 8 dX1_addAll_3 rfl ?_
      refine j_icgeN (tgt := 29) dX1_addAll_5 (by decide) (by omega) (by omega) (fun h5 => ?_) (fun h5 => ?_)
      · exact absurd h5 (by omega)
      · refine j_aln dX1_addAll_8 rfl rfl ?_
        refine g_X1_0 dX1_addAll_9 fl_X1_9 (by first | assumption | decide | (simp only [nv] at *; omega)) ?_
        refine j_iln dX1_addAll_12 rfl rfl ?_
        refine j_dup2 dX1_addAll_13 rfl rfl ?_
        refine j_aldLN dX1_addAll_14 (by first | assumption | decide | (simp only [nv] at *; omega)) (by omega) ?_
        refine j_aln dX1_addAll_15 rfl rfl ?_
        refine g_X1_0 dX1_addAll_16 fl_X1_9 (by first | assumption | decide | (simp only [nv] at *; omega)) ?_
        refine j_iln dX1_addAll_19 rfl rfl ?_
        refine j_aldLN dX1_addAll_20 (by first | assumption | decide | (simp only [nv] at *; omega)) (by omega) ?_
        refine j_lor dX1_addAll_21 ?_
        refine j_astLN dX1_addAll_22 (by first | assumption | decide | (simp only [nv] at *; omega)) (by omega) ?_
        refine j_incN_2 1 dX1_addAll_23 rfl (by decide) rfl ?_
        refine j_goto (tgt := 2) dX1_addAll_26 (by decide) ?_
        refine j_mem ?_ ih
        rw [sL_sL, mL_sL, if_pos rfl, wsL_s]
        try simp only [mL_sL, if_pos, if_neg, wsL_at, hne, ne_eq, not_false_eq_true]
        try rfl
  refine j_icN 0 dX1_addAll_0 rfl ?_
  refine j_ist_2 dX1_addAll_1 (by decide) rfl ?_
  have K0 := K 0 (by omega)
  rw [wsL_0, sL_id] at K0
  exact K0
set_option maxRecDepth 100000 in
set_option maxHeartbeats 4000000 in
theorem c_X1_takeOutAll {l : Launch} {E : Ev} {M : Mm} {c q : Nat} (hc : c < nv 7) (ho : q < nv 7) (hne : ¬ q = c) : Ct l E yX1_takeOutAll cX1_takeOutAll 3 none 1 0 0 [.ref (eA E 7 c), .ref (eA E 7 q)] M (dn (sL M c (fun z => mL M c z &&& (mL M q z ^^^ -1)))) := by
  refine Ct.of (own := RX1) rfl [some (.ref (eA E 7 c)), some (.ref (eA E 7 q)), none] (by decide) (Nat.le_of_ble_eq_true rfl) rfl ?_
  have K : ∀ i, i ≤ 8 → Jd l E RX1 cX1_takeOutAll 3 none [] (rmm 1 0 0) (QfN E (dn (sL M c (fun z => mL M c z &&& (mL M q z ^^^ -1)))) 0 0) 0 0 2 [some (.ref (eA E 7 c)), some (.ref (eA E 7 q)), some (.int (nI i))] [] (sL M c (wsL (mL M c) (fun z => mL M c z &&& (mL M q z ^^^ -1)) i)) := by
    refine up_to 8 _ ?_ (fun i hi ih => ?_)
    · refine j_iln dX1_takeOutAll_2 rfl rfl ?_
      refine j_biN 8 dX1_takeOutAll_3 rfl ?_
      refine j_icgeN (tgt := 33) dX1_takeOutAll_5 (by decide) (by omega) (by omega) (fun h5 => ?_) (fun h5 => ?_)
      · refine j_sim (sim_w _ _ (Nat.le_refl 8)) ?_
        exact j_vret dX1_takeOutAll_33 rfl (Nat.le_of_ble_eq_true rfl) (Nat.le_of_ble_eq_true rfl) ⟨rfl, rfl⟩
      · exact absurd (Nat.le_refl 8) h5
    · refine j_iln dX1_takeOutAll_2 rfl rfl ?_
      refine j_biN 8 dX1_takeOutAll_3 rfl ?_
      refine j_icgeN (tgt := 33) dX1_takeOutAll_5 (by decide) (by omega) (by omega) (fun h5 => ?_) (fun h5 => ?_)
      · exact absurd h5 (by omega)
      · refine j_aln dX1_takeOutAll_8 rfl rfl ?_
        refine g_X1_0 dX1_takeOutAll_9 fl_X1_9 (by first | assumption | decide | (simp only [nv] at *; omega)) ?_
        refine j_iln dX1_takeOutAll_12 rfl rfl ?_
        refine j_dup2 dX1_takeOutAll_13 rfl rfl ?_
        refine j_aldLN dX1_takeOutAll_14 (by first | assumption | decide | (simp only [nv] at *; omega)) (by omega) ?_
        refine j_aln dX1_takeOutAll_15 rfl rfl ?_
        refine g_X1_0 dX1_takeOutAll_16 fl_X1_9 (by first | assumption | decide | (simp only [nv] at *; omega)) ?_
        refine j_iln dX1_takeOutAll_19 rfl rfl ?_
        refine j_aldLN dX1_takeOutAll_20 (by first | assumption | decide | (simp only [nv] at *; omega)) (by omega) ?_
        refine j_ldc2 dX1_takeOutAll_21 cn_X1_31 ?_
        refine j_lxor dX1_takeOutAll_24 ?_
        refine j_land dX1_takeOutAll_25 ?_
        refine j_astLN dX1_takeOutAll_26 (by first | assumption | decide | (simp only [nv] at *; omega)) (by omega) ?_
        refine j_incN_2 1 dX1_takeOutAll_27 rfl (by decide) rfl ?_
        refine j_goto (tgt := 2) dX1_takeOutAll_30 (by decide) ?_
        refine j_mem ?_ ih
        rw [sL_sL, mL_sL, if_pos rfl, wsL_s]
        try simp only [mL_sL, if_pos, if_neg, wsL_at, hne, ne_eq, not_false_eq_true]
        try rfl
  refine j_icN 0 dX1_takeOutAll_0 rfl ?_
  refine j_ist_2 dX1_takeOutAll_1 (by decide) rfl ?_
  have K0 := K 0 (by omega)
  rw [wsL_0, sL_id] at K0
  exact K0
set_option maxRecDepth 100000 in
set_option maxHeartbeats 4000000 in
theorem c_X1_keepOnly {l : Launch} {E : Ev} {M : Mm} {c q : Nat} (hc : c < nv 7) (ho : q < nv 7) (hne : ¬ q = c) : Ct l E yX1_keepOnly cX1_keepOnly 3 none 1 0 0 [.ref (eA E 7 c), .ref (eA E 7 q)] M (dn (sL M c (fun z => mL M c z &&& mL M q z))) := by
  refine Ct.of (own := RX1) rfl [some (.ref (eA E 7 c)), some (.ref (eA E 7 q)), none] (by decide) (Nat.le_of_ble_eq_true rfl) rfl ?_
  have K : ∀ i, i ≤ 8 → Jd l E RX1 cX1_keepOnly 3 none [] (rmm 1 0 0) (QfN E (dn (sL M c (fun z => mL M c z &&& mL M q z))) 0 0) 0 0 2 [some (.ref (eA E 7 c)), some (.ref (eA E 7 q)), some (.int (nI i))] [] (sL M c (wsL (mL M c) (fun z => mL M c z &&& mL M q z) i)) := by
    refine up_to 8 _ ?_ (fun i hi ih => ?_)
    · refine j_iln dX1_keepOnly_2 rfl rfl ?_
      refine j_biN 8 dX1_keepOnly_3 rfl ?_
      refine j_icgeN (tgt := 29) dX1_keepOnly_5 (by decide) (by omega) (by omega) (fun h5 => ?_) (fun h5 => ?_)
      · refine j_sim (sim_w _ _ (Nat.le_refl 8)) ?_
        exact j_vret dX1_keepOnly_29 rfl (Nat.le_of_ble_eq_true rfl) (Nat.le_of_ble_eq_true rfl) ⟨rfl, rfl⟩
      · exact absurd (Nat.le_refl 8) h5
    · refine j_iln dX1_keepOnly_2 rfl rfl ?_
      refine j_biN 8 dX1_keepOnly_3 rfl ?_
      refine j_icgeN (tgt := 29) dX1_keepOnly_5 (by decide) (by omega) (by omega) (fun h5 => ?_) (fun h5 => ?_)
      · exact absurd h5 (by omega)
      · refine j_aln dX1_keepOnly_8 rfl rfl ?_
        refine g_X1_0 dX1_keepOnly_9 fl_X1_9 (by first | assumption | decide | (simp only [nv] at *; omega)) ?_
        refine j_iln dX1_keepOnly_12 rfl rfl ?_
        refine j_dup2 dX1_keepOnly_13 rfl rfl ?_
        refine j_aldLN dX1_keepOnly_14 (by first | assumption | decide | (simp only [nv] at *; omega)) (by omega) ?_
        refine j_aln dX1_keepOnly_15 rfl rfl ?_
        refine g_X1_0 dX1_keepOnly_16 fl_X1_9 (by first | assumption | decide | (simp only [nv] at *; omega)) ?_
        refine j_iln dX1_keepOnly_19 rfl rfl ?_
        refine j_aldLN dX1_keepOnly_20 (by first | assumption | decide | (simp only [nv] at *; omega)) (by omega) ?_
        refine j_land dX1_keepOnly_21 ?_
        refine j_astLN dX1_keepOnly_22 (by first | assumption | decide | (simp only [nv] at *; omega)) (by omega) ?_
        refine j_incN_2 1 dX1_keepOnly_23 rfl (by decide) rfl ?_
        refine j_goto (tgt := 2) dX1_keepOnly_26 (by decide) ?_
        refine j_mem ?_ ih
        rw [sL_sL, mL_sL, if_pos rfl, wsL_s]
        try simp only [mL_sL, if_pos, if_neg, wsL_at, hne, ne_eq, not_false_eq_true]
        try rfl
  refine j_icN 0 dX1_keepOnly_0 rfl ?_
  refine j_ist_2 dX1_keepOnly_1 (by decide) rfl ?_
  have K0 := K 0 (by omega)
  rw [wsL_0, sL_id] at K0
  exact K0
set_option maxRecDepth 100000 in
set_option maxHeartbeats 4000000 in
theorem c_X1_copyFrom {l : Launch} {E : Ev} {M : Mm} {c q : Nat} (hc : c < nv 7) (ho : q < nv 7) : Ct l E yX1_copyFrom cX1_copyFrom 2 none 1 0 0 [.ref (eA E 7 c), .ref (eA E 7 q)] M (dn (sL M c (mL M q))) := by
  refine Ct.of (own := RX1) rfl [some (.ref (eA E 7 c)), some (.ref (eA E 7 q))] (by decide) (Nat.le_of_ble_eq_true rfl) rfl ?_
  refine j_aln dX1_copyFrom_0 rfl rfl ?_
  refine g_X1_0 dX1_copyFrom_1 fl_X1_9 (by first | assumption | decide | (simp only [nv] at *; omega)) ?_
  refine j_ic (v := 0) dX1_copyFrom_4 (by decide) ?_
  refine j_aln dX1_copyFrom_5 rfl rfl ?_
  refine g_X1_0 dX1_copyFrom_6 fl_X1_9 (by first | assumption | decide | (simp only [nv] at *; omega)) ?_
  refine j_ic (v := 0) dX1_copyFrom_9 (by decide) ?_
  refine j_bi (v := 8) dX1_copyFrom_10 (by decide) ?_
  refine j_cpyL dX1_copyFrom_12 ml_X1_25 ac_native ac_static ac_init (by assumption) (by assumption) (by decide) (Nat.le_of_ble_eq_true rfl) (by decide +kernel) ?_
  refine j_sim (sim_L (g := mL M q) (fun z hz => ?_)) ?_
  · simp [va_cpy, hz]
  exact j_vret dX1_copyFrom_15 rfl (Nat.le_of_ble_eq_true rfl) (Nat.le_of_ble_eq_true rfl) ⟨rfl, rfl⟩
/-- the neighbour rows -/
def bsd (f : Nat → Int64) (s z : Nat) : Int64 :=
  if s = 0 then shl (f z) 1 &&& (-72340172838076674) else if s = 1 then shr (f z) 1 &&& 9187201950435737471 else if s = 2 then shl (f z) 8 else if s = 3 then shr (f z) 8
  else if s = 4 then (if z = 0 then 0 else f (z - 1)) else if z + 1 < 8 then f (z + 1) else 0
def sqa (f : Nat → Int64) (s z : Nat) : Int64 := f z &&& (bsd f s z ^^^ -1)
/-- a sum of ints -/
def smI (g : Nat → Int32) : Nat → Int32
  | 0 => 0
  | n + 1 => smI g n + g n
theorem sub1_neg {z : Nat} (hz : z < 2 ^ 30) : nI z - nI 1 < 0 ↔ z = 0 := by
  constructor
  · intro h
    rcases Nat.eq_zero_or_pos z with h0 | h0
    · exact h0
    · rw [pk_sub h0] at h
      exact absurd h (nI_pos (by omega))
  · rintro rfl; decide
/-- the popcount as it is computed -/
def bcl (x : Int64) : Int32 :=
  let a := x - (shr x 1 &&& 6148914691236517205)
  let b := (a &&& 3689348814741910323) + (shr a 2 &&& 3689348814741910323)
  let c := (b + shr b 4) &&& 1085102592571150095
  let d := c + shr c 8
  let e := d + shr d 16
  let g := e + shr e 32
  g.toInt32 &&& nI 127
def lob (x : Int64) : Int64 := x &&& -x
set_option maxRecDepth 100000 in
set_option maxHeartbeats 4000000 in
theorem c_X1_besideAt {l : Launch} {E : Ev} {M : Mm} {c s z : Nat} (hc : c < nv 7) (hs : s < 6) (hz : z < 8) : Ct l E yX1_besideAt cX1_besideAt 4 (some .long) 1 0 0 [.ref (eA E 7 c), .int (nI s), .int (nI z)] M (dv (.long (bsd (mL M c) s z)) M) := by
  refine Ct.of (own := RX1) rfl [some (.ref (eA E 7 c)), some (.int (nI s)), some (.int (nI z)), none] (by decide) (Nat.le_of_ble_eq_true rfl) rfl ?_
  refine j_iln dX1_besideAt_0 rfl rfl ?_
  refine j_ifneN (tgt := 17) dX1_besideAt_1 (by decide) (by omega) (fun h1 => ?_) (fun h1 => ?_)
  · refine j_iln dX1_besideAt_17 rfl rfl ?_
    refine j_icN 1 dX1_besideAt_18 rfl ?_
    refine j_icneN (tgt := 35) dX1_besideAt_19 (by decide) (by omega) (by omega) (fun h19 => ?_) (fun h19 => ?_)
    · refine j_iln dX1_besideAt_35 rfl rfl ?_
      refine j_icN 2 dX1_besideAt_36 rfl ?_
      refine j_icneN (tgt := 50) dX1_besideAt_37 (by decide) (by omega) (by omega) (fun h37 => ?_) (fun h37 => ?_)
      · refine j_iln dX1_besideAt_50 rfl rfl ?_
        refine j_icN 3 dX1_besideAt_51 rfl ?_
        refine j_icneN (tgt := 65) dX1_besideAt_52 (by decide) (by omega) (by omega) (fun h52 => ?_) (fun h52 => ?_)
        · refine j_iln dX1_besideAt_65 rfl rfl ?_
          refine j_icN 4 dX1_besideAt_66 rfl ?_
          refine j_icneN (tgt := 76) dX1_besideAt_67 (by decide) (by omega) (by omega) (fun h67 => ?_) (fun h67 => ?_)
          · refine j_iln dX1_besideAt_76 rfl rfl ?_
            refine j_icN 1 dX1_besideAt_77 rfl ?_
            refine j_iaddN dX1_besideAt_78 ?_
            refine j_ist_3 dX1_besideAt_79 (by decide) rfl ?_
            refine j_iln dX1_besideAt_80 rfl rfl ?_
            refine j_ifltN (tgt := 99) dX1_besideAt_81 (by decide) (by omega) ?_
            refine j_iln dX1_besideAt_84 rfl rfl ?_
            refine j_biN 8 dX1_besideAt_85 rfl ?_
            refine j_icgeN (tgt := 99) dX1_besideAt_87 (by decide) (by omega) (by omega) (fun h87 => ?_) (fun h87 => ?_)
            · refine j_lc (v := 0) dX1_besideAt_99 (by decide) ?_
              exact j_lret dX1_besideAt_100 rfl (Nat.le_of_ble_eq_true rfl) (Nat.le_of_ble_eq_true rfl) ⟨by simp_all [bsd] <;> omega, rfl⟩
            · refine j_aln dX1_besideAt_90 rfl rfl ?_
              refine g_X1_0 dX1_besideAt_91 fl_X1_9 (by first | assumption | decide | (simp only [nv] at *; omega)) ?_
              refine j_iln dX1_besideAt_94 rfl rfl ?_
              refine j_aldLN dX1_besideAt_95 (by first | assumption | decide | (simp only [nv] at *; omega)) (by omega) ?_
              refine j_goto (tgt := 100) dX1_besideAt_96 (by decide) ?_
              exact j_lret dX1_besideAt_100 rfl (Nat.le_of_ble_eq_true rfl) (Nat.le_of_ble_eq_true rfl) ⟨by simp_all [bsd] <;> omega, rfl⟩
          · refine j_iln dX1_besideAt_70 rfl rfl ?_
            refine j_icN 1 dX1_besideAt_71 rfl ?_
            refine j_isub dX1_besideAt_72 ?_
            refine j_goto (tgt := 79) dX1_besideAt_73 (by decide) ?_
            refine j_ist_3 dX1_besideAt_79 (by decide) rfl ?_
            refine j_iln dX1_besideAt_80 rfl rfl ?_
            refine j_iflt (tgt := 99) dX1_besideAt_81 (by decide) (fun h81 => ?_) (fun h81 => ?_)
            · obtain rfl := (sub1_neg (by omega)).mp h81
              refine j_lc (v := 0) dX1_besideAt_99 (by decide) ?_
              exact j_lret dX1_besideAt_100 rfl (Nat.le_of_ble_eq_true rfl) (Nat.le_of_ble_eq_true rfl) ⟨by simp_all [bsd] <;> omega, rfl⟩
            · have hz1 : 1 ≤ z := by
                rcases Nat.eq_zero_or_pos z with h0 | h0
                · exact absurd ((sub1_neg (by omega)).mpr h0) h81
                · exact h0
              refine j_iln dX1_besideAt_84 rfl rfl ?_
              refine j_biN 8 dX1_besideAt_85 rfl ?_
              refine j_icge (tgt := 99) dX1_besideAt_87 (by decide) (fun h87 => ?_) (fun h87 => ?_)
              · exact absurd h87 (by rw [pk_sub hz1]; exact nI_ge (by omega) (by omega))
              · refine j_aln dX1_besideAt_90 rfl rfl ?_
                refine g_X1_0 dX1_besideAt_91 fl_X1_9 (by first | assumption | decide | (simp only [nv] at *; omega)) ?_
                refine j_iln dX1_besideAt_94 rfl rfl ?_
                refine j_aldL (z - 1) dX1_besideAt_95 (by first | assumption | decide | (simp only [nv] at *; omega)) (pk_sub hz1) (by omega) ?_
                refine j_goto (tgt := 100) dX1_besideAt_96 (by decide) ?_
                exact j_lret dX1_besideAt_100 rfl (Nat.le_of_ble_eq_true rfl) (Nat.le_of_ble_eq_true rfl) ⟨by simp_all [bsd] <;> omega, rfl⟩
        · refine j_aln dX1_besideAt_55 rfl rfl ?_
          refine g_X1_0 dX1_besideAt_56 fl_X1_9 (by first | assumption | decide | (simp only [nv] at *; omega)) ?_
          refine j_iln dX1_besideAt_59 rfl rfl ?_
          refine j_aldLN dX1_besideAt_60 (by first | assumption | decide | (simp only [nv] at *; omega)) (by omega) ?_
          refine j_biN 8 dX1_besideAt_61 rfl ?_
          refine j_lushrN dX1_besideAt_63 (by omega) ?_
          exact j_lret dX1_besideAt_64 rfl (Nat.le_of_ble_eq_true rfl) (Nat.le_of_ble_eq_true rfl) ⟨by simp_all [bsd] <;> omega, rfl⟩
      · refine j_aln dX1_besideAt_40 rfl rfl ?_
        refine g_X1_0 dX1_besideAt_41 fl_X1_9 (by first | assumption | decide | (simp only [nv] at *; omega)) ?_
        refine j_iln dX1_besideAt_44 rfl rfl ?_
        refine j_aldLN dX1_besideAt_45 (by first | assumption | decide | (simp only [nv] at *; omega)) (by omega) ?_
        refine j_biN 8 dX1_besideAt_46 rfl ?_
        refine j_lshlN dX1_besideAt_48 (by omega) ?_
        exact j_lret dX1_besideAt_49 rfl (Nat.le_of_ble_eq_true rfl) (Nat.le_of_ble_eq_true rfl) ⟨by simp_all [bsd] <;> omega, rfl⟩
    · refine j_aln dX1_besideAt_22 rfl rfl ?_
      refine g_X1_0 dX1_besideAt_23 fl_X1_9 (by first | assumption | decide | (simp only [nv] at *; omega)) ?_
      refine j_iln dX1_besideAt_26 rfl rfl ?_
      refine j_aldLN dX1_besideAt_27 (by first | assumption | decide | (simp only [nv] at *; omega)) (by omega) ?_
      refine j_icN 1 dX1_besideAt_28 rfl ?_
      refine j_lushrN dX1_besideAt_29 (by omega) ?_
      refine j_ldc2 dX1_besideAt_30 cn_X1_63 ?_
      refine j_land dX1_besideAt_33 ?_
      exact j_lret dX1_besideAt_34 rfl (Nat.le_of_ble_eq_true rfl) (Nat.le_of_ble_eq_true rfl) ⟨by simp_all [bsd] <;> omega, rfl⟩
  · refine j_aln dX1_besideAt_4 rfl rfl ?_
    refine g_X1_0 dX1_besideAt_5 fl_X1_9 (by first | assumption | decide | (simp only [nv] at *; omega)) ?_
    refine j_iln dX1_besideAt_8 rfl rfl ?_
    refine j_aldLN dX1_besideAt_9 (by first | assumption | decide | (simp only [nv] at *; omega)) (by omega) ?_
    refine j_icN 1 dX1_besideAt_10 rfl ?_
    refine j_lshlN dX1_besideAt_11 (by omega) ?_
    refine j_ldc2 dX1_besideAt_12 cn_X1_61 ?_
    refine j_land dX1_besideAt_15 ?_
    exact j_lret dX1_besideAt_16 rfl (Nat.le_of_ble_eq_true rfl) (Nat.le_of_ble_eq_true rfl) ⟨by simp_all [bsd] <;> omega, rfl⟩
set_option maxRecDepth 100000 in
set_option maxHeartbeats 4000000 in
theorem c_X1_squaresAt {l : Launch} {E : Ev} {M : Mm} {c s z : Nat} (hc : c < nv 7) (hs : s < 6) (hz : z < 8) : Ct l E yX1_squaresAt cX1_squaresAt 3 (some .long) 2 0 0 [.ref (eA E 7 c), .int (nI s), .int (nI z)] M (dv (.long (sqa (mL M c) s z)) M) := by
  refine Ct.of (own := RX1) rfl [some (.ref (eA E 7 c)), some (.int (nI s)), some (.int (nI z))] (by decide) (Nat.le_of_ble_eq_true rfl) rfl ?_
  refine j_aln dX1_squaresAt_0 rfl rfl ?_
  refine g_X1_0 dX1_squaresAt_1 fl_X1_9 (by first | assumption | decide | (simp only [nv] at *; omega)) ?_
  refine j_iln dX1_squaresAt_4 rfl rfl ?_
  refine j_aldLN dX1_squaresAt_5 (by first | assumption | decide | (simp only [nv] at *; omega)) (by omega) ?_
  refine j_aln dX1_squaresAt_6 rfl rfl ?_
  refine j_iln dX1_squaresAt_7 rfl rfl ?_
  refine j_iln dX1_squaresAt_8 rfl rfl ?_
  refine j_V2d mf_X1_besideAt ml_X1_33 dX1_squaresAt_9 (Nat.le_of_ble_eq_true rfl) (Nat.le_of_ble_eq_true rfl) (Nat.le_of_ble_eq_true rfl) ⟨(Nat.le_of_ble_eq_true rfl), (Nat.le_of_ble_eq_true rfl)⟩ (by first | assumption | decide | (simp only [nv] at *; omega)) rfl rfl (c_X1_besideAt hc hs hz) ?_
  refine j_ldc2 dX1_squaresAt_12 cn_X1_31 ?_
  refine j_lxor dX1_squaresAt_15 ?_
  refine j_land dX1_squaresAt_16 ?_
  exact j_lret dX1_squaresAt_17 rfl (Nat.le_of_ble_eq_true rfl) (Nat.le_of_ble_eq_true rfl) ⟨rfl, rfl⟩
set_option maxRecDepth 100000 in
set_option maxHeartbeats 4000000 in
theorem c_J13_bitCount_95d88 {l : Launch} {E : Ev} {M : Mm} {x : Int64}  : Ct l E yJ13_bitCount_95d88 cJ13_bitCount_95d88 2 (some .int) 1 0 0 [.long x] M (dv (.int (bcl x)) M) := by
  refine Ct.of (own := RJ13) rfl [some (.long x), none] (by decide) (Nat.le_of_ble_eq_true rfl) rfl ?_
  refine j_lln dJ13_bitCount_95d88_0 rfl rfl ?_
  refine j_lln dJ13_bitCount_95d88_1 rfl rfl ?_
  refine j_icN 1 dJ13_bitCount_95d88_2 rfl ?_
  refine j_lushrN dJ13_bitCount_95d88_3 (by omega) ?_
  refine j_ldc2 dJ13_bitCount_95d88_4 cn_J13_314 ?_
  refine j_land dJ13_bitCount_95d88_7 ?_
  refine j_lsub dJ13_bitCount_95d88_8 ?_
  refine j_lst_0 dJ13_bitCount_95d88_9 (by decide) ?_
  refine j_lln dJ13_bitCount_95d88_10 rfl rfl ?_
  refine j_ldc2 dJ13_bitCount_95d88_11 cn_J13_316 ?_
  refine j_land dJ13_bitCount_95d88_14 ?_
  refine j_lln dJ13_bitCount_95d88_15 rfl rfl ?_
  refine j_icN 2 dJ13_bitCount_95d88_16 rfl ?_
  refine j_lushrN dJ13_bitCount_95d88_17 (by omega) ?_
  refine j_ldc2 dJ13_bitCount_95d88_18 cn_J13_316 ?_
  refine j_land dJ13_bitCount_95d88_21 ?_
  refine j_ladd dJ13_bitCount_95d88_22 ?_
  refine j_lst_0 dJ13_bitCount_95d88_23 (by decide) ?_
  refine j_lln dJ13_bitCount_95d88_24 rfl rfl ?_
  refine j_lln dJ13_bitCount_95d88_25 rfl rfl ?_
  refine j_icN 4 dJ13_bitCount_95d88_26 rfl ?_
  refine j_lushrN dJ13_bitCount_95d88_27 (by omega) ?_
  refine j_ladd dJ13_bitCount_95d88_28 ?_
  refine j_ldc2 dJ13_bitCount_95d88_29 cn_J13_318 ?_
  refine j_land dJ13_bitCount_95d88_32 ?_
  refine j_lst_0 dJ13_bitCount_95d88_33 (by decide) ?_
  refine j_lln dJ13_bitCount_95d88_34 rfl rfl ?_
  refine j_lln dJ13_bitCount_95d88_35 rfl rfl ?_
  refine j_biN 8 dJ13_bitCount_95d88_36 rfl ?_
  refine j_lushrN dJ13_bitCount_95d88_38 (by omega) ?_
  refine j_ladd dJ13_bitCount_95d88_39 ?_
  refine j_lst_0 dJ13_bitCount_95d88_40 (by decide) ?_
  refine j_lln dJ13_bitCount_95d88_41 rfl rfl ?_
  refine j_lln dJ13_bitCount_95d88_42 rfl rfl ?_
  refine j_biN 16 dJ13_bitCount_95d88_43 rfl ?_
  refine j_lushrN dJ13_bitCount_95d88_45 (by omega) ?_
  refine j_ladd dJ13_bitCount_95d88_46 ?_
  refine j_lst_0 dJ13_bitCount_95d88_47 (by decide) ?_
  refine j_lln dJ13_bitCount_95d88_48 rfl rfl ?_
  refine j_lln dJ13_bitCount_95d88_49 rfl rfl ?_
  refine j_biN 32 dJ13_bitCount_95d88_50 rfl ?_
  refine j_lushrN dJ13_bitCount_95d88_52 (by omega) ?_
  refine j_ladd dJ13_bitCount_95d88_53 ?_
  refine j_lst_0 dJ13_bitCount_95d88_54 (by decide) ?_
  refine j_lln dJ13_bitCount_95d88_55 rfl rfl ?_
  refine j_l2i dJ13_bitCount_95d88_56 ?_
  refine j_biN 127 dJ13_bitCount_95d88_57 rfl ?_
  refine j_iand dJ13_bitCount_95d88_59 ?_
  exact j_iret dJ13_bitCount_95d88_60 rfl rfl (Nat.le_of_ble_eq_true rfl) (Nat.le_of_ble_eq_true rfl) ⟨rfl, rfl⟩
set_option maxRecDepth 100000 in
set_option maxHeartbeats 4000000 in
theorem c_J13_lowestOneBit_067f4 {l : Launch} {E : Ev} {M : Mm} {x : Int64}  : Ct l E yJ13_lowestOneBit_067f4 cJ13_lowestOneBit_067f4 2 (some .long) 1 0 0 [.long x] M (dv (.long (lob x)) M) := by
  refine Ct.of (own := RJ13) rfl [some (.long x), none] (by decide) (Nat.le_of_ble_eq_true rfl) rfl ?_
  refine j_lln dJ13_lowestOneBit_067f4_0 rfl rfl ?_
  refine j_lln dJ13_lowestOneBit_067f4_1 rfl rfl ?_
  refine j_lneg dJ13_lowestOneBit_067f4_2 ?_
  refine j_land dJ13_lowestOneBit_067f4_3 ?_
  exact j_lret dJ13_lowestOneBit_067f4_4 rfl (Nat.le_of_ble_eq_true rfl) (Nat.le_of_ble_eq_true rfl) ⟨rfl, rfl⟩
set_option maxRecDepth 100000 in
set_option maxHeartbeats 4000000 in
theorem c_X1_count {l : Launch} {E : Ev} {M : Mm} {c : Nat} (hc : c < nv 7) : Ct l E yX1_count cX1_count 3 (some .int) 2 0 0 [.ref (eA E 7 c)] M (dv (.int (smI (fun z => bcl (mL M c z)) 8)) M) := by
  refine Ct.of (own := RX1) rfl [some (.ref (eA E 7 c)), none, none] (by decide) (Nat.le_of_ble_eq_true rfl) rfl ?_
  have K : ∀ i, i ≤ 8 → Jd l E RX1 cX1_count 3 (some .int) [] (rmm 2 0 0) (QfN E (dv (.int (smI (fun z => bcl (mL M c z)) 8)) M) 0 0) 0 0 4 [some (.ref (eA E 7 c)), some (.int (smI (fun z => bcl (mL M c z)) i)), some (.int (nI i))] [] M := by
    refine up_to 8 _ ?_ (fun i hi ih => ?_)
    · refine j_iln dX1_count_4 rfl rfl ?_
      refine j_biN 8 dX1_count_5 rfl ?_
      refine j_icgeN (tgt := 28) dX1_count_7 (by decide) (by omega) (by omega) (fun h7 => ?_) (fun h7 => ?_)
      · refine j_iln dX1_count_28 rfl rfl ?_
        exact j_iret dX1_count_29 rfl rfl (Nat.le_of_ble_eq_true rfl) (Nat.le_of_ble_eq_true rfl) ⟨rfl, rfl⟩
      · exact absurd (Nat.le_refl 8) h7
    · refine j_iln dX1_count_4 rfl rfl ?_
      refine j_biN 8 dX1_count_5 rfl ?_
      refine j_icgeN (tgt := 28) dX1_count_7 (by decide) (by omega) (by omega) (fun h7 => ?_) (fun h7 => ?_)
      · exact absurd h7 (by omega)
      · refine j_iln dX1_count_10 rfl rfl ?_
        refine j_aln dX1_count_11 rfl rfl ?_
        refine g_X1_0 dX1_count_12 fl_X1_9 (by first | assumption | decide | (simp only [nv] at *; omega)) ?_
        refine j_iln dX1_count_15 rfl rfl ?_
        refine j_aldLN dX1_count_16 (by first | assumption | decide | (simp only [nv] at *; omega)) (by omega) ?_
        refine j_S1d mf_J13_bitCount_95d88 ml_X1_37 dX1_count_17 (Nat.le_of_ble_eq_true rfl) (Nat.le_of_ble_eq_true rfl) (Nat.le_of_ble_eq_true rfl) ⟨(Nat.le_of_ble_eq_true rfl), (Nat.le_of_ble_eq_true rfl)⟩ c_J13_bitCount_95d88 ?_
        refine j_iadd dX1_count_20 ?_
        refine j_ist_1 dX1_count_21 (by decide) rfl ?_
        refine j_incN_2 1 dX1_count_22 rfl (by decide) rfl ?_
        refine j_goto (tgt := 4) dX1_count_25 (by decide) ?_
        exact ih
  refine j_icN 0 dX1_count_0 rfl ?_
  refine j_ist_1 dX1_count_1 (by decide) rfl ?_
  refine j_icN 0 dX1_count_2 rfl ?_
  refine j_ist_2 dX1_count_3 (by decide) rfl ?_
  exact K 0 (by omega)
set_option maxRecDepth 100000 in
set_option maxHeartbeats 4000000 in
theorem c_X1_countSquares {l : Launch} {E : Ev} {M : Mm} {c s : Nat} (hc : c < nv 7) (hs : s < 6) : Ct l E yX1_countSquares cX1_countSquares 4 (some .int) 3 0 0 [.ref (eA E 7 c), .int (nI s)] M (dv (.int (smI (fun z => bcl (sqa (mL M c) s z)) 8)) M) := by
  refine Ct.of (own := RX1) rfl [some (.ref (eA E 7 c)), some (.int (nI s)), none, none] (by decide) (Nat.le_of_ble_eq_true rfl) rfl ?_
  have K : ∀ i, i ≤ 8 → Jd l E RX1 cX1_countSquares 4 (some .int) [] (rmm 3 0 0) (QfN E (dv (.int (smI (fun z => bcl (sqa (mL M c) s z)) 8)) M) 0 0) 0 0 4 [some (.ref (eA E 7 c)), some (.int (nI s)), some (.int (smI (fun z => bcl (sqa (mL M c) s z)) i)), some (.int (nI i))] [] M := by
    refine up_to 8 _ ?_ (fun i hi ih => ?_)
    · refine j_iln dX1_countSquares_4 rfl rfl ?_
      refine j_biN 8 dX1_countSquares_5 rfl ?_
      refine j_icgeN (tgt := 28) dX1_countSquares_7 (by decide) (by omega) (by omega) (fun h7 => ?_) (fun h7 => ?_)
      · refine j_iln dX1_countSquares_28 rfl rfl ?_
        exact j_iret dX1_countSquares_29 rfl rfl (Nat.le_of_ble_eq_true rfl) (Nat.le_of_ble_eq_true rfl) ⟨rfl, rfl⟩
      · exact absurd (Nat.le_refl 8) h7
    · refine j_iln dX1_countSquares_4 rfl rfl ?_
      refine j_biN 8 dX1_countSquares_5 rfl ?_
      refine j_icgeN (tgt := 28) dX1_countSquares_7 (by decide) (by omega) (by omega) (fun h7 => ?_) (fun h7 => ?_)
      · exact absurd h7 (by omega)
      · refine j_iln dX1_countSquares_10 rfl rfl ?_
        refine j_aln dX1_countSquares_11 rfl rfl ?_
        refine j_iln dX1_countSquares_12 rfl rfl ?_
        refine j_iln dX1_countSquares_13 rfl rfl ?_
        refine j_V2d mf_X1_squaresAt ml_X1_65 dX1_countSquares_14 (Nat.le_of_ble_eq_true rfl) (Nat.le_of_ble_eq_true rfl) (Nat.le_of_ble_eq_true rfl) ⟨(Nat.le_of_ble_eq_true rfl), (Nat.le_of_ble_eq_true rfl)⟩ (by first | assumption | decide | (simp only [nv] at *; omega)) rfl rfl (c_X1_squaresAt hc hs (by omega)) ?_
        refine j_S1d mf_J13_bitCount_95d88 ml_X1_37 dX1_countSquares_17 (Nat.le_of_ble_eq_true rfl) (Nat.le_of_ble_eq_true rfl) (Nat.le_of_ble_eq_true rfl) ⟨(Nat.le_of_ble_eq_true rfl), (Nat.le_of_ble_eq_true rfl)⟩ c_J13_bitCount_95d88 ?_
        refine j_iadd dX1_countSquares_20 ?_
        refine j_ist_2 dX1_countSquares_21 (by decide) rfl ?_
        refine j_incN_3 1 dX1_countSquares_22 rfl (by decide) rfl ?_
        refine j_goto (tgt := 4) dX1_countSquares_25 (by decide) ?_
        exact ih
  refine j_icN 0 dX1_countSquares_0 rfl ?_
  refine j_ist_2 dX1_countSquares_1 (by decide) rfl ?_
  refine j_icN 0 dX1_countSquares_2 rfl ?_
  refine j_ist_3 dX1_countSquares_3 (by decide) rfl ?_
  exact K 0 (by omega)
