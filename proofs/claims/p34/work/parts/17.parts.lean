/-! Parts -/
def ntX (x : Int32) : Nat := x.toInt.toNat
theorem ntX_nI {k : Nat} (h : k < 2 ^ 31) : ntX (nI k) = k := by
  unfold ntX
  rw [nI_toInt h]
  rfl
/-- a part or the ground -/
def isPt (x : Int32) : Prop := x = -1 ∨ ∃ p, p < 6 ∧ x = nI p
def mvX (mv : Nat → Int32) (x : Int32) (a : Nat) : Int32 := if x = -1 then nI 0 else mv (ntX x * 3 + a)
def apX (mv : Nat → Int32) (a : Nat) (x y : Int32) : Int32 := mvX mv x a - mvX mv y a
def ptb (x : Int32) : Int32 := nI 1 <<< ((x - (-1)) &&& 31)
def prX (cnt : Int32) (x : Int32) : Bool := decide (¬ x < 0 ∧ x < cnt)
def gS (A P O : Nat → Int32) (ax g : Int32) (k : Nat) : Int32 := if A k = ax ∧ ¬ g &&& (ptb (P k) ||| ptb (O k)) = 0 then g ||| (ptb (P k) ||| ptb (O k)) else g
def grK (A P O : Nat → Int32) (ax : Int32) : Nat → Int32 → Int32
  | 0, g => g
  | k + 1, g => gS A P O ax (grK A P O ax k g) k
def grR (A P O : Nat → Int32) (ax : Int32) (mc : Nat) : Nat → Int32 → Int32
  | 0, g => g
  | r + 1, g => grK A P O ax mc (grR A P O ax mc r g)
def grp (M : Mm) (mc : Nat) (ax x : Int32) : Int32 := grR (mI M 35) (mI M 36) (mI M 37) ax mc mc (ptb x)
def tdX (M : Mm) (mc : Nat) (ax x y : Int32) : Bool := decide (¬ grp M mc ax x &&& ptb y = 0)
/-- how many of the first parts are of a group; the moves after -/
def slN (g : Int32) : Nat → Nat
  | 0 => 0
  | k + 1 => if g &&& ptb (nI k) = 0 then slN g k else slN g k + 1
def slM (mv : Nat → Int32) (a : Nat) (g by_ : Int32) (k : Nat) : Nat → Int32 := fun j => if j % 3 = a ∧ j / 3 < k ∧ ¬ g &&& ptb (nI (j / 3)) = 0 then mv j + by_ else mv j
theorem sl_v {w : Int32} {n : Nat} (hz : w = 0 → n = 0) : n = if w = 0 then 0 else n := by
  by_cases hw : w = 0
  · rw [if_pos hw, hz hw]
  · rw [if_neg hw]
theorem slM_0 (mv : Nat → Int32) (a : Nat) (g by_ : Int32) : slM mv a g by_ 0 = mv := by
  funext j
  unfold slM
  rw [if_neg (by omega)]
theorem slM_z (mv : Nat → Int32) (a : Nat) (g : Int32) (k : Nat) : slM mv a g 0 k = mv := by
  funext j
  unfold slM
  split
  · exact Int32.add_zero _
  · rfl
theorem slM_s {mv : Nat → Int32} {a : Nat} {g by_ : Int32} {k : Nat} (ha : a < 3) (h : ¬ g &&& ptb (nI k) = 0) : slM mv a g by_ (k + 1) = upd (slM mv a g by_ k) (k * 3 + a) (slM mv a g by_ k (k * 3 + a) + by_) := by
  funext j
  unfold upd
  by_cases e : j = k * 3 + a
  · subst e
    rw [if_pos rfl]
    unfold slM
    have e1 : (k * 3 + a) / 3 = k := by omega
    rw [e1, if_pos ⟨by omega, by omega, h⟩, if_neg (by omega)]
  · rw [if_neg e]
    unfold slM
    by_cases e2 : j % 3 = a
    · have e3 : (j / 3 < k + 1) ↔ (j / 3 < k) := by omega
      simp only [e3]
    · rw [if_neg (fun q => e2 q.1), if_neg (fun q => e2 q.1)]
theorem slM_n {mv : Nat → Int32} {a : Nat} {g by_ : Int32} {k : Nat} (h : g &&& ptb (nI k) = 0) : slM mv a g by_ (k + 1) = slM mv a g by_ k := by
  funext j
  unfold slM
  by_cases e : j / 3 = k
  · rw [e, if_neg (fun q => q.2.2 h), if_neg (fun q => q.2.2 h)]
  · have e3 : (j / 3 < k + 1) ↔ (j / 3 < k) := by omega
    simp only [e3]
set_option maxRecDepth 100000 in
set_option maxHeartbeats 4000000 in
theorem c_X6_isPart {l : Launch} {E : Ev} {M : Mm} {x : Int32}  : Ct l E yX6_isPart cX6_isPart 2 (some .boolean) 1 0 0 [.ref (eA E 5 0), .int x] M (dv (.int (bI (prX (mI M 5 2) x))) M) := by
  refine Ct.of (own := RX6) rfl [some (.ref (eA E 5 0)), some (.int x)] (by decide) (Nat.le_of_ble_eq_true rfl) rfl ?_
  refine j_iln dX6_isPart_0 rfl rfl ?_
  refine j_iflt (tgt := 16) dX6_isPart_1 (by decide) (fun h1 => ?_) (fun h1 => ?_)
  · refine j_icN 0 dX6_isPart_16 rfl ?_
    exact j_iret dX6_isPart_17 rfl (by decide) (Nat.le_of_ble_eq_true rfl) (Nat.le_of_ble_eq_true rfl) ⟨by unfold prX; (first | (rw [decide_eq_true (show ¬ x < 0 ∧ x < mI M 5 2 from ⟨h1, Int32.not_le.mp h9⟩)]; rfl) | (rw [decide_eq_false (show ¬ (¬ x < 0 ∧ x < mI M 5 2) from fun q => Int32.not_le.mpr q.2 h9)]; rfl) | (rw [decide_eq_false (show ¬ (¬ x < 0 ∧ x < mI M 5 2) from fun q => q.1 h1)]; rfl)), rfl⟩
  · refine j_iln dX6_isPart_4 rfl rfl ?_
    refine j_aln dX6_isPart_5 rfl rfl ?_
    refine g_X6_2 dX6_isPart_6 fl_X6_38 ?_
    refine j_icge (tgt := 16) dX6_isPart_9 (by decide) (fun h9 => ?_) (fun h9 => ?_)
    · refine j_icN 0 dX6_isPart_16 rfl ?_
      exact j_iret dX6_isPart_17 rfl (by decide) (Nat.le_of_ble_eq_true rfl) (Nat.le_of_ble_eq_true rfl) ⟨by unfold prX; (first | (rw [decide_eq_true (show ¬ x < 0 ∧ x < mI M 5 2 from ⟨h1, Int32.not_le.mp h9⟩)]; rfl) | (rw [decide_eq_false (show ¬ (¬ x < 0 ∧ x < mI M 5 2) from fun q => Int32.not_le.mpr q.2 h9)]; rfl) | (rw [decide_eq_false (show ¬ (¬ x < 0 ∧ x < mI M 5 2) from fun q => q.1 h1)]; rfl)), rfl⟩
    · refine j_icN 1 dX6_isPart_12 rfl ?_
      refine j_goto (tgt := 17) dX6_isPart_13 (by decide) ?_
      exact j_iret dX6_isPart_17 rfl (by decide) (Nat.le_of_ble_eq_true rfl) (Nat.le_of_ble_eq_true rfl) ⟨by unfold prX; (first | (rw [decide_eq_true (show ¬ x < 0 ∧ x < mI M 5 2 from ⟨h1, Int32.not_le.mp h9⟩)]; rfl) | (rw [decide_eq_false (show ¬ (¬ x < 0 ∧ x < mI M 5 2) from fun q => Int32.not_le.mpr q.2 h9)]; rfl) | (rw [decide_eq_false (show ¬ (¬ x < 0 ∧ x < mI M 5 2) from fun q => q.1 h1)]; rfl)), rfl⟩
set_option maxRecDepth 100000 in
set_option maxHeartbeats 4000000 in
theorem c_X6_append {l : Launch} {E : Ev} {M : Mm} {cnt : Nat} {x y z : Int32} (hc : mI M 5 2 = nI cnt) (hc6 : cnt < 6) : Ct l E yX6_append cX6_append 5 (some .int) 1 0 0 [.ref (eA E 5 0), .int x, .int y, .int z] M (dv (.int (nI cnt)) (sI (sI M 34 (upd (upd (upd (mI M 34) (cnt * 3) x) (cnt * 3 + 1) y) (cnt * 3 + 2) z)) 5 (upd (mI M 5) 2 (nI (cnt + 1))))) := by
  refine Ct.of (own := RX6) rfl [some (.ref (eA E 5 0)), some (.int x), some (.int y), some (.int z), none] (by decide) (Nat.le_of_ble_eq_true rfl) rfl ?_
  refine j_aln dX6_append_0 rfl rfl ?_
  refine g_X6_2 dX6_append_1 fl_X6_38 ?_
  refine j_topi hc ?_
  refine j_ist_4 dX6_append_4 (by decide) rfl ?_
  refine j_aln dX6_append_6 rfl rfl ?_
  refine g_X6_4 dX6_append_7 fl_X6_21 ?_
  refine j_il dX6_append_10 rfl ?_
  refine j_icN 3 dX6_append_12 rfl ?_
  refine j_imulN dX6_append_13 ?_
  refine j_iln dX6_append_14 rfl rfl ?_
  refine j_aistN dX6_append_15 rfl (fun _ => rfl) rfl (by decide) (by omega) ?_
  refine j_aln dX6_append_16 rfl rfl ?_
  refine g_X6_4 dX6_append_17 fl_X6_21 ?_
  refine j_il dX6_append_20 rfl ?_
  refine j_icN 3 dX6_append_22 rfl ?_
  refine j_imulN dX6_append_23 ?_
  refine j_icN 1 dX6_append_24 rfl ?_
  refine j_iaddN dX6_append_25 ?_
  refine j_iln dX6_append_26 rfl rfl ?_
  refine j_aistN dX6_append_27 rfl (fun _ => rfl) rfl (by decide) (by omega) ?_
  refine j_aln dX6_append_28 rfl rfl ?_
  refine g_X6_4 dX6_append_29 fl_X6_21 ?_
  refine j_il dX6_append_32 rfl ?_
  refine j_icN 3 dX6_append_34 rfl ?_
  refine j_imulN dX6_append_35 ?_
  refine j_icN 2 dX6_append_36 rfl ?_
  refine j_iaddN dX6_append_37 ?_
  refine j_iln dX6_append_38 rfl rfl ?_
  refine j_aistN dX6_append_39 rfl (fun _ => rfl) rfl (by decide) (by omega) ?_
  refine j_aln dX6_append_40 rfl rfl ?_
  refine j_dup dX6_append_41 rfl ?_
  refine g_X6_2 dX6_append_42 fl_X6_38 ?_
  refine j_topi hc ?_
  refine j_icN 1 dX6_append_45 rfl ?_
  refine j_iaddN dX6_append_46 ?_
  refine p_X6_2 dX6_append_47 fl_X6_38 ?_
  refine j_il dX6_append_50 rfl ?_
  exact j_iret dX6_append_52 rfl rfl (Nat.le_of_ble_eq_true rfl) (Nat.le_of_ble_eq_true rfl) ⟨rfl, by rw [sI_sI, sI_sI]; rfl⟩
set_option maxRecDepth 100000 in
set_option maxHeartbeats 4000000 in
theorem c_X6_moveAlong {l : Launch} {E : Ev} {M : Mm} {a : Nat} {x : Int32} (ha : a < 3) (hx : isPt x) : Ct l E yX6_moveAlong cX6_moveAlong 3 (some .int) 1 0 0 [.ref (eA E 5 0), .int x, .int (nI a)] M (dv (.int (mvX (mI M 34) x a)) M) := by
  refine Ct.of (own := RX6) rfl [some (.ref (eA E 5 0)), some (.int x), some (.int (nI a))] (by decide) (Nat.le_of_ble_eq_true rfl) rfl ?_
  refine j_iln dX6_moveAlong_0 rfl rfl ?_
  refine j_ic (v := (-1)) dX6_moveAlong_1 (by decide) ?_
  refine j_icne (tgt := 9) dX6_moveAlong_2 (by decide) (fun h2 => ?_) (fun h2 => ?_)
  · obtain ⟨p, hp, rfl⟩ := hx.resolve_left h2
    refine j_aln dX6_moveAlong_9 rfl rfl ?_
    refine g_X6_4 dX6_moveAlong_10 fl_X6_21 ?_
    refine j_iln dX6_moveAlong_13 rfl rfl ?_
    refine j_icN 3 dX6_moveAlong_14 rfl ?_
    refine j_imulN dX6_moveAlong_15 ?_
    refine j_iln dX6_moveAlong_16 rfl rfl ?_
    refine j_iaddN dX6_moveAlong_17 ?_
    refine j_aildN dX6_moveAlong_18 rfl rfl rfl (by decide) (by omega) ?_
    exact j_iret dX6_moveAlong_19 rfl rfl (Nat.le_of_ble_eq_true rfl) (Nat.le_of_ble_eq_true rfl) ⟨by unfold mvX; first | rw [if_pos h2] | rw [if_neg h2, ntX_nI (by omega)], rfl⟩
  · refine j_icN 0 dX6_moveAlong_5 rfl ?_
    refine j_goto (tgt := 19) dX6_moveAlong_6 (by decide) ?_
    exact j_iret dX6_moveAlong_19 rfl rfl (Nat.le_of_ble_eq_true rfl) (Nat.le_of_ble_eq_true rfl) ⟨by unfold mvX; first | rw [if_pos h2] | rw [if_neg h2, ntX_nI (by omega)], rfl⟩
set_option maxRecDepth 100000 in
set_option maxHeartbeats 4000000 in
theorem c_X6_apart {l : Launch} {E : Ev} {M : Mm} {a : Nat} {x y : Int32} (ha : a < 3) (hx : isPt x) (hy : isPt y) : Ct l E yX6_apart cX6_apart 4 (some .int) 2 0 0 [.ref (eA E 5 0), .int (nI a), .int x, .int y] M (dv (.int (apX (mI M 34) a x y)) M) := by
  refine Ct.of (own := RX6) rfl [some (.ref (eA E 5 0)), some (.int (nI a)), some (.int x), some (.int y)] (by decide) (Nat.le_of_ble_eq_true rfl) rfl ?_
  refine j_aln dX6_apart_0 rfl rfl ?_
  refine j_iln dX6_apart_1 rfl rfl ?_
  refine j_iln dX6_apart_2 rfl rfl ?_
  refine j_V2d mf_X6_moveAlong ml_X6_42 dX6_apart_3 (Nat.le_of_ble_eq_true rfl) (Nat.le_of_ble_eq_true rfl) (Nat.le_of_ble_eq_true rfl) ⟨(Nat.le_of_ble_eq_true rfl), (Nat.le_of_ble_eq_true rfl)⟩ (by first | assumption | decide | (simp only [nv] at *; omega)) rfl rfl (c_X6_moveAlong ha hx) ?_
  refine j_aln dX6_apart_6 rfl rfl ?_
  refine j_iln dX6_apart_7 rfl rfl ?_
  refine j_iln dX6_apart_8 rfl rfl ?_
  refine j_V2d mf_X6_moveAlong ml_X6_42 dX6_apart_9 (Nat.le_of_ble_eq_true rfl) (Nat.le_of_ble_eq_true rfl) (Nat.le_of_ble_eq_true rfl) ⟨(Nat.le_of_ble_eq_true rfl), (Nat.le_of_ble_eq_true rfl)⟩ (by first | assumption | decide | (simp only [nv] at *; omega)) rfl rfl (c_X6_moveAlong ha hy) ?_
  refine j_isub dX6_apart_12 ?_
  exact j_iret dX6_apart_13 rfl rfl (Nat.le_of_ble_eq_true rfl) (Nat.le_of_ble_eq_true rfl) ⟨rfl, rfl⟩
set_option maxRecDepth 100000 in
set_option maxHeartbeats 4000000 in
theorem c_X6_bitOf {l : Launch} {E : Ev} {M : Mm} {x : Int32}  : Ct l E yX6_bitOf cX6_bitOf 1 (some .int) 1 0 0 [.int x] M (dv (.int (ptb x)) M) := by
  refine Ct.of (own := RX6) rfl [some (.int x)] (by decide) (Nat.le_of_ble_eq_true rfl) rfl ?_
  refine j_icN 1 dX6_bitOf_0 rfl ?_
  refine j_iln dX6_bitOf_1 rfl rfl ?_
  refine j_ic (v := (-1)) dX6_bitOf_2 (by decide) ?_
  refine j_isub dX6_bitOf_3 ?_
  refine j_ishl dX6_bitOf_4 ?_
  exact j_iret dX6_bitOf_5 rfl rfl (Nat.le_of_ble_eq_true rfl) (Nat.le_of_ble_eq_true rfl) ⟨rfl, rfl⟩
set_option maxRecDepth 100000 in
set_option maxHeartbeats 4000000 in
theorem c_X6_groupOf {l : Launch} {E : Ev} {M : Mm} {mc : Nat} {ax x : Int32} (hmc : mI M 5 3 = nI mc) (hmc12 : mc ≤ 12) : Ct l E yX6_groupOf cX6_groupOf 7 (some .int) 2 0 0 [.ref (eA E 5 0), .int ax, .int x] M (dv (.int (grp M mc ax x)) M) := by
  refine Ct.of (own := RX6) rfl [some (.ref (eA E 5 0)), some (.int ax), some (.int x), none, none, none, none] (by decide) (Nat.le_of_ble_eq_true rfl) rfl ?_
  have K : ∀ r, r ≤ mc → ∀ (o5 o6 : Option Value), Jd l E RX6 cX6_groupOf 7 (some .int) [] (rmm 2 0 0) (QfN E (dv (.int (grp M mc ax x)) M) 0 0) 0 0 8 [some (.ref (eA E 5 0)), some (.int ax), some (.int x), some (.int (grR (mI M 35) (mI M 36) (mI M 37) ax mc r (ptb x))), some (.int (nI r)), o5, o6] [] M := by
    refine up_to mc _ ?_ (fun r hr ih => ?_)
    · intro o5 o6
      refine j_il dX6_groupOf_8 rfl ?_
      refine j_aln dX6_groupOf_10 rfl rfl ?_
      refine g_X6_3 dX6_groupOf_11 fl_X6_50 ?_
      refine j_topi hmc ?_
      refine j_icgeN (tgt := 87) dX6_groupOf_14 (by decide) (by omega) (by omega) (fun h14 => ?_) (fun h14 => ?_)
      · refine j_iln dX6_groupOf_87 rfl rfl ?_
        exact j_iret dX6_groupOf_88 rfl rfl (Nat.le_of_ble_eq_true rfl) (Nat.le_of_ble_eq_true rfl) ⟨rfl, rfl⟩
      · exact absurd (Nat.le_refl mc) h14
    · intro o5 o6
      have KJ : ∀ j, j ≤ mc → ∀ (o6 : Option Value), Jd l E RX6 cX6_groupOf 7 (some .int) [] (rmm 2 0 0) (QfN E (dv (.int (grp M mc ax x)) M) 0 0) 0 0 20 [some (.ref (eA E 5 0)), some (.int ax), some (.int x), some (.int (grK (mI M 35) (mI M 36) (mI M 37) ax j (grR (mI M 35) (mI M 36) (mI M 37) ax mc r (ptb x)))), some (.int (nI r)), some (.int (nI j)), o6] [] M := by
        refine up_to mc _ ?_ (fun j hj ihj => ?_)
        · intro o6
          refine j_il dX6_groupOf_20 rfl ?_
          refine j_aln dX6_groupOf_22 rfl rfl ?_
          refine g_X6_3 dX6_groupOf_23 fl_X6_50 ?_
          refine j_topi hmc ?_
          refine j_icgeN (tgt := 81) dX6_groupOf_26 (by decide) (by omega) (by omega) (fun h26 => ?_) (fun h26 => ?_)
          · refine j_incN_4 1 dX6_groupOf_81 rfl (by decide) rfl ?_
            refine j_goto (tgt := 8) dX6_groupOf_84 (by decide) ?_
            exact ih _ _
          · exact absurd (Nat.le_refl mc) h26
        · intro o6
          refine j_il dX6_groupOf_20 rfl ?_
          refine j_aln dX6_groupOf_22 rfl rfl ?_
          refine g_X6_3 dX6_groupOf_23 fl_X6_50 ?_
          refine j_topi hmc ?_
          refine j_icgeN (tgt := 81) dX6_groupOf_26 (by decide) (by omega) (by omega) (fun h26 => ?_) (fun h26 => ?_)
          · exact absurd h26 (by omega)
          · refine j_aln dX6_groupOf_29 rfl rfl ?_
            refine g_X6_6 dX6_groupOf_30 fl_X6_28 ?_
            refine j_il dX6_groupOf_33 rfl ?_
            refine j_aildN dX6_groupOf_35 rfl rfl rfl (by decide) (by omega) ?_
            refine j_S1d mf_X6_bitOf ml_X6_46 dX6_groupOf_36 (Nat.le_of_ble_eq_true rfl) (Nat.le_of_ble_eq_true rfl) (Nat.le_of_ble_eq_true rfl) ⟨(Nat.le_of_ble_eq_true rfl), (Nat.le_of_ble_eq_true rfl)⟩ c_X6_bitOf ?_
            refine j_aln dX6_groupOf_39 rfl rfl ?_
            refine g_X6_7 dX6_groupOf_40 fl_X6_31 ?_
            refine j_il dX6_groupOf_43 rfl ?_
            refine j_aildN dX6_groupOf_45 rfl rfl rfl (by decide) (by omega) ?_
            refine j_S1d mf_X6_bitOf ml_X6_46 dX6_groupOf_46 (Nat.le_of_ble_eq_true rfl) (Nat.le_of_ble_eq_true rfl) (Nat.le_of_ble_eq_true rfl) ⟨(Nat.le_of_ble_eq_true rfl), (Nat.le_of_ble_eq_true rfl)⟩ c_X6_bitOf ?_
            refine j_ior dX6_groupOf_49 ?_
            refine j_ist_6 dX6_groupOf_50 (by decide) rfl ?_
            refine j_aln dX6_groupOf_52 rfl rfl ?_
            refine g_X6_5 dX6_groupOf_53 fl_X6_25 ?_
            refine j_il dX6_groupOf_56 rfl ?_
            refine j_aildN dX6_groupOf_58 rfl rfl rfl (by decide) (by omega) ?_
            refine j_iln dX6_groupOf_59 rfl rfl ?_
            refine j_icne (tgt := 75) dX6_groupOf_60 (by decide) (fun h60 => ?_) (fun h60 => ?_)
            · have hs : grK (mI M 35) (mI M 36) (mI M 37) ax (j + 1) (grR (mI M 35) (mI M 36) (mI M 37) ax mc r (ptb x)) = grK (mI M 35) (mI M 36) (mI M 37) ax j (grR (mI M 35) (mI M 36) (mI M 37) ax mc r (ptb x)) := if_neg (fun q => h60 q.1)
              refine j_incN_5 1 dX6_groupOf_75 rfl (by decide) rfl ?_
              refine j_goto (tgt := 20) dX6_groupOf_78 (by decide) ?_
              rw [hs] at ihj
              exact ihj _
            · refine j_iln dX6_groupOf_63 rfl rfl ?_
              refine j_il dX6_groupOf_64 rfl ?_
              refine j_iand dX6_groupOf_66 ?_
              refine j_ifeq (tgt := 75) dX6_groupOf_67 (by decide) (fun h67 => ?_) (fun h67 => ?_)
              · have hs : grK (mI M 35) (mI M 36) (mI M 37) ax (j + 1) (grR (mI M 35) (mI M 36) (mI M 37) ax mc r (ptb x)) = grK (mI M 35) (mI M 36) (mI M 37) ax j (grR (mI M 35) (mI M 36) (mI M 37) ax mc r (ptb x)) := if_neg (fun q => q.2 h67)
                refine j_incN_5 1 dX6_groupOf_75 rfl (by decide) rfl ?_
                refine j_goto (tgt := 20) dX6_groupOf_78 (by decide) ?_
                rw [hs] at ihj
                exact ihj _
              · have hs : grK (mI M 35) (mI M 36) (mI M 37) ax (j + 1) (grR (mI M 35) (mI M 36) (mI M 37) ax mc r (ptb x)) = grK (mI M 35) (mI M 36) (mI M 37) ax j (grR (mI M 35) (mI M 36) (mI M 37) ax mc r (ptb x)) ||| (ptb (mI M 36 j) ||| ptb (mI M 37 j)) := if_pos ⟨h60, h67⟩
                refine j_iln dX6_groupOf_70 rfl rfl ?_
                refine j_il dX6_groupOf_71 rfl ?_
                refine j_ior dX6_groupOf_73 ?_
                refine j_ist_3 dX6_groupOf_74 (by decide) rfl ?_
                refine j_incN_5 1 dX6_groupOf_75 rfl (by decide) rfl ?_
                refine j_goto (tgt := 20) dX6_groupOf_78 (by decide) ?_
                rw [hs] at ihj
                exact ihj _
      refine j_il dX6_groupOf_8 rfl ?_
      refine j_aln dX6_groupOf_10 rfl rfl ?_
      refine g_X6_3 dX6_groupOf_11 fl_X6_50 ?_
      refine j_topi hmc ?_
      refine j_icgeN (tgt := 87) dX6_groupOf_14 (by decide) (by omega) (by omega) (fun h14 => ?_) (fun h14 => ?_)
      · exact absurd h14 (by omega)
      · refine j_icN 0 dX6_groupOf_17 rfl ?_
        refine j_ist_5 dX6_groupOf_18 (by decide) rfl ?_
        exact KJ 0 (by omega) _
  refine j_iln dX6_groupOf_0 rfl rfl ?_
  refine j_S1d mf_X6_bitOf ml_X6_46 dX6_groupOf_1 (Nat.le_of_ble_eq_true rfl) (Nat.le_of_ble_eq_true rfl) (Nat.le_of_ble_eq_true rfl) ⟨(Nat.le_of_ble_eq_true rfl), (Nat.le_of_ble_eq_true rfl)⟩ c_X6_bitOf ?_
  refine j_ist_3 dX6_groupOf_4 (by decide) rfl ?_
  refine j_icN 0 dX6_groupOf_5 rfl ?_
  refine j_ist_4 dX6_groupOf_6 (by decide) rfl ?_
  exact K 0 (by omega) none none
set_option maxRecDepth 100000 in
set_option maxHeartbeats 4000000 in
theorem c_X6_areTied {l : Launch} {E : Ev} {M : Mm} {mc : Nat} {ax x y : Int32} (hmc : mI M 5 3 = nI mc) (hmc12 : mc ≤ 12) : Ct l E yX6_areTied cX6_areTied 4 (some .boolean) 3 0 0 [.ref (eA E 5 0), .int ax, .int x, .int y] M (dv (.int (bI (tdX M mc ax x y))) M) := by
  refine Ct.of (own := RX6) rfl [some (.ref (eA E 5 0)), some (.int ax), some (.int x), some (.int y)] (by decide) (Nat.le_of_ble_eq_true rfl) rfl ?_
  refine j_aln dX6_areTied_0 rfl rfl ?_
  refine j_iln dX6_areTied_1 rfl rfl ?_
  refine j_iln dX6_areTied_2 rfl rfl ?_
  refine j_V2d mf_X6_groupOf ml_X6_53 dX6_areTied_3 (Nat.le_of_ble_eq_true rfl) (Nat.le_of_ble_eq_true rfl) (Nat.le_of_ble_eq_true rfl) ⟨(Nat.le_of_ble_eq_true rfl), (Nat.le_of_ble_eq_true rfl)⟩ (by first | assumption | decide | (simp only [nv] at *; omega)) rfl rfl (c_X6_groupOf hmc hmc12) ?_
  refine j_iln dX6_areTied_6 rfl rfl ?_
  refine j_S1d mf_X6_bitOf ml_X6_46 dX6_areTied_7 (Nat.le_of_ble_eq_true rfl) (Nat.le_of_ble_eq_true rfl) (Nat.le_of_ble_eq_true rfl) ⟨(Nat.le_of_ble_eq_true rfl), (Nat.le_of_ble_eq_true rfl)⟩ c_X6_bitOf ?_
  refine j_iand dX6_areTied_10 ?_
  refine j_ifeq (tgt := 18) dX6_areTied_11 (by decide) (fun h11 => ?_) (fun h11 => ?_)
  · refine j_icN 0 dX6_areTied_18 rfl ?_
    exact j_iret dX6_areTied_19 rfl (by decide) (Nat.le_of_ble_eq_true rfl) (Nat.le_of_ble_eq_true rfl) ⟨by unfold tdX; first | (rw [decide_eq_true h11]; rfl) | (rw [decide_eq_false (fun q => q h11)]; rfl), rfl⟩
  · refine j_icN 1 dX6_areTied_14 rfl ?_
    refine j_goto (tgt := 19) dX6_areTied_15 (by decide) ?_
    exact j_iret dX6_areTied_19 rfl (by decide) (Nat.le_of_ble_eq_true rfl) (Nat.le_of_ble_eq_true rfl) ⟨by unfold tdX; first | (rw [decide_eq_true h11]; rfl) | (rw [decide_eq_false (fun q => q h11)]; rfl), rfl⟩
set_option maxRecDepth 100000 in
set_option maxHeartbeats 4000000 in
theorem c_X6_slideGroup {l : Launch} {E : Ev} {M : Mm} {cnt a : Nat} {g w : Int32} (hc : mI M 5 2 = nI cnt) (hc6 : cnt ≤ 6) (ha : a < 3) : Ct l E yX6_slideGroup cX6_slideGroup 6 (some .int) 2 0 0 [.ref (eA E 5 0), .int (nI a), .int g, .int w] M (dv (.int (nI (if w = 0 then 0 else slN g cnt))) (sI M 34 (slM (mI M 34) a g w cnt))) := by
  refine Ct.of (own := RX6) rfl [some (.ref (eA E 5 0)), some (.int (nI a)), some (.int g), some (.int w), none, none] (by decide) (Nat.le_of_ble_eq_true rfl) rfl ?_
  have K : ∀ i, i ≤ cnt → (w = 0 → slN g i = 0) → Jd l E RX6 cX6_slideGroup 6 (some .int) [] (rmm 2 0 0) (QfN E (dv (.int (nI (if w = 0 then 0 else slN g cnt))) (sI M 34 (slM (mI M 34) a g w cnt))) 0 0) 0 0 6 [some (.ref (eA E 5 0)), some (.int (nI a)), some (.int g), some (.int w), some (.int (nI (slN g i))), some (.int (nI i))] [] (sI M 34 (slM (mI M 34) a g w i)) := by
    refine up_to cnt _ ?_ (fun i hi ih => ?_)
    · intro hz
      refine j_il dX6_slideGroup_6 rfl ?_
      refine j_aln dX6_slideGroup_8 rfl rfl ?_
      refine g_X6_2 dX6_slideGroup_9 fl_X6_38 ?_
      refine j_topi hc ?_
      refine j_icgeN (tgt := 53) dX6_slideGroup_12 (by decide) (by omega) (by omega) (fun h12 => ?_) (fun h12 => ?_)
      · refine j_il dX6_slideGroup_53 rfl ?_
        exact j_iret dX6_slideGroup_55 rfl rfl (Nat.le_of_ble_eq_true rfl) (Nat.le_of_ble_eq_true rfl) ⟨congrArg (fun q => some (Value.int (nI q))) (sl_v hz), rfl⟩
      · exact absurd (Nat.le_refl cnt) h12
    · intro hz
      refine j_il dX6_slideGroup_6 rfl ?_
      refine j_aln dX6_slideGroup_8 rfl rfl ?_
      refine g_X6_2 dX6_slideGroup_9 fl_X6_38 ?_
      refine j_topi hc ?_
      refine j_icgeN (tgt := 53) dX6_slideGroup_12 (by decide) (by omega) (by omega) (fun h12 => ?_) (fun h12 => ?_)
      · exact absurd h12 (by omega)
      · refine j_iln dX6_slideGroup_15 rfl rfl ?_
        refine j_ifeq (tgt := 53) dX6_slideGroup_16 (by decide) (fun h16 => ?_) (fun h16 => ?_)
        · refine j_il dX6_slideGroup_53 rfl ?_
          exact j_iret dX6_slideGroup_55 rfl rfl (Nat.le_of_ble_eq_true rfl) (Nat.le_of_ble_eq_true rfl) ⟨by rw [if_pos h16, hz h16], by subst h16; rw [slM_z, slM_z]⟩
        · refine j_iln dX6_slideGroup_19 rfl rfl ?_
          refine j_il dX6_slideGroup_20 rfl ?_
          refine j_S1d mf_X6_bitOf ml_X6_46 dX6_slideGroup_22 (Nat.le_of_ble_eq_true rfl) (Nat.le_of_ble_eq_true rfl) (Nat.le_of_ble_eq_true rfl) ⟨(Nat.le_of_ble_eq_true rfl), (Nat.le_of_ble_eq_true rfl)⟩ c_X6_bitOf ?_
          refine j_iand dX6_slideGroup_25 ?_
          refine j_ifeq (tgt := 47) dX6_slideGroup_26 (by decide) (fun h26 => ?_) (fun h26 => ?_)
          · have hs : slN g (i + 1) = slN g i := if_pos h26
            have hm : slM (mI M 34) a g w (i + 1) = slM (mI M 34) a g w i := slM_n h26
            refine j_incN_5 1 dX6_slideGroup_47 rfl (by decide) rfl ?_
            refine j_goto (tgt := 6) dX6_slideGroup_50 (by decide) ?_
            refine j_eq ?_ rfl ?_ (ih (fun q => absurd q h16))
            · rw [hs]
            · first | (rw [hm, sI_sI]; done) | (rw [hm, sI_sI]; rfl) | (rw [hm]; done)
          · have hs : slN g (i + 1) = slN g i + 1 := if_neg h26
            have hm := slM_s (mv := mI M 34) (by_ := w) ha h26
            refine j_aln dX6_slideGroup_29 rfl rfl ?_
            refine g_X6_4 dX6_slideGroup_30 fl_X6_21 ?_
            refine j_il dX6_slideGroup_33 rfl ?_
            refine j_icN 3 dX6_slideGroup_35 rfl ?_
            refine j_imulN dX6_slideGroup_36 ?_
            refine j_iln dX6_slideGroup_37 rfl rfl ?_
            refine j_iaddN dX6_slideGroup_38 ?_
            refine j_dup2 dX6_slideGroup_39 rfl rfl ?_
            refine j_aild (i * 3 + a) dX6_slideGroup_40 rfl rfl rfl rfl (by omega) (by decide) ?_
            refine j_iln dX6_slideGroup_41 rfl rfl ?_
            refine j_iadd dX6_slideGroup_42 ?_
            refine j_aist (i * 3 + a) dX6_slideGroup_43 rfl (fun _ => rfl) rfl rfl (by omega) (by decide) rfl ?_
            refine j_incN_4 1 dX6_slideGroup_44 rfl (by decide) rfl ?_
            refine j_incN_5 1 dX6_slideGroup_47 rfl (by decide) rfl ?_
            refine j_goto (tgt := 6) dX6_slideGroup_50 (by decide) ?_
            refine j_eq ?_ rfl ?_ (ih (fun q => absurd q h16))
            · rw [hs]
            · first | (rw [hm, sI_sI]; done) | (rw [hm, sI_sI]; rfl) | (rw [hm]; done)
  refine j_icN 0 dX6_slideGroup_0 rfl ?_
  refine j_ist_4 dX6_slideGroup_1 (by decide) rfl ?_
  refine j_icN 0 dX6_slideGroup_3 rfl ?_
  refine j_ist_5 dX6_slideGroup_4 (by decide) rfl ?_
  refine j_mem ?_ (K 0 (by omega) (fun _ => rfl))
  rw [slM_0]
  exact (sI_id M 34).symm
