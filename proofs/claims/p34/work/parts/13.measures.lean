/-! Measures and Views -/
def shl1 (x : Int32) : Int32 := x <<< (nI 1 &&& 31)
def mixI (a b : Int32) : Int32 := bci (a ||| shl1 a) - bci (b &&& shl1 b)
def smF (g : Nat → Int32) (a : Int32) : Nat → Int32
  | 0 => a
  | n + 1 => smF g a n + g n
/-- one step of the Euler count -/
def eul1 (f : Nat → Int64) (z : Nat) (n : Int32) (y : Nat) : Int32 :=
  let here := rowI f (nI y) (nI z)
  let behind := rowI f (nI y - nI 1) (nI z)
  let below := rowI f (nI y) (nI z - nI 1)
  let both := rowI f (nI y - nI 1) (nI z - nI 1)
  let any := ((here ||| behind) ||| below) ||| both
  let all := ((here &&& behind) &&& below) &&& both
  (((n + mixI any all) - bci (any &&& (all ^^^ -1))) - mixI (here ||| behind) (here &&& behind)) - mixI (here ||| below) (here &&& below)
def eulY (f : Nat → Int64) (z : Nat) (n : Int32) : Nat → Int32
  | 0 => n
  | y + 1 => eul1 f z (eulY f z n y) y
def eulZ (f : Nat → Int64) (n : Int32) : Nat → Int32
  | 0 => n
  | z + 1 => eulY f z (eulZ f n z) 9
def sqn (f : Nat → Int64) (s : Nat) : Int32 := smI (fun z => bcl (sqa f s z)) 8
def eulN (f : Nat → Int64) : Int32 := eulZ f (smF (sqn f) (nI 0) 6) 9
def balN (f : Nat → Int64) : Bool := (List.range 3).all (fun a => decide (sqn f (2 * a) = sqn f (2 * a + 1)))
theorem balN_t {f : Nat → Int64} (h : ∀ a, a < 3 → sqn f (2 * a) = sqn f (2 * a + 1)) : balN f = true := by simpa [balN, List.all_eq_true] using h
theorem balN_f {f : Nat → Int64} (h : ¬ ∀ a, a < 3 → sqn f (2 * a) = sqn f (2 * a + 1)) : balN f = false := by
  cases e : balN f
  · rfl
  · exact absurd (by simpa [balN, List.all_eq_true] using e) h
set_option maxRecDepth 100000 in
set_option maxHeartbeats 4000000 in
theorem c_X4_isBalanced {l : Launch} {E : Ev} {M : Mm} {c : Nat} (hc : c < nv 7) : Ct l E yX4_isBalanced cX4_isBalanced 2 (some .boolean) 4 0 0 [.ref (eA E 7 c)] M (dv (.int (bI (balN (mL M c)))) M) := by
  refine Ct.of (own := RX4) rfl [some (.ref (eA E 7 c)), none] (by decide) (Nat.le_of_ble_eq_true rfl) rfl ?_
  have K : ∀ i, i ≤ 3 → (∀ a, a < i → sqn (mL M c) (2 * a) = sqn (mL M c) (2 * a + 1)) → Jd l E RX4 cX4_isBalanced 2 (some .boolean) [] (rmm 4 0 0) (QfN E (dv (.int (bI (balN (mL M c)))) M) 0 0) 0 0 2 [some (.ref (eA E 7 c)), some (.int (nI i))] [] M := by
    refine up_to 3 _ ?_ (fun i hi ih => ?_)
    · intro hall
      refine j_iln dX4_isBalanced_2 rfl rfl ?_
      refine j_icN 3 dX4_isBalanced_3 rfl ?_
      refine j_icgeN (tgt := 34) dX4_isBalanced_4 (by decide) (by omega) (by omega) (fun h4 => ?_) (fun h4 => ?_)
      · refine j_icN 1 dX4_isBalanced_34 rfl ?_
        exact j_iret dX4_isBalanced_35 rfl rfl (Nat.le_of_ble_eq_true rfl) (Nat.le_of_ble_eq_true rfl) ⟨by rw [balN_t hall]; rfl, rfl⟩
      · exact absurd (Nat.le_refl 3) h4
    · intro hall
      refine j_iln dX4_isBalanced_2 rfl rfl ?_
      refine j_icN 3 dX4_isBalanced_3 rfl ?_
      refine j_icgeN (tgt := 34) dX4_isBalanced_4 (by decide) (by omega) (by omega) (fun h4 => ?_) (fun h4 => ?_)
      · exact absurd h4 (by omega)
      · refine j_aln dX4_isBalanced_7 rfl rfl ?_
        refine j_icN 2 dX4_isBalanced_8 rfl ?_
        refine j_iln dX4_isBalanced_9 rfl rfl ?_
        refine j_imulN dX4_isBalanced_10 ?_
        refine j_V1d mf_X1_countSquares ml_X4_9 dX4_isBalanced_11 (Nat.le_of_ble_eq_true rfl) (Nat.le_of_ble_eq_true rfl) (Nat.le_of_ble_eq_true rfl) ⟨(Nat.le_of_ble_eq_true rfl), (Nat.le_of_ble_eq_true rfl)⟩ hc rfl rfl (c_X1_countSquares hc (by omega)) ?_
        refine j_aln dX4_isBalanced_14 rfl rfl ?_
        refine j_icN 2 dX4_isBalanced_15 rfl ?_
        refine j_iln dX4_isBalanced_16 rfl rfl ?_
        refine j_imulN dX4_isBalanced_17 ?_
        refine j_icN 1 dX4_isBalanced_18 rfl ?_
        refine j_iaddN dX4_isBalanced_19 ?_
        refine j_V1d mf_X1_countSquares ml_X4_9 dX4_isBalanced_20 (Nat.le_of_ble_eq_true rfl) (Nat.le_of_ble_eq_true rfl) (Nat.le_of_ble_eq_true rfl) ⟨(Nat.le_of_ble_eq_true rfl), (Nat.le_of_ble_eq_true rfl)⟩ hc rfl rfl (c_X1_countSquares hc (by omega)) ?_
        refine j_iceq (tgt := 28) dX4_isBalanced_23 (by decide) (fun h23 => ?_) (fun h23 => ?_)
        · refine j_incN_1 1 dX4_isBalanced_28 rfl (by decide) rfl ?_
          refine j_goto (tgt := 2) dX4_isBalanced_31 (by decide) ?_
          exact ih (fun z hz => by
            rcases Nat.lt_or_ge z i with h | h
            · exact hall z h
            · rw [show z = i by omega]; exact h23)
        · refine j_icN 0 dX4_isBalanced_26 rfl ?_
          exact j_iret dX4_isBalanced_27 rfl rfl (Nat.le_of_ble_eq_true rfl) (Nat.le_of_ble_eq_true rfl) ⟨by rw [balN_f (fun h => h23 (h i hi))]; rfl, rfl⟩
  refine j_icN 0 dX4_isBalanced_0 rfl ?_
  refine j_ist_1 dX4_isBalanced_1 (by decide) rfl ?_
  exact K 0 (by omega) (fun z hz => absurd hz (by omega))
def sa1 (f : Nat → Int64) (a z y : Nat) (n : Int32) (x : Nat) : Int32 := if cel f (nI x) (nI y) (nI z) = true then n + nI (if a = 0 then x else if a = 1 then y else z) else n
def saX (f : Nat → Int64) (a z y : Nat) (n : Int32) : Nat → Int32
  | 0 => n
  | x + 1 => sa1 f a z y (saX f a z y n x) x
def saY (f : Nat → Int64) (a z : Nat) (n : Int32) : Nat → Int32
  | 0 => n
  | y + 1 => saX f a z y (saY f a z n y) 8
def saZ (f : Nat → Int64) (a : Nat) : Nat → Int32
  | 0 => nI 0
  | z + 1 => saY f a z (saZ f a z) 8
set_option maxRecDepth 100000 in
set_option maxHeartbeats 4000000 in
theorem c_X4_sumAlong {l : Launch} {E : Ev} {M : Mm} {c a : Nat} (hc : c < nv 7) (ha : a < 3) : Ct l E yX4_sumAlong cX4_sumAlong 6 (some .int) 3 0 0 [.ref (eA E 7 c), .int (nI a)] M (dv (.int (saZ (mL M c) a 8)) M) := by
  refine Ct.of (own := RX4) rfl [some (.ref (eA E 7 c)), some (.int (nI a)), none, none, none, none] (by decide) (Nat.le_of_ble_eq_true rfl) rfl ?_
  have KZ : ∀ z, z ≤ 8 → ∀ (o4 o5 : Option Value), Jd l E RX4 cX4_sumAlong 6 (some .int) [] (rmm 3 0 0) (QfN E (dv (.int (saZ (mL M c) a 8)) M) 0 0) 0 0 4 [some (.ref (eA E 7 c)), some (.int (nI a)), some (.int (saZ (mL M c) a z)), some (.int (nI z)), o4, o5] [] M := by
    refine up_to 8 _ ?_ (fun z hz ihz => ?_)
    · intro o4 o5
      refine j_iln dX4_sumAlong_4 rfl rfl ?_
      refine j_biN 8 dX4_sumAlong_5 rfl ?_
      refine j_icgeN (tgt := 83) dX4_sumAlong_7 (by decide) (by omega) (by omega) (fun h7 => ?_) (fun h7 => ?_)
      · refine j_iln dX4_sumAlong_83 rfl rfl ?_
        exact j_iret dX4_sumAlong_84 rfl rfl (Nat.le_of_ble_eq_true rfl) (Nat.le_of_ble_eq_true rfl) ⟨rfl, rfl⟩
      · exact absurd (Nat.le_refl 8) h7
    · intro o4 o5
      have KY : ∀ y, y ≤ 8 → ∀ (o5 : Option Value), Jd l E RX4 cX4_sumAlong 6 (some .int) [] (rmm 3 0 0) (QfN E (dv (.int (saZ (mL M c) a 8)) M) 0 0) 0 0 13 [some (.ref (eA E 7 c)), some (.int (nI a)), some (.int (saY (mL M c) a z (saZ (mL M c) a z) y)), some (.int (nI z)), some (.int (nI y)), o5] [] M := by
        refine up_to 8 _ ?_ (fun y hy ihy => ?_)
        · intro o5
          refine j_il dX4_sumAlong_13 rfl ?_
          refine j_biN 8 dX4_sumAlong_15 rfl ?_
          refine j_icgeN (tgt := 77) dX4_sumAlong_17 (by decide) (by omega) (by omega) (fun h17 => ?_) (fun h17 => ?_)
          · refine j_incN_3 1 dX4_sumAlong_77 rfl (by decide) rfl ?_
            refine j_goto (tgt := 4) dX4_sumAlong_80 (by decide) ?_
            exact ihz _ _
          · exact absurd (Nat.le_refl 8) h17
        · intro o5
          have KX : ∀ x, x ≤ 8 → Jd l E RX4 cX4_sumAlong 6 (some .int) [] (rmm 3 0 0) (QfN E (dv (.int (saZ (mL M c) a 8)) M) 0 0) 0 0 23 [some (.ref (eA E 7 c)), some (.int (nI a)), some (.int (saX (mL M c) a z y (saY (mL M c) a z (saZ (mL M c) a z) y) x)), some (.int (nI z)), some (.int (nI y)), some (.int (nI x))] [] M := by
            refine up_to 8 _ ?_ (fun x hx ihx => ?_)
            · refine j_il dX4_sumAlong_23 rfl ?_
              refine j_biN 8 dX4_sumAlong_25 rfl ?_
              refine j_icgeN (tgt := 71) dX4_sumAlong_27 (by decide) (by omega) (by omega) (fun h27 => ?_) (fun h27 => ?_)
              · refine j_incN_4 1 dX4_sumAlong_71 rfl (by decide) rfl ?_
                refine j_goto (tgt := 13) dX4_sumAlong_74 (by decide) ?_
                exact ihy _
              · exact absurd (Nat.le_refl 8) h27
            · refine j_il dX4_sumAlong_23 rfl ?_
              refine j_biN 8 dX4_sumAlong_25 rfl ?_
              refine j_icgeN (tgt := 71) dX4_sumAlong_27 (by decide) (by omega) (by omega) (fun h27 => ?_) (fun h27 => ?_)
              · exact absurd h27 (by omega)
              · refine j_aln dX4_sumAlong_30 rfl rfl ?_
                refine j_il dX4_sumAlong_31 rfl ?_
                refine j_il dX4_sumAlong_33 rfl ?_
                refine j_iln dX4_sumAlong_35 rfl rfl ?_
                refine j_V3d mf_X1_contains ml_X4_29 dX4_sumAlong_36 (Nat.le_of_ble_eq_true rfl) (Nat.le_of_ble_eq_true rfl) (Nat.le_of_ble_eq_true rfl) ⟨(Nat.le_of_ble_eq_true rfl), (Nat.le_of_ble_eq_true rfl)⟩ hc rfl rfl (c_X1_contains hc) ?_
                refine j_ifeq (tgt := 65) dX4_sumAlong_39 (by decide) (fun h39 => ?_) (fun h39 => ?_)
                · refine j_incN_5 1 dX4_sumAlong_65 rfl (by decide) rfl ?_
                  refine j_goto (tgt := 23) dX4_sumAlong_68 (by decide) ?_
                  refine j_eq ?_ rfl rfl ihx
                  simp_all [saX, sa1, bI_ne, bI_eq]
                · refine j_iln dX4_sumAlong_42 rfl rfl ?_
                  refine j_iln dX4_sumAlong_43 rfl rfl ?_
                  refine j_ifneN (tgt := 52) dX4_sumAlong_44 (by decide) (by omega) (fun h44 => ?_) (fun h44 => ?_)
                  · refine j_iln dX4_sumAlong_52 rfl rfl ?_
                    refine j_icN 1 dX4_sumAlong_53 rfl ?_
                    refine j_icneN (tgt := 62) dX4_sumAlong_54 (by decide) (by omega) (by omega) (fun h54 => ?_) (fun h54 => ?_)
                    · refine j_iln dX4_sumAlong_62 rfl rfl ?_
                      refine j_iadd dX4_sumAlong_63 ?_
                      refine j_ist_2 dX4_sumAlong_64 (by decide) rfl ?_
                      refine j_incN_5 1 dX4_sumAlong_65 rfl (by decide) rfl ?_
                      refine j_goto (tgt := 23) dX4_sumAlong_68 (by decide) ?_
                      refine j_eq ?_ rfl rfl ihx
                      simp_all [saX, sa1, bI_ne, bI_eq]
                    · refine j_il dX4_sumAlong_57 rfl ?_
                      refine j_goto (tgt := 63) dX4_sumAlong_59 (by decide) ?_
                      refine j_iadd dX4_sumAlong_63 ?_
                      refine j_ist_2 dX4_sumAlong_64 (by decide) rfl ?_
                      refine j_incN_5 1 dX4_sumAlong_65 rfl (by decide) rfl ?_
                      refine j_goto (tgt := 23) dX4_sumAlong_68 (by decide) ?_
                      refine j_eq ?_ rfl rfl ihx
                      simp_all [saX, sa1, bI_ne, bI_eq]
                  · refine j_il dX4_sumAlong_47 rfl ?_
                    refine j_goto (tgt := 63) dX4_sumAlong_49 (by decide) ?_
                    refine j_iadd dX4_sumAlong_63 ?_
                    refine j_ist_2 dX4_sumAlong_64 (by decide) rfl ?_
                    refine j_incN_5 1 dX4_sumAlong_65 rfl (by decide) rfl ?_
                    refine j_goto (tgt := 23) dX4_sumAlong_68 (by decide) ?_
                    refine j_eq ?_ rfl rfl ihx
                    simp_all [saX, sa1, bI_ne, bI_eq]
          refine j_il dX4_sumAlong_13 rfl ?_
          refine j_biN 8 dX4_sumAlong_15 rfl ?_
          refine j_icgeN (tgt := 77) dX4_sumAlong_17 (by decide) (by omega) (by omega) (fun h17 => ?_) (fun h17 => ?_)
          · exact absurd h17 (by omega)
          · refine j_icN 0 dX4_sumAlong_20 rfl ?_
            refine j_ist_5 dX4_sumAlong_21 (by decide) rfl ?_
            exact KX 0 (by omega)
      refine j_iln dX4_sumAlong_4 rfl rfl ?_
      refine j_biN 8 dX4_sumAlong_5 rfl ?_
      refine j_icgeN (tgt := 83) dX4_sumAlong_7 (by decide) (by omega) (by omega) (fun h7 => ?_) (fun h7 => ?_)
      · exact absurd h7 (by omega)
      · refine j_icN 0 dX4_sumAlong_10 rfl ?_
        refine j_ist_4 dX4_sumAlong_11 (by decide) rfl ?_
        exact KY 0 (by omega) _
  refine j_icN 0 dX4_sumAlong_0 rfl ?_
  refine j_ist_2 dX4_sumAlong_1 (by decide) rfl ?_
  refine j_icN 0 dX4_sumAlong_2 rfl ?_
  refine j_ist_3 dX4_sumAlong_3 (by decide) rfl ?_
  exact KZ 0 (by omega) _ _
def dpc (f : Nat → Int64) (a : Nat) (isUp : Bool) (u v : Int32) (k : Nat) : Bool :=
  cel f (if a = 0 then nI (if isUp then k else 7 - k) else u) (if a = 0 then u else if a = 1 then nI (if isUp then k else 7 - k) else v) (if a = 2 then nI (if isUp then k else 7 - k) else v)
/-- the first of eight, or eight -/
def fst8 (p : Nat → Bool) : Nat := ((List.range 8).find? p).getD 8
theorem find_r {p : Nat → Bool} : ∀ {n k : Nat}, k < n → (∀ j, j < k → p j = false) → p k = true → (List.range n).find? p = some k := by
  intro n k hk h0 h1
  rw [List.find?_eq_some_iff_getElem]
  refine ⟨h1, k, by simpa using hk, by simp, fun j hj => ?_⟩
  simp [h0 j hj]
theorem fst8_t {p : Nat → Bool} {k : Nat} (hk : k < 8) (h0 : ∀ j, j < k → p j = false) (h1 : p k = true) : fst8 p = k := by
  unfold fst8; rw [find_r hk h0 h1]; rfl
theorem fst8_f {p : Nat → Bool} (h0 : ∀ j, j < 8 → p j = false) : fst8 p = 8 := by
  unfold fst8
  rw [List.find?_eq_none.mpr (fun x hx => by rw [h0 x (List.mem_range.mp hx)]; decide)]
  rfl
theorem fst8_le (p : Nat → Bool) : fst8 p ≤ 8 := by
  by_cases h : ∀ j, j < 8 → p j = false
  · rw [fst8_f h]; omega
  · have h2 : ∃ j, j < 8 ∧ p j = true := Classical.byContradiction fun g => h fun j hj => by
      cases e : p j
      · rfl
      · exact absurd ⟨j, hj, e⟩ g
    obtain ⟨j, hj, h3, h4⟩ := fb_first h2
    rw [fst8_t hj (fun i hi => by cases e : p i; rfl; exact absurd e (h4 i hi)) h3]; omega
set_option maxRecDepth 100000 in
set_option maxHeartbeats 4000000 in
theorem c_X7_depthOf {l : Launch} {E : Ev} {M : Mm} {c a : Nat} {isUp : Bool} {u v : Int32} (hc : c < nv 7) (ha : a < 3) : Ct l E yX7_depthOf cX7_depthOf 10 (some .int) 3 0 0 [.ref (eA E 7 c), .int (nI a), .int (bI isUp), .int u, .int v] M (dv (.int (nI (fst8 (dpc (mL M c) a isUp u v)))) M) := by
  refine Ct.of (own := RX7) rfl [some (.ref (eA E 7 c)), some (.int (nI a)), some (.int (bI isUp)), some (.int u), some (.int v), none, none, none, none, none] (by decide) (Nat.le_of_ble_eq_true rfl) rfl ?_
  have K : ∀ k, k ≤ 8 → ∀ (o6 o7 o8 o9 : Option Value), (∀ j, j < k → (dpc (mL M c) a isUp u v) j = false) → Jd l E RX7 cX7_depthOf 10 (some .int) [] (rmm 3 0 0) (QfN E (dv (.int (nI (fst8 (dpc (mL M c) a isUp u v)))) M) 0 0) 0 0 3 [some (.ref (eA E 7 c)), some (.int (nI a)), some (.int (bI isUp)), some (.int u), some (.int v), some (.int (nI k)), o6, o7, o8, o9] [] M := by
    refine up_to 8 _ ?_ (fun k hk ih => ?_)
    · intro o6 o7 o8 o9 hall
      refine j_il dX7_depthOf_3 rfl ?_
      refine j_biN 8 dX7_depthOf_5 rfl ?_
      refine j_icgeN (tgt := 96) dX7_depthOf_7 (by decide) (by omega) (by omega) (fun h7 => ?_) (fun h7 => ?_)
      · refine j_biN 8 dX7_depthOf_96 rfl ?_
        exact j_iret dX7_depthOf_98 rfl rfl (Nat.le_of_ble_eq_true rfl) (Nat.le_of_ble_eq_true rfl) ⟨by rw [fst8_f hall], rfl⟩
      · exact absurd (Nat.le_refl 8) h7
    · intro o6 o7 o8 o9 hall
      refine j_il dX7_depthOf_3 rfl ?_
      refine j_biN 8 dX7_depthOf_5 rfl ?_
      refine j_icgeN (tgt := 96) dX7_depthOf_7 (by decide) (by omega) (by omega) (fun h7 => ?_) (fun h7 => ?_)
      · exact absurd h7 (by omega)
      · refine j_iln dX7_depthOf_10 rfl rfl ?_
        refine j_ifeq (tgt := 19) dX7_depthOf_11 (by decide) (fun h11 => ?_) (fun h11 => ?_)
        · refine j_biN 7 dX7_depthOf_19 rfl ?_
          refine j_il dX7_depthOf_21 rfl ?_
          refine j_isubN dX7_depthOf_23 (by omega) ?_
          refine j_ist_6 dX7_depthOf_24 (by decide) rfl ?_
          refine j_iln dX7_depthOf_26 rfl rfl ?_
          refine j_ifneN (tgt := 35) dX7_depthOf_27 (by decide) (by omega) (fun h27 => ?_) (fun h27 => ?_)
          · refine j_iln dX7_depthOf_35 rfl rfl ?_
            refine j_ist_7 dX7_depthOf_36 (by decide) rfl ?_
            refine j_iln dX7_depthOf_38 rfl rfl ?_
            refine j_ifneN (tgt := 46) dX7_depthOf_39 (by decide) (by omega) (fun h39 => ?_) (fun h39 => ?_)
            · refine j_iln dX7_depthOf_46 rfl rfl ?_
              refine j_icN 1 dX7_depthOf_47 rfl ?_
              refine j_icneN (tgt := 56) dX7_depthOf_48 (by decide) (by omega) (by omega) (fun h48 => ?_) (fun h48 => ?_)
              · refine j_il dX7_depthOf_56 rfl ?_
                refine j_ist_8 dX7_depthOf_58 (by decide) rfl ?_
                refine j_iln dX7_depthOf_60 rfl rfl ?_
                refine j_icN 2 dX7_depthOf_61 rfl ?_
                refine j_icneN (tgt := 70) dX7_depthOf_62 (by decide) (by omega) (by omega) (fun h62 => ?_) (fun h62 => ?_)
                · refine j_il dX7_depthOf_70 rfl ?_
                  refine j_ist_9 dX7_depthOf_72 (by decide) rfl ?_
                  refine j_aln dX7_depthOf_74 rfl rfl ?_
                  refine j_il dX7_depthOf_75 rfl ?_
                  refine j_il dX7_depthOf_77 rfl ?_
                  refine j_il dX7_depthOf_79 rfl ?_
                  refine j_V3d mf_X1_contains ml_X7_9 dX7_depthOf_81 (Nat.le_of_ble_eq_true rfl) (Nat.le_of_ble_eq_true rfl) (Nat.le_of_ble_eq_true rfl) ⟨(Nat.le_of_ble_eq_true rfl), (Nat.le_of_ble_eq_true rfl)⟩ hc rfl rfl (c_X1_contains hc) ?_
                  refine j_ifeq (tgt := 90) dX7_depthOf_84 (by decide) (fun h84 => ?_) (fun h84 => ?_)
                  · refine j_incN_5 1 dX7_depthOf_90 rfl (by decide) rfl ?_
                    refine j_goto (tgt := 3) dX7_depthOf_93 (by decide) ?_
                    refine ih _ _ _ _ (fun j hj => ?_)
                    rcases Nat.lt_or_ge j k with h | h
                    · exact hall j h
                    · rw [show j = k by omega]; have h9 := bI_eq.mp h84; clear ih; simp_all [dpc, bI_ne, bI_eq]
                  · refine j_il dX7_depthOf_87 rfl ?_
                    exact j_iret dX7_depthOf_89 rfl rfl (Nat.le_of_ble_eq_true rfl) (Nat.le_of_ble_eq_true rfl) ⟨by rw [fst8_t hk hall (by have h9 := bI_ne.mp h84; clear ih; simp_all [dpc, bI_ne, bI_eq])], rfl⟩
                · refine j_il dX7_depthOf_65 rfl ?_
                  refine j_goto (tgt := 72) dX7_depthOf_67 (by decide) ?_
                  refine j_ist_9 dX7_depthOf_72 (by decide) rfl ?_
                  refine j_aln dX7_depthOf_74 rfl rfl ?_
                  refine j_il dX7_depthOf_75 rfl ?_
                  refine j_il dX7_depthOf_77 rfl ?_
                  refine j_il dX7_depthOf_79 rfl ?_
                  refine j_V3d mf_X1_contains ml_X7_9 dX7_depthOf_81 (Nat.le_of_ble_eq_true rfl) (Nat.le_of_ble_eq_true rfl) (Nat.le_of_ble_eq_true rfl) ⟨(Nat.le_of_ble_eq_true rfl), (Nat.le_of_ble_eq_true rfl)⟩ hc rfl rfl (c_X1_contains hc) ?_
                  refine j_ifeq (tgt := 90) dX7_depthOf_84 (by decide) (fun h84 => ?_) (fun h84 => ?_)
                  · refine j_incN_5 1 dX7_depthOf_90 rfl (by decide) rfl ?_
                    refine j_goto (tgt := 3) dX7_depthOf_93 (by decide) ?_
                    refine ih _ _ _ _ (fun j hj => ?_)
                    rcases Nat.lt_or_ge j k with h | h
                    · exact hall j h
                    · rw [show j = k by omega]; have h9 := bI_eq.mp h84; clear ih; simp_all [dpc, bI_ne, bI_eq]
                  · refine j_il dX7_depthOf_87 rfl ?_
                    exact j_iret dX7_depthOf_89 rfl rfl (Nat.le_of_ble_eq_true rfl) (Nat.le_of_ble_eq_true rfl) ⟨by rw [fst8_t hk hall (by have h9 := bI_ne.mp h84; clear ih; simp_all [dpc, bI_ne, bI_eq])], rfl⟩
              · refine j_il dX7_depthOf_51 rfl ?_
                refine j_goto (tgt := 58) dX7_depthOf_53 (by decide) ?_
                refine j_ist_8 dX7_depthOf_58 (by decide) rfl ?_
                refine j_iln dX7_depthOf_60 rfl rfl ?_
                refine j_icN 2 dX7_depthOf_61 rfl ?_
                refine j_icneN (tgt := 70) dX7_depthOf_62 (by decide) (by omega) (by omega) (fun h62 => ?_) (fun h62 => ?_)
                · refine j_il dX7_depthOf_70 rfl ?_
                  refine j_ist_9 dX7_depthOf_72 (by decide) rfl ?_
                  refine j_aln dX7_depthOf_74 rfl rfl ?_
                  refine j_il dX7_depthOf_75 rfl ?_
                  refine j_il dX7_depthOf_77 rfl ?_
                  refine j_il dX7_depthOf_79 rfl ?_
                  refine j_V3d mf_X1_contains ml_X7_9 dX7_depthOf_81 (Nat.le_of_ble_eq_true rfl) (Nat.le_of_ble_eq_true rfl) (Nat.le_of_ble_eq_true rfl) ⟨(Nat.le_of_ble_eq_true rfl), (Nat.le_of_ble_eq_true rfl)⟩ hc rfl rfl (c_X1_contains hc) ?_
                  refine j_ifeq (tgt := 90) dX7_depthOf_84 (by decide) (fun h84 => ?_) (fun h84 => ?_)
                  · refine j_incN_5 1 dX7_depthOf_90 rfl (by decide) rfl ?_
                    refine j_goto (tgt := 3) dX7_depthOf_93 (by decide) ?_
                    refine ih _ _ _ _ (fun j hj => ?_)
                    rcases Nat.lt_or_ge j k with h | h
                    · exact hall j h
                    · rw [show j = k by omega]; have h9 := bI_eq.mp h84; clear ih; simp_all [dpc, bI_ne, bI_eq]
                  · refine j_il dX7_depthOf_87 rfl ?_
                    exact j_iret dX7_depthOf_89 rfl rfl (Nat.le_of_ble_eq_true rfl) (Nat.le_of_ble_eq_true rfl) ⟨by rw [fst8_t hk hall (by have h9 := bI_ne.mp h84; clear ih; simp_all [dpc, bI_ne, bI_eq])], rfl⟩
                · refine j_il dX7_depthOf_65 rfl ?_
                  refine j_goto (tgt := 72) dX7_depthOf_67 (by decide) ?_
                  refine j_ist_9 dX7_depthOf_72 (by decide) rfl ?_
                  refine j_aln dX7_depthOf_74 rfl rfl ?_
                  refine j_il dX7_depthOf_75 rfl ?_
                  refine j_il dX7_depthOf_77 rfl ?_
                  refine j_il dX7_depthOf_79 rfl ?_
                  refine j_V3d mf_X1_contains ml_X7_9 dX7_depthOf_81 (Nat.le_of_ble_eq_true rfl) (Nat.le_of_ble_eq_true rfl) (Nat.le_of_ble_eq_true rfl) ⟨(Nat.le_of_ble_eq_true rfl), (Nat.le_of_ble_eq_true rfl)⟩ hc rfl rfl (c_X1_contains hc) ?_
                  refine j_ifeq (tgt := 90) dX7_depthOf_84 (by decide) (fun h84 => ?_) (fun h84 => ?_)
                  · refine j_incN_5 1 dX7_depthOf_90 rfl (by decide) rfl ?_
                    refine j_goto (tgt := 3) dX7_depthOf_93 (by decide) ?_
                    refine ih _ _ _ _ (fun j hj => ?_)
                    rcases Nat.lt_or_ge j k with h | h
                    · exact hall j h
                    · rw [show j = k by omega]; have h9 := bI_eq.mp h84; clear ih; simp_all [dpc, bI_ne, bI_eq]
                  · refine j_il dX7_depthOf_87 rfl ?_
                    exact j_iret dX7_depthOf_89 rfl rfl (Nat.le_of_ble_eq_true rfl) (Nat.le_of_ble_eq_true rfl) ⟨by rw [fst8_t hk hall (by have h9 := bI_ne.mp h84; clear ih; simp_all [dpc, bI_ne, bI_eq])], rfl⟩
            · refine j_iln dX7_depthOf_42 rfl rfl ?_
              refine j_goto (tgt := 58) dX7_depthOf_43 (by decide) ?_
              refine j_ist_8 dX7_depthOf_58 (by decide) rfl ?_
              refine j_iln dX7_depthOf_60 rfl rfl ?_
              refine j_icN 2 dX7_depthOf_61 rfl ?_
              refine j_icneN (tgt := 70) dX7_depthOf_62 (by decide) (by omega) (by omega) (fun h62 => ?_) (fun h62 => ?_)
              · refine j_il dX7_depthOf_70 rfl ?_
                refine j_ist_9 dX7_depthOf_72 (by decide) rfl ?_
                refine j_aln dX7_depthOf_74 rfl rfl ?_
                refine j_il dX7_depthOf_75 rfl ?_
                refine j_il dX7_depthOf_77 rfl ?_
                refine j_il dX7_depthOf_79 rfl ?_
                refine j_V3d mf_X1_contains ml_X7_9 dX7_depthOf_81 (Nat.le_of_ble_eq_true rfl) (Nat.le_of_ble_eq_true rfl) (Nat.le_of_ble_eq_true rfl) ⟨(Nat.le_of_ble_eq_true rfl), (Nat.le_of_ble_eq_true rfl)⟩ hc rfl rfl (c_X1_contains hc) ?_
                refine j_ifeq (tgt := 90) dX7_depthOf_84 (by decide) (fun h84 => ?_) (fun h84 => ?_)
                · refine j_incN_5 1 dX7_depthOf_90 rfl (by decide) rfl ?_
                  refine j_goto (tgt := 3) dX7_depthOf_93 (by decide) ?_
                  refine ih _ _ _ _ (fun j hj => ?_)
                  rcases Nat.lt_or_ge j k with h | h
                  · exact hall j h
                  · rw [show j = k by omega]; have h9 := bI_eq.mp h84; clear ih; simp_all [dpc, bI_ne, bI_eq]
                · refine j_il dX7_depthOf_87 rfl ?_
                  exact j_iret dX7_depthOf_89 rfl rfl (Nat.le_of_ble_eq_true rfl) (Nat.le_of_ble_eq_true rfl) ⟨by rw [fst8_t hk hall (by have h9 := bI_ne.mp h84; clear ih; simp_all [dpc, bI_ne, bI_eq])], rfl⟩
              · refine j_il dX7_depthOf_65 rfl ?_
                refine j_goto (tgt := 72) dX7_depthOf_67 (by decide) ?_
                refine j_ist_9 dX7_depthOf_72 (by decide) rfl ?_
                refine j_aln dX7_depthOf_74 rfl rfl ?_
                refine j_il dX7_depthOf_75 rfl ?_
                refine j_il dX7_depthOf_77 rfl ?_
                refine j_il dX7_depthOf_79 rfl ?_
                refine j_V3d mf_X1_contains ml_X7_9 dX7_depthOf_81 (Nat.le_of_ble_eq_true rfl) (Nat.le_of_ble_eq_true rfl) (Nat.le_of_ble_eq_true rfl) ⟨(Nat.le_of_ble_eq_true rfl), (Nat.le_of_ble_eq_true rfl)⟩ hc rfl rfl (c_X1_contains hc) ?_
                refine j_ifeq (tgt := 90) dX7_depthOf_84 (by decide) (fun h84 => ?_) (fun h84 => ?_)
                · refine j_incN_5 1 dX7_depthOf_90 rfl (by decide) rfl ?_
                  refine j_goto (tgt := 3) dX7_depthOf_93 (by decide) ?_
                  refine ih _ _ _ _ (fun j hj => ?_)
                  rcases Nat.lt_or_ge j k with h | h
                  · exact hall j h
                  · rw [show j = k by omega]; have h9 := bI_eq.mp h84; clear ih; simp_all [dpc, bI_ne, bI_eq]
                · refine j_il dX7_depthOf_87 rfl ?_
                  exact j_iret dX7_depthOf_89 rfl rfl (Nat.le_of_ble_eq_true rfl) (Nat.le_of_ble_eq_true rfl) ⟨by rw [fst8_t hk hall (by have h9 := bI_ne.mp h84; clear ih; simp_all [dpc, bI_ne, bI_eq])], rfl⟩
          · refine j_il dX7_depthOf_30 rfl ?_
            refine j_goto (tgt := 36) dX7_depthOf_32 (by decide) ?_
            refine j_ist_7 dX7_depthOf_36 (by decide) rfl ?_
            refine j_iln dX7_depthOf_38 rfl rfl ?_
            refine j_ifneN (tgt := 46) dX7_depthOf_39 (by decide) (by omega) (fun h39 => ?_) (fun h39 => ?_)
            · refine j_iln dX7_depthOf_46 rfl rfl ?_
              refine j_icN 1 dX7_depthOf_47 rfl ?_
              refine j_icneN (tgt := 56) dX7_depthOf_48 (by decide) (by omega) (by omega) (fun h48 => ?_) (fun h48 => ?_)
              · refine j_il dX7_depthOf_56 rfl ?_
                refine j_ist_8 dX7_depthOf_58 (by decide) rfl ?_
                refine j_iln dX7_depthOf_60 rfl rfl ?_
                refine j_icN 2 dX7_depthOf_61 rfl ?_
                refine j_icneN (tgt := 70) dX7_depthOf_62 (by decide) (by omega) (by omega) (fun h62 => ?_) (fun h62 => ?_)
                · refine j_il dX7_depthOf_70 rfl ?_
                  refine j_ist_9 dX7_depthOf_72 (by decide) rfl ?_
                  refine j_aln dX7_depthOf_74 rfl rfl ?_
                  refine j_il dX7_depthOf_75 rfl ?_
                  refine j_il dX7_depthOf_77 rfl ?_
                  refine j_il dX7_depthOf_79 rfl ?_
                  refine j_V3d mf_X1_contains ml_X7_9 dX7_depthOf_81 (Nat.le_of_ble_eq_true rfl) (Nat.le_of_ble_eq_true rfl) (Nat.le_of_ble_eq_true rfl) ⟨(Nat.le_of_ble_eq_true rfl), (Nat.le_of_ble_eq_true rfl)⟩ hc rfl rfl (c_X1_contains hc) ?_
                  refine j_ifeq (tgt := 90) dX7_depthOf_84 (by decide) (fun h84 => ?_) (fun h84 => ?_)
                  · refine j_incN_5 1 dX7_depthOf_90 rfl (by decide) rfl ?_
                    refine j_goto (tgt := 3) dX7_depthOf_93 (by decide) ?_
                    refine ih _ _ _ _ (fun j hj => ?_)
                    rcases Nat.lt_or_ge j k with h | h
                    · exact hall j h
                    · rw [show j = k by omega]; have h9 := bI_eq.mp h84; clear ih; simp_all [dpc, bI_ne, bI_eq]
                  · refine j_il dX7_depthOf_87 rfl ?_
                    exact j_iret dX7_depthOf_89 rfl rfl (Nat.le_of_ble_eq_true rfl) (Nat.le_of_ble_eq_true rfl) ⟨by rw [fst8_t hk hall (by have h9 := bI_ne.mp h84; clear ih; simp_all [dpc, bI_ne, bI_eq])], rfl⟩
                · refine j_il dX7_depthOf_65 rfl ?_
                  refine j_goto (tgt := 72) dX7_depthOf_67 (by decide) ?_
                  refine j_ist_9 dX7_depthOf_72 (by decide) rfl ?_
                  refine j_aln dX7_depthOf_74 rfl rfl ?_
                  refine j_il dX7_depthOf_75 rfl ?_
                  refine j_il dX7_depthOf_77 rfl ?_
                  refine j_il dX7_depthOf_79 rfl ?_
                  refine j_V3d mf_X1_contains ml_X7_9 dX7_depthOf_81 (Nat.le_of_ble_eq_true rfl) (Nat.le_of_ble_eq_true rfl) (Nat.le_of_ble_eq_true rfl) ⟨(Nat.le_of_ble_eq_true rfl), (Nat.le_of_ble_eq_true rfl)⟩ hc rfl rfl (c_X1_contains hc) ?_
                  refine j_ifeq (tgt := 90) dX7_depthOf_84 (by decide) (fun h84 => ?_) (fun h84 => ?_)
                  · refine j_incN_5 1 dX7_depthOf_90 rfl (by decide) rfl ?_
                    refine j_goto (tgt := 3) dX7_depthOf_93 (by decide) ?_
                    refine ih _ _ _ _ (fun j hj => ?_)
                    rcases Nat.lt_or_ge j k with h | h
                    · exact hall j h
                    · rw [show j = k by omega]; have h9 := bI_eq.mp h84; clear ih; simp_all [dpc, bI_ne, bI_eq]
                  · refine j_il dX7_depthOf_87 rfl ?_
                    exact j_iret dX7_depthOf_89 rfl rfl (Nat.le_of_ble_eq_true rfl) (Nat.le_of_ble_eq_true rfl) ⟨by rw [fst8_t hk hall (by have h9 := bI_ne.mp h84; clear ih; simp_all [dpc, bI_ne, bI_eq])], rfl⟩
              · refine j_il dX7_depthOf_51 rfl ?_
                refine j_goto (tgt := 58) dX7_depthOf_53 (by decide) ?_
                refine j_ist_8 dX7_depthOf_58 (by decide) rfl ?_
                refine j_iln dX7_depthOf_60 rfl rfl ?_
                refine j_icN 2 dX7_depthOf_61 rfl ?_
                refine j_icneN (tgt := 70) dX7_depthOf_62 (by decide) (by omega) (by omega) (fun h62 => ?_) (fun h62 => ?_)
                · refine j_il dX7_depthOf_70 rfl ?_
                  refine j_ist_9 dX7_depthOf_72 (by decide) rfl ?_
                  refine j_aln dX7_depthOf_74 rfl rfl ?_
                  refine j_il dX7_depthOf_75 rfl ?_
                  refine j_il dX7_depthOf_77 rfl ?_
                  refine j_il dX7_depthOf_79 rfl ?_
                  refine j_V3d mf_X1_contains ml_X7_9 dX7_depthOf_81 (Nat.le_of_ble_eq_true rfl) (Nat.le_of_ble_eq_true rfl) (Nat.le_of_ble_eq_true rfl) ⟨(Nat.le_of_ble_eq_true rfl), (Nat.le_of_ble_eq_true rfl)⟩ hc rfl rfl (c_X1_contains hc) ?_
                  refine j_ifeq (tgt := 90) dX7_depthOf_84 (by decide) (fun h84 => ?_) (fun h84 => ?_)
                  · refine j_incN_5 1 dX7_depthOf_90 rfl (by decide) rfl ?_
                    refine j_goto (tgt := 3) dX7_depthOf_93 (by decide) ?_
                    refine ih _ _ _ _ (fun j hj => ?_)
                    rcases Nat.lt_or_ge j k with h | h
                    · exact hall j h
                    · rw [show j = k by omega]; have h9 := bI_eq.mp h84; clear ih; simp_all [dpc, bI_ne, bI_eq]
                  · refine j_il dX7_depthOf_87 rfl ?_
                    exact j_iret dX7_depthOf_89 rfl rfl (Nat.le_of_ble_eq_true rfl) (Nat.le_of_ble_eq_true rfl) ⟨by rw [fst8_t hk hall (by have h9 := bI_ne.mp h84; clear ih; simp_all [dpc, bI_ne, bI_eq])], rfl⟩
                · refine j_il dX7_depthOf_65 rfl ?_
                  refine j_goto (tgt := 72) dX7_depthOf_67 (by decide) ?_
                  refine j_ist_9 dX7_depthOf_72 (by decide) rfl ?_
                  refine j_aln dX7_depthOf_74 rfl rfl ?_
                  refine j_il dX7_depthOf_75 rfl ?_
                  refine j_il dX7_depthOf_77 rfl ?_
                  refine j_il dX7_depthOf_79 rfl ?_
                  refine j_V3d mf_X1_contains ml_X7_9 dX7_depthOf_81 (Nat.le_of_ble_eq_true rfl) (Nat.le_of_ble_eq_true rfl) (Nat.le_of_ble_eq_true rfl) ⟨(Nat.le_of_ble_eq_true rfl), (Nat.le_of_ble_eq_true rfl)⟩ hc rfl rfl (c_X1_contains hc) ?_
                  refine j_ifeq (tgt := 90) dX7_depthOf_84 (by decide) (fun h84 => ?_) (fun h84 => ?_)
                  · refine j_incN_5 1 dX7_depthOf_90 rfl (by decide) rfl ?_
                    refine j_goto (tgt := 3) dX7_depthOf_93 (by decide) ?_
                    refine ih _ _ _ _ (fun j hj => ?_)
                    rcases Nat.lt_or_ge j k with h | h
                    · exact hall j h
                    · rw [show j = k by omega]; have h9 := bI_eq.mp h84; clear ih; simp_all [dpc, bI_ne, bI_eq]
                  · refine j_il dX7_depthOf_87 rfl ?_
                    exact j_iret dX7_depthOf_89 rfl rfl (Nat.le_of_ble_eq_true rfl) (Nat.le_of_ble_eq_true rfl) ⟨by rw [fst8_t hk hall (by have h9 := bI_ne.mp h84; clear ih; simp_all [dpc, bI_ne, bI_eq])], rfl⟩
            · refine j_iln dX7_depthOf_42 rfl rfl ?_
              refine j_goto (tgt := 58) dX7_depthOf_43 (by decide) ?_
              refine j_ist_8 dX7_depthOf_58 (by decide) rfl ?_
              refine j_iln dX7_depthOf_60 rfl rfl ?_
              refine j_icN 2 dX7_depthOf_61 rfl ?_
              refine j_icneN (tgt := 70) dX7_depthOf_62 (by decide) (by omega) (by omega) (fun h62 => ?_) (fun h62 => ?_)
              · refine j_il dX7_depthOf_70 rfl ?_
                refine j_ist_9 dX7_depthOf_72 (by decide) rfl ?_
                refine j_aln dX7_depthOf_74 rfl rfl ?_
                refine j_il dX7_depthOf_75 rfl ?_
                refine j_il dX7_depthOf_77 rfl ?_
                refine j_il dX7_depthOf_79 rfl ?_
                refine j_V3d mf_X1_contains ml_X7_9 dX7_depthOf_81 (Nat.le_of_ble_eq_true rfl) (Nat.le_of_ble_eq_true rfl) (Nat.le_of_ble_eq_true rfl) ⟨(Nat.le_of_ble_eq_true rfl), (Nat.le_of_ble_eq_true rfl)⟩ hc rfl rfl (c_X1_contains hc) ?_
                refine j_ifeq (tgt := 90) dX7_depthOf_84 (by decide) (fun h84 => ?_) (fun h84 => ?_)
                · refine j_incN_5 1 dX7_depthOf_90 rfl (by decide) rfl ?_
                  refine j_goto (tgt := 3) dX7_depthOf_93 (by decide) ?_
                  refine ih _ _ _ _ (fun j hj => ?_)
                  rcases Nat.lt_or_ge j k with h | h
                  · exact hall j h
                  · rw [show j = k by omega]; have h9 := bI_eq.mp h84; clear ih; simp_all [dpc, bI_ne, bI_eq]
                · refine j_il dX7_depthOf_87 rfl ?_
                  exact j_iret dX7_depthOf_89 rfl rfl (Nat.le_of_ble_eq_true rfl) (Nat.le_of_ble_eq_true rfl) ⟨by rw [fst8_t hk hall (by have h9 := bI_ne.mp h84; clear ih; simp_all [dpc, bI_ne, bI_eq])], rfl⟩
              · refine j_il dX7_depthOf_65 rfl ?_
                refine j_goto (tgt := 72) dX7_depthOf_67 (by decide) ?_
                refine j_ist_9 dX7_depthOf_72 (by decide) rfl ?_
                refine j_aln dX7_depthOf_74 rfl rfl ?_
                refine j_il dX7_depthOf_75 rfl ?_
                refine j_il dX7_depthOf_77 rfl ?_
                refine j_il dX7_depthOf_79 rfl ?_
                refine j_V3d mf_X1_contains ml_X7_9 dX7_depthOf_81 (Nat.le_of_ble_eq_true rfl) (Nat.le_of_ble_eq_true rfl) (Nat.le_of_ble_eq_true rfl) ⟨(Nat.le_of_ble_eq_true rfl), (Nat.le_of_ble_eq_true rfl)⟩ hc rfl rfl (c_X1_contains hc) ?_
                refine j_ifeq (tgt := 90) dX7_depthOf_84 (by decide) (fun h84 => ?_) (fun h84 => ?_)
                · refine j_incN_5 1 dX7_depthOf_90 rfl (by decide) rfl ?_
                  refine j_goto (tgt := 3) dX7_depthOf_93 (by decide) ?_
                  refine ih _ _ _ _ (fun j hj => ?_)
                  rcases Nat.lt_or_ge j k with h | h
                  · exact hall j h
                  · rw [show j = k by omega]; have h9 := bI_eq.mp h84; clear ih; simp_all [dpc, bI_ne, bI_eq]
                · refine j_il dX7_depthOf_87 rfl ?_
                  exact j_iret dX7_depthOf_89 rfl rfl (Nat.le_of_ble_eq_true rfl) (Nat.le_of_ble_eq_true rfl) ⟨by rw [fst8_t hk hall (by have h9 := bI_ne.mp h84; clear ih; simp_all [dpc, bI_ne, bI_eq])], rfl⟩
        · refine j_il dX7_depthOf_14 rfl ?_
          refine j_goto (tgt := 24) dX7_depthOf_16 (by decide) ?_
          refine j_ist_6 dX7_depthOf_24 (by decide) rfl ?_
          refine j_iln dX7_depthOf_26 rfl rfl ?_
          refine j_ifneN (tgt := 35) dX7_depthOf_27 (by decide) (by omega) (fun h27 => ?_) (fun h27 => ?_)
          · refine j_iln dX7_depthOf_35 rfl rfl ?_
            refine j_ist_7 dX7_depthOf_36 (by decide) rfl ?_
            refine j_iln dX7_depthOf_38 rfl rfl ?_
            refine j_ifneN (tgt := 46) dX7_depthOf_39 (by decide) (by omega) (fun h39 => ?_) (fun h39 => ?_)
            · refine j_iln dX7_depthOf_46 rfl rfl ?_
              refine j_icN 1 dX7_depthOf_47 rfl ?_
              refine j_icneN (tgt := 56) dX7_depthOf_48 (by decide) (by omega) (by omega) (fun h48 => ?_) (fun h48 => ?_)
              · refine j_il dX7_depthOf_56 rfl ?_
                refine j_ist_8 dX7_depthOf_58 (by decide) rfl ?_
                refine j_iln dX7_depthOf_60 rfl rfl ?_
                refine j_icN 2 dX7_depthOf_61 rfl ?_
                refine j_icneN (tgt := 70) dX7_depthOf_62 (by decide) (by omega) (by omega) (fun h62 => ?_) (fun h62 => ?_)
                · refine j_il dX7_depthOf_70 rfl ?_
                  refine j_ist_9 dX7_depthOf_72 (by decide) rfl ?_
                  refine j_aln dX7_depthOf_74 rfl rfl ?_
                  refine j_il dX7_depthOf_75 rfl ?_
                  refine j_il dX7_depthOf_77 rfl ?_
                  refine j_il dX7_depthOf_79 rfl ?_
                  refine j_V3d mf_X1_contains ml_X7_9 dX7_depthOf_81 (Nat.le_of_ble_eq_true rfl) (Nat.le_of_ble_eq_true rfl) (Nat.le_of_ble_eq_true rfl) ⟨(Nat.le_of_ble_eq_true rfl), (Nat.le_of_ble_eq_true rfl)⟩ hc rfl rfl (c_X1_contains hc) ?_
                  refine j_ifeq (tgt := 90) dX7_depthOf_84 (by decide) (fun h84 => ?_) (fun h84 => ?_)
                  · refine j_incN_5 1 dX7_depthOf_90 rfl (by decide) rfl ?_
                    refine j_goto (tgt := 3) dX7_depthOf_93 (by decide) ?_
                    refine ih _ _ _ _ (fun j hj => ?_)
                    rcases Nat.lt_or_ge j k with h | h
                    · exact hall j h
                    · rw [show j = k by omega]; have h9 := bI_eq.mp h84; clear ih; simp_all [dpc, bI_ne, bI_eq]
                  · refine j_il dX7_depthOf_87 rfl ?_
                    exact j_iret dX7_depthOf_89 rfl rfl (Nat.le_of_ble_eq_true rfl) (Nat.le_of_ble_eq_true rfl) ⟨by rw [fst8_t hk hall (by have h9 := bI_ne.mp h84; clear ih; simp_all [dpc, bI_ne, bI_eq])], rfl⟩
                · refine j_il dX7_depthOf_65 rfl ?_
                  refine j_goto (tgt := 72) dX7_depthOf_67 (by decide) ?_
                  refine j_ist_9 dX7_depthOf_72 (by decide) rfl ?_
                  refine j_aln dX7_depthOf_74 rfl rfl ?_
                  refine j_il dX7_depthOf_75 rfl ?_
                  refine j_il dX7_depthOf_77 rfl ?_
                  refine j_il dX7_depthOf_79 rfl ?_
                  refine j_V3d mf_X1_contains ml_X7_9 dX7_depthOf_81 (Nat.le_of_ble_eq_true rfl) (Nat.le_of_ble_eq_true rfl) (Nat.le_of_ble_eq_true rfl) ⟨(Nat.le_of_ble_eq_true rfl), (Nat.le_of_ble_eq_true rfl)⟩ hc rfl rfl (c_X1_contains hc) ?_
                  refine j_ifeq (tgt := 90) dX7_depthOf_84 (by decide) (fun h84 => ?_) (fun h84 => ?_)
                  · refine j_incN_5 1 dX7_depthOf_90 rfl (by decide) rfl ?_
                    refine j_goto (tgt := 3) dX7_depthOf_93 (by decide) ?_
                    refine ih _ _ _ _ (fun j hj => ?_)
                    rcases Nat.lt_or_ge j k with h | h
                    · exact hall j h
                    · rw [show j = k by omega]; have h9 := bI_eq.mp h84; clear ih; simp_all [dpc, bI_ne, bI_eq]
                  · refine j_il dX7_depthOf_87 rfl ?_
                    exact j_iret dX7_depthOf_89 rfl rfl (Nat.le_of_ble_eq_true rfl) (Nat.le_of_ble_eq_true rfl) ⟨by rw [fst8_t hk hall (by have h9 := bI_ne.mp h84; clear ih; simp_all [dpc, bI_ne, bI_eq])], rfl⟩
              · refine j_il dX7_depthOf_51 rfl ?_
                refine j_goto (tgt := 58) dX7_depthOf_53 (by decide) ?_
                refine j_ist_8 dX7_depthOf_58 (by decide) rfl ?_
                refine j_iln dX7_depthOf_60 rfl rfl ?_
                refine j_icN 2 dX7_depthOf_61 rfl ?_
                refine j_icneN (tgt := 70) dX7_depthOf_62 (by decide) (by omega) (by omega) (fun h62 => ?_) (fun h62 => ?_)
                · refine j_il dX7_depthOf_70 rfl ?_
                  refine j_ist_9 dX7_depthOf_72 (by decide) rfl ?_
                  refine j_aln dX7_depthOf_74 rfl rfl ?_
                  refine j_il dX7_depthOf_75 rfl ?_
                  refine j_il dX7_depthOf_77 rfl ?_
                  refine j_il dX7_depthOf_79 rfl ?_
                  refine j_V3d mf_X1_contains ml_X7_9 dX7_depthOf_81 (Nat.le_of_ble_eq_true rfl) (Nat.le_of_ble_eq_true rfl) (Nat.le_of_ble_eq_true rfl) ⟨(Nat.le_of_ble_eq_true rfl), (Nat.le_of_ble_eq_true rfl)⟩ hc rfl rfl (c_X1_contains hc) ?_
                  refine j_ifeq (tgt := 90) dX7_depthOf_84 (by decide) (fun h84 => ?_) (fun h84 => ?_)
                  · refine j_incN_5 1 dX7_depthOf_90 rfl (by decide) rfl ?_
                    refine j_goto (tgt := 3) dX7_depthOf_93 (by decide) ?_
                    refine ih _ _ _ _ (fun j hj => ?_)
                    rcases Nat.lt_or_ge j k with h | h
                    · exact hall j h
                    · rw [show j = k by omega]; have h9 := bI_eq.mp h84; clear ih; simp_all [dpc, bI_ne, bI_eq]
                  · refine j_il dX7_depthOf_87 rfl ?_
                    exact j_iret dX7_depthOf_89 rfl rfl (Nat.le_of_ble_eq_true rfl) (Nat.le_of_ble_eq_true rfl) ⟨by rw [fst8_t hk hall (by have h9 := bI_ne.mp h84; clear ih; simp_all [dpc, bI_ne, bI_eq])], rfl⟩
                · refine j_il dX7_depthOf_65 rfl ?_
                  refine j_goto (tgt := 72) dX7_depthOf_67 (by decide) ?_
                  refine j_ist_9 dX7_depthOf_72 (by decide) rfl ?_
                  refine j_aln dX7_depthOf_74 rfl rfl ?_
                  refine j_il dX7_depthOf_75 rfl ?_
                  refine j_il dX7_depthOf_77 rfl ?_
                  refine j_il dX7_depthOf_79 rfl ?_
                  refine j_V3d mf_X1_contains ml_X7_9 dX7_depthOf_81 (Nat.le_of_ble_eq_true rfl) (Nat.le_of_ble_eq_true rfl) (Nat.le_of_ble_eq_true rfl) ⟨(Nat.le_of_ble_eq_true rfl), (Nat.le_of_ble_eq_true rfl)⟩ hc rfl rfl (c_X1_contains hc) ?_
                  refine j_ifeq (tgt := 90) dX7_depthOf_84 (by decide) (fun h84 => ?_) (fun h84 => ?_)
                  · refine j_incN_5 1 dX7_depthOf_90 rfl (by decide) rfl ?_
                    refine j_goto (tgt := 3) dX7_depthOf_93 (by decide) ?_
                    refine ih _ _ _ _ (fun j hj => ?_)
                    rcases Nat.lt_or_ge j k with h | h
                    · exact hall j h
                    · rw [show j = k by omega]; have h9 := bI_eq.mp h84; clear ih; simp_all [dpc, bI_ne, bI_eq]
                  · refine j_il dX7_depthOf_87 rfl ?_
                    exact j_iret dX7_depthOf_89 rfl rfl (Nat.le_of_ble_eq_true rfl) (Nat.le_of_ble_eq_true rfl) ⟨by rw [fst8_t hk hall (by have h9 := bI_ne.mp h84; clear ih; simp_all [dpc, bI_ne, bI_eq])], rfl⟩
            · refine j_iln dX7_depthOf_42 rfl rfl ?_
              refine j_goto (tgt := 58) dX7_depthOf_43 (by decide) ?_
              refine j_ist_8 dX7_depthOf_58 (by decide) rfl ?_
              refine j_iln dX7_depthOf_60 rfl rfl ?_
              refine j_icN 2 dX7_depthOf_61 rfl ?_
              refine j_icneN (tgt := 70) dX7_depthOf_62 (by decide) (by omega) (by omega) (fun h62 => ?_) (fun h62 => ?_)
              · refine j_il dX7_depthOf_70 rfl ?_
                refine j_ist_9 dX7_depthOf_72 (by decide) rfl ?_
                refine j_aln dX7_depthOf_74 rfl rfl ?_
                refine j_il dX7_depthOf_75 rfl ?_
                refine j_il dX7_depthOf_77 rfl ?_
                refine j_il dX7_depthOf_79 rfl ?_
                refine j_V3d mf_X1_contains ml_X7_9 dX7_depthOf_81 (Nat.le_of_ble_eq_true rfl) (Nat.le_of_ble_eq_true rfl) (Nat.le_of_ble_eq_true rfl) ⟨(Nat.le_of_ble_eq_true rfl), (Nat.le_of_ble_eq_true rfl)⟩ hc rfl rfl (c_X1_contains hc) ?_
                refine j_ifeq (tgt := 90) dX7_depthOf_84 (by decide) (fun h84 => ?_) (fun h84 => ?_)
                · refine j_incN_5 1 dX7_depthOf_90 rfl (by decide) rfl ?_
                  refine j_goto (tgt := 3) dX7_depthOf_93 (by decide) ?_
                  refine ih _ _ _ _ (fun j hj => ?_)
                  rcases Nat.lt_or_ge j k with h | h
                  · exact hall j h
                  · rw [show j = k by omega]; have h9 := bI_eq.mp h84; clear ih; simp_all [dpc, bI_ne, bI_eq]
                · refine j_il dX7_depthOf_87 rfl ?_
                  exact j_iret dX7_depthOf_89 rfl rfl (Nat.le_of_ble_eq_true rfl) (Nat.le_of_ble_eq_true rfl) ⟨by rw [fst8_t hk hall (by have h9 := bI_ne.mp h84; clear ih; simp_all [dpc, bI_ne, bI_eq])], rfl⟩
              · refine j_il dX7_depthOf_65 rfl ?_
                refine j_goto (tgt := 72) dX7_depthOf_67 (by decide) ?_
                refine j_ist_9 dX7_depthOf_72 (by decide) rfl ?_
                refine j_aln dX7_depthOf_74 rfl rfl ?_
                refine j_il dX7_depthOf_75 rfl ?_
                refine j_il dX7_depthOf_77 rfl ?_
                refine j_il dX7_depthOf_79 rfl ?_
                refine j_V3d mf_X1_contains ml_X7_9 dX7_depthOf_81 (Nat.le_of_ble_eq_true rfl) (Nat.le_of_ble_eq_true rfl) (Nat.le_of_ble_eq_true rfl) ⟨(Nat.le_of_ble_eq_true rfl), (Nat.le_of_ble_eq_true rfl)⟩ hc rfl rfl (c_X1_contains hc) ?_
                refine j_ifeq (tgt := 90) dX7_depthOf_84 (by decide) (fun h84 => ?_) (fun h84 => ?_)
                · refine j_incN_5 1 dX7_depthOf_90 rfl (by decide) rfl ?_
                  refine j_goto (tgt := 3) dX7_depthOf_93 (by decide) ?_
                  refine ih _ _ _ _ (fun j hj => ?_)
                  rcases Nat.lt_or_ge j k with h | h
                  · exact hall j h
                  · rw [show j = k by omega]; have h9 := bI_eq.mp h84; clear ih; simp_all [dpc, bI_ne, bI_eq]
                · refine j_il dX7_depthOf_87 rfl ?_
                  exact j_iret dX7_depthOf_89 rfl rfl (Nat.le_of_ble_eq_true rfl) (Nat.le_of_ble_eq_true rfl) ⟨by rw [fst8_t hk hall (by have h9 := bI_ne.mp h84; clear ih; simp_all [dpc, bI_ne, bI_eq])], rfl⟩
          · refine j_il dX7_depthOf_30 rfl ?_
            refine j_goto (tgt := 36) dX7_depthOf_32 (by decide) ?_
            refine j_ist_7 dX7_depthOf_36 (by decide) rfl ?_
            refine j_iln dX7_depthOf_38 rfl rfl ?_
            refine j_ifneN (tgt := 46) dX7_depthOf_39 (by decide) (by omega) (fun h39 => ?_) (fun h39 => ?_)
            · refine j_iln dX7_depthOf_46 rfl rfl ?_
              refine j_icN 1 dX7_depthOf_47 rfl ?_
              refine j_icneN (tgt := 56) dX7_depthOf_48 (by decide) (by omega) (by omega) (fun h48 => ?_) (fun h48 => ?_)
              · refine j_il dX7_depthOf_56 rfl ?_
                refine j_ist_8 dX7_depthOf_58 (by decide) rfl ?_
                refine j_iln dX7_depthOf_60 rfl rfl ?_
                refine j_icN 2 dX7_depthOf_61 rfl ?_
                refine j_icneN (tgt := 70) dX7_depthOf_62 (by decide) (by omega) (by omega) (fun h62 => ?_) (fun h62 => ?_)
                · refine j_il dX7_depthOf_70 rfl ?_
                  refine j_ist_9 dX7_depthOf_72 (by decide) rfl ?_
                  refine j_aln dX7_depthOf_74 rfl rfl ?_
                  refine j_il dX7_depthOf_75 rfl ?_
                  refine j_il dX7_depthOf_77 rfl ?_
                  refine j_il dX7_depthOf_79 rfl ?_
                  refine j_V3d mf_X1_contains ml_X7_9 dX7_depthOf_81 (Nat.le_of_ble_eq_true rfl) (Nat.le_of_ble_eq_true rfl) (Nat.le_of_ble_eq_true rfl) ⟨(Nat.le_of_ble_eq_true rfl), (Nat.le_of_ble_eq_true rfl)⟩ hc rfl rfl (c_X1_contains hc) ?_
                  refine j_ifeq (tgt := 90) dX7_depthOf_84 (by decide) (fun h84 => ?_) (fun h84 => ?_)
                  · refine j_incN_5 1 dX7_depthOf_90 rfl (by decide) rfl ?_
                    refine j_goto (tgt := 3) dX7_depthOf_93 (by decide) ?_
                    refine ih _ _ _ _ (fun j hj => ?_)
                    rcases Nat.lt_or_ge j k with h | h
                    · exact hall j h
                    · rw [show j = k by omega]; have h9 := bI_eq.mp h84; clear ih; simp_all [dpc, bI_ne, bI_eq]
                  · refine j_il dX7_depthOf_87 rfl ?_
                    exact j_iret dX7_depthOf_89 rfl rfl (Nat.le_of_ble_eq_true rfl) (Nat.le_of_ble_eq_true rfl) ⟨by rw [fst8_t hk hall (by have h9 := bI_ne.mp h84; clear ih; simp_all [dpc, bI_ne, bI_eq])], rfl⟩
                · refine j_il dX7_depthOf_65 rfl ?_
                  refine j_goto (tgt := 72) dX7_depthOf_67 (by decide) ?_
                  refine j_ist_9 dX7_depthOf_72 (by decide) rfl ?_
                  refine j_aln dX7_depthOf_74 rfl rfl ?_
                  refine j_il dX7_depthOf_75 rfl ?_
                  refine j_il dX7_depthOf_77 rfl ?_
                  refine j_il dX7_depthOf_79 rfl ?_
                  refine j_V3d mf_X1_contains ml_X7_9 dX7_depthOf_81 (Nat.le_of_ble_eq_true rfl) (Nat.le_of_ble_eq_true rfl) (Nat.le_of_ble_eq_true rfl) ⟨(Nat.le_of_ble_eq_true rfl), (Nat.le_of_ble_eq_true rfl)⟩ hc rfl rfl (c_X1_contains hc) ?_
                  refine j_ifeq (tgt := 90) dX7_depthOf_84 (by decide) (fun h84 => ?_) (fun h84 => ?_)
                  · refine j_incN_5 1 dX7_depthOf_90 rfl (by decide) rfl ?_
                    refine j_goto (tgt := 3) dX7_depthOf_93 (by decide) ?_
                    refine ih _ _ _ _ (fun j hj => ?_)
                    rcases Nat.lt_or_ge j k with h | h
                    · exact hall j h
                    · rw [show j = k by omega]; have h9 := bI_eq.mp h84; clear ih; simp_all [dpc, bI_ne, bI_eq]
                  · refine j_il dX7_depthOf_87 rfl ?_
                    exact j_iret dX7_depthOf_89 rfl rfl (Nat.le_of_ble_eq_true rfl) (Nat.le_of_ble_eq_true rfl) ⟨by rw [fst8_t hk hall (by have h9 := bI_ne.mp h84; clear ih; simp_all [dpc, bI_ne, bI_eq])], rfl⟩
              · refine j_il dX7_depthOf_51 rfl ?_
                refine j_goto (tgt := 58) dX7_depthOf_53 (by decide) ?_
                refine j_ist_8 dX7_depthOf_58 (by decide) rfl ?_
                refine j_iln dX7_depthOf_60 rfl rfl ?_
                refine j_icN 2 dX7_depthOf_61 rfl ?_
                refine j_icneN (tgt := 70) dX7_depthOf_62 (by decide) (by omega) (by omega) (fun h62 => ?_) (fun h62 => ?_)
                · refine j_il dX7_depthOf_70 rfl ?_
                  refine j_ist_9 dX7_depthOf_72 (by decide) rfl ?_
                  refine j_aln dX7_depthOf_74 rfl rfl ?_
                  refine j_il dX7_depthOf_75 rfl ?_
                  refine j_il dX7_depthOf_77 rfl ?_
                  refine j_il dX7_depthOf_79 rfl ?_
                  refine j_V3d mf_X1_contains ml_X7_9 dX7_depthOf_81 (Nat.le_of_ble_eq_true rfl) (Nat.le_of_ble_eq_true rfl) (Nat.le_of_ble_eq_true rfl) ⟨(Nat.le_of_ble_eq_true rfl), (Nat.le_of_ble_eq_true rfl)⟩ hc rfl rfl (c_X1_contains hc) ?_
                  refine j_ifeq (tgt := 90) dX7_depthOf_84 (by decide) (fun h84 => ?_) (fun h84 => ?_)
                  · refine j_incN_5 1 dX7_depthOf_90 rfl (by decide) rfl ?_
                    refine j_goto (tgt := 3) dX7_depthOf_93 (by decide) ?_
                    refine ih _ _ _ _ (fun j hj => ?_)
                    rcases Nat.lt_or_ge j k with h | h
                    · exact hall j h
                    · rw [show j = k by omega]; have h9 := bI_eq.mp h84; clear ih; simp_all [dpc, bI_ne, bI_eq]
                  · refine j_il dX7_depthOf_87 rfl ?_
                    exact j_iret dX7_depthOf_89 rfl rfl (Nat.le_of_ble_eq_true rfl) (Nat.le_of_ble_eq_true rfl) ⟨by rw [fst8_t hk hall (by have h9 := bI_ne.mp h84; clear ih; simp_all [dpc, bI_ne, bI_eq])], rfl⟩
                · refine j_il dX7_depthOf_65 rfl ?_
                  refine j_goto (tgt := 72) dX7_depthOf_67 (by decide) ?_
                  refine j_ist_9 dX7_depthOf_72 (by decide) rfl ?_
                  refine j_aln dX7_depthOf_74 rfl rfl ?_
                  refine j_il dX7_depthOf_75 rfl ?_
                  refine j_il dX7_depthOf_77 rfl ?_
                  refine j_il dX7_depthOf_79 rfl ?_
                  refine j_V3d mf_X1_contains ml_X7_9 dX7_depthOf_81 (Nat.le_of_ble_eq_true rfl) (Nat.le_of_ble_eq_true rfl) (Nat.le_of_ble_eq_true rfl) ⟨(Nat.le_of_ble_eq_true rfl), (Nat.le_of_ble_eq_true rfl)⟩ hc rfl rfl (c_X1_contains hc) ?_
                  refine j_ifeq (tgt := 90) dX7_depthOf_84 (by decide) (fun h84 => ?_) (fun h84 => ?_)
                  · refine j_incN_5 1 dX7_depthOf_90 rfl (by decide) rfl ?_
                    refine j_goto (tgt := 3) dX7_depthOf_93 (by decide) ?_
                    refine ih _ _ _ _ (fun j hj => ?_)
                    rcases Nat.lt_or_ge j k with h | h
                    · exact hall j h
                    · rw [show j = k by omega]; have h9 := bI_eq.mp h84; clear ih; simp_all [dpc, bI_ne, bI_eq]
                  · refine j_il dX7_depthOf_87 rfl ?_
                    exact j_iret dX7_depthOf_89 rfl rfl (Nat.le_of_ble_eq_true rfl) (Nat.le_of_ble_eq_true rfl) ⟨by rw [fst8_t hk hall (by have h9 := bI_ne.mp h84; clear ih; simp_all [dpc, bI_ne, bI_eq])], rfl⟩
            · refine j_iln dX7_depthOf_42 rfl rfl ?_
              refine j_goto (tgt := 58) dX7_depthOf_43 (by decide) ?_
              refine j_ist_8 dX7_depthOf_58 (by decide) rfl ?_
              refine j_iln dX7_depthOf_60 rfl rfl ?_
              refine j_icN 2 dX7_depthOf_61 rfl ?_
              refine j_icneN (tgt := 70) dX7_depthOf_62 (by decide) (by omega) (by omega) (fun h62 => ?_) (fun h62 => ?_)
              · refine j_il dX7_depthOf_70 rfl ?_
                refine j_ist_9 dX7_depthOf_72 (by decide) rfl ?_
                refine j_aln dX7_depthOf_74 rfl rfl ?_
                refine j_il dX7_depthOf_75 rfl ?_
                refine j_il dX7_depthOf_77 rfl ?_
                refine j_il dX7_depthOf_79 rfl ?_
                refine j_V3d mf_X1_contains ml_X7_9 dX7_depthOf_81 (Nat.le_of_ble_eq_true rfl) (Nat.le_of_ble_eq_true rfl) (Nat.le_of_ble_eq_true rfl) ⟨(Nat.le_of_ble_eq_true rfl), (Nat.le_of_ble_eq_true rfl)⟩ hc rfl rfl (c_X1_contains hc) ?_
                refine j_ifeq (tgt := 90) dX7_depthOf_84 (by decide) (fun h84 => ?_) (fun h84 => ?_)
                · refine j_incN_5 1 dX7_depthOf_90 rfl (by decide) rfl ?_
                  refine j_goto (tgt := 3) dX7_depthOf_93 (by decide) ?_
                  refine ih _ _ _ _ (fun j hj => ?_)
                  rcases Nat.lt_or_ge j k with h | h
                  · exact hall j h
                  · rw [show j = k by omega]; have h9 := bI_eq.mp h84; clear ih; simp_all [dpc, bI_ne, bI_eq]
                · refine j_il dX7_depthOf_87 rfl ?_
                  exact j_iret dX7_depthOf_89 rfl rfl (Nat.le_of_ble_eq_true rfl) (Nat.le_of_ble_eq_true rfl) ⟨by rw [fst8_t hk hall (by have h9 := bI_ne.mp h84; clear ih; simp_all [dpc, bI_ne, bI_eq])], rfl⟩
              · refine j_il dX7_depthOf_65 rfl ?_
                refine j_goto (tgt := 72) dX7_depthOf_67 (by decide) ?_
                refine j_ist_9 dX7_depthOf_72 (by decide) rfl ?_
                refine j_aln dX7_depthOf_74 rfl rfl ?_
                refine j_il dX7_depthOf_75 rfl ?_
                refine j_il dX7_depthOf_77 rfl ?_
                refine j_il dX7_depthOf_79 rfl ?_
                refine j_V3d mf_X1_contains ml_X7_9 dX7_depthOf_81 (Nat.le_of_ble_eq_true rfl) (Nat.le_of_ble_eq_true rfl) (Nat.le_of_ble_eq_true rfl) ⟨(Nat.le_of_ble_eq_true rfl), (Nat.le_of_ble_eq_true rfl)⟩ hc rfl rfl (c_X1_contains hc) ?_
                refine j_ifeq (tgt := 90) dX7_depthOf_84 (by decide) (fun h84 => ?_) (fun h84 => ?_)
                · refine j_incN_5 1 dX7_depthOf_90 rfl (by decide) rfl ?_
                  refine j_goto (tgt := 3) dX7_depthOf_93 (by decide) ?_
                  refine ih _ _ _ _ (fun j hj => ?_)
                  rcases Nat.lt_or_ge j k with h | h
                  · exact hall j h
                  · rw [show j = k by omega]; have h9 := bI_eq.mp h84; clear ih; simp_all [dpc, bI_ne, bI_eq]
                · refine j_il dX7_depthOf_87 rfl ?_
                  exact j_iret dX7_depthOf_89 rfl rfl (Nat.le_of_ble_eq_true rfl) (Nat.le_of_ble_eq_true rfl) ⟨by rw [fst8_t hk hall (by have h9 := bI_ne.mp h84; clear ih; simp_all [dpc, bI_ne, bI_eq])], rfl⟩
  refine j_icN 0 dX7_depthOf_0 rfl ?_
  refine j_ist_5 dX7_depthOf_1 (by decide) rfl ?_
  exact K 0 (by omega) _ _ _ _ (fun j hj => absurd hj (by omega))
def dpn (f : Nat → Int64) (a : Nat) (isUp : Bool) (u v : Int32) : Nat := fst8 (dpc f a isUp u v)
def ln1 (f : Nat → Int64) (a : Nat) (isUp : Bool) (u : Nat) (n : Int32) (v : Nat) : Int32 :=
  (n + (if nI (dpn f a isUp (nI u) (nI v)) = nI (dpn f a isUp (nI u - nI 1) (nI v)) then nI 0 else nI 1)) + (if nI (dpn f a isUp (nI u) (nI v)) = nI (dpn f a isUp (nI u) (nI v - nI 1)) then nI 0 else nI 1)
def lnV (f : Nat → Int64) (a : Nat) (isUp : Bool) (u : Nat) (n : Int32) : Nat → Int32
  | 0 => n
  | v + 1 => ln1 f a isUp u (lnV f a isUp u n v) v
def lnU (f : Nat → Int64) (a : Nat) (isUp : Bool) : Nat → Int32
  | 0 => nI 0
  | u + 1 => lnV f a isUp u (lnU f a isUp u) 9
set_option maxRecDepth 100000 in
set_option maxHeartbeats 4000000 in
theorem c_X7_countLines {l : Launch} {E : Ev} {M : Mm} {c a : Nat} {isUp : Bool} (hc : c < nv 7) (ha : a < 3) : Ct l E yX7_countLines cX7_countLines 7 (some .int) 4 0 0 [.ref (eA E 7 c), .int (nI a), .int (bI isUp)] M (dv (.int (lnU (mL M c) a isUp 9)) M) := by
  refine Ct.of (own := RX7) rfl [some (.ref (eA E 7 c)), some (.int (nI a)), some (.int (bI isUp)), none, none, none, none] (by decide) (Nat.le_of_ble_eq_true rfl) rfl ?_
  have KU : ∀ u, u ≤ 9 → ∀ (o5 o6 : Option Value), Jd l E RX7 cX7_countLines 7 (some .int) [] (rmm 4 0 0) (QfN E (dv (.int (lnU (mL M c) a isUp 9)) M) 0 0) 0 0 5 [some (.ref (eA E 7 c)), some (.int (nI a)), some (.int (bI isUp)), some (.int (lnU (mL M c) a isUp u)), some (.int (nI u)), o5, o6] [] M := by
    refine up_to 9 _ ?_ (fun u hu ihu => ?_)
    · intro o5 o6
      refine j_il dX7_countLines_5 rfl ?_
      refine j_biN 8 dX7_countLines_7 rfl ?_
      refine j_icgtN (tgt := 96) dX7_countLines_9 (by decide) (by omega) (by omega) (fun h9 => ?_) (fun h9 => ?_)
      · refine j_iln dX7_countLines_96 rfl rfl ?_
        exact j_iret dX7_countLines_97 rfl rfl (Nat.le_of_ble_eq_true rfl) (Nat.le_of_ble_eq_true rfl) ⟨rfl, rfl⟩
      · exact absurd (Nat.lt_succ_self 8) h9
    · intro o5 o6
      have KV : ∀ v, v ≤ 9 → ∀ (o6 : Option Value), Jd l E RX7 cX7_countLines 7 (some .int) [] (rmm 4 0 0) (QfN E (dv (.int (lnU (mL M c) a isUp 9)) M) 0 0) 0 0 15 [some (.ref (eA E 7 c)), some (.int (nI a)), some (.int (bI isUp)), some (.int (lnV (mL M c) a isUp u (lnU (mL M c) a isUp u) v)), some (.int (nI u)), some (.int (nI v)), o6] [] M := by
        refine up_to 9 _ ?_ (fun v hv ihv => ?_)
        · intro o6
          refine j_il dX7_countLines_15 rfl ?_
          refine j_biN 8 dX7_countLines_17 rfl ?_
          refine j_icgtN (tgt := 90) dX7_countLines_19 (by decide) (by omega) (by omega) (fun h19 => ?_) (fun h19 => ?_)
          · refine j_incN_4 1 dX7_countLines_90 rfl (by decide) rfl ?_
            refine j_goto (tgt := 5) dX7_countLines_93 (by decide) ?_
            exact ihu _ _
          · exact absurd (Nat.lt_succ_self 8) h19
        · intro o6
          refine j_il dX7_countLines_15 rfl ?_
          refine j_biN 8 dX7_countLines_17 rfl ?_
          refine j_icgtN (tgt := 90) dX7_countLines_19 (by decide) (by omega) (by omega) (fun h19 => ?_) (fun h19 => ?_)
          · exact absurd h19 (by omega)
          · refine j_aln dX7_countLines_22 rfl rfl ?_
            refine j_iln dX7_countLines_23 rfl rfl ?_
            refine j_iln dX7_countLines_24 rfl rfl ?_
            refine j_il dX7_countLines_25 rfl ?_
            refine j_il dX7_countLines_27 rfl ?_
            refine j_S5d mf_X7_depthOf ml_X7_15 dX7_countLines_29 (Nat.le_of_ble_eq_true rfl) (Nat.le_of_ble_eq_true rfl) (Nat.le_of_ble_eq_true rfl) ⟨(Nat.le_of_ble_eq_true rfl), (Nat.le_of_ble_eq_true rfl)⟩ (c_X7_depthOf hc ha) ?_
            refine j_ist_6 dX7_countLines_32 (by decide) rfl ?_
            refine j_iln dX7_countLines_34 rfl rfl ?_
            refine j_il dX7_countLines_35 rfl ?_
            refine j_aln dX7_countLines_37 rfl rfl ?_
            refine j_iln dX7_countLines_38 rfl rfl ?_
            refine j_iln dX7_countLines_39 rfl rfl ?_
            refine j_il dX7_countLines_40 rfl ?_
            refine j_icN 1 dX7_countLines_42 rfl ?_
            refine j_isub dX7_countLines_43 ?_
            refine j_il dX7_countLines_44 rfl ?_
            refine j_S5d mf_X7_depthOf ml_X7_15 dX7_countLines_46 (Nat.le_of_ble_eq_true rfl) (Nat.le_of_ble_eq_true rfl) (Nat.le_of_ble_eq_true rfl) ⟨(Nat.le_of_ble_eq_true rfl), (Nat.le_of_ble_eq_true rfl)⟩ (c_X7_depthOf hc ha) ?_
            refine j_icne (tgt := 56) dX7_countLines_49 (by decide) (fun h49 => ?_) (fun h49 => ?_)
            · refine j_icN 1 dX7_countLines_56 rfl ?_
              refine j_iadd dX7_countLines_57 ?_
              refine j_ist_3 dX7_countLines_58 (by decide) rfl ?_
              refine j_iln dX7_countLines_59 rfl rfl ?_
              refine j_il dX7_countLines_60 rfl ?_
              refine j_aln dX7_countLines_62 rfl rfl ?_
              refine j_iln dX7_countLines_63 rfl rfl ?_
              refine j_iln dX7_countLines_64 rfl rfl ?_
              refine j_il dX7_countLines_65 rfl ?_
              refine j_il dX7_countLines_67 rfl ?_
              refine j_icN 1 dX7_countLines_69 rfl ?_
              refine j_isub dX7_countLines_70 ?_
              refine j_S5d mf_X7_depthOf ml_X7_15 dX7_countLines_71 (Nat.le_of_ble_eq_true rfl) (Nat.le_of_ble_eq_true rfl) (Nat.le_of_ble_eq_true rfl) ⟨(Nat.le_of_ble_eq_true rfl), (Nat.le_of_ble_eq_true rfl)⟩ (c_X7_depthOf hc ha) ?_
              refine j_icne (tgt := 81) dX7_countLines_74 (by decide) (fun h74 => ?_) (fun h74 => ?_)
              · refine j_icN 1 dX7_countLines_81 rfl ?_
                refine j_iadd dX7_countLines_82 ?_
                refine j_ist_3 dX7_countLines_83 (by decide) rfl ?_
                refine j_incN_5 1 dX7_countLines_84 rfl (by decide) rfl ?_
                refine j_goto (tgt := 15) dX7_countLines_87 (by decide) ?_
                refine j_eq ?_ rfl rfl (ihv (some (.int (nI (dpn (mL M c) a isUp (nI u) (nI v))))))
                clear ihu ihv
                simp_all [lnV, ln1, dpn]
              · refine j_icN 0 dX7_countLines_77 rfl ?_
                refine j_goto (tgt := 82) dX7_countLines_78 (by decide) ?_
                refine j_iadd dX7_countLines_82 ?_
                refine j_ist_3 dX7_countLines_83 (by decide) rfl ?_
                refine j_incN_5 1 dX7_countLines_84 rfl (by decide) rfl ?_
                refine j_goto (tgt := 15) dX7_countLines_87 (by decide) ?_
                refine j_eq ?_ rfl rfl (ihv (some (.int (nI (dpn (mL M c) a isUp (nI u) (nI v))))))
                clear ihu ihv
                simp_all [lnV, ln1, dpn]
            · refine j_icN 0 dX7_countLines_52 rfl ?_
              refine j_goto (tgt := 57) dX7_countLines_53 (by decide) ?_
              refine j_iadd dX7_countLines_57 ?_
              refine j_ist_3 dX7_countLines_58 (by decide) rfl ?_
              refine j_iln dX7_countLines_59 rfl rfl ?_
              refine j_il dX7_countLines_60 rfl ?_
              refine j_aln dX7_countLines_62 rfl rfl ?_
              refine j_iln dX7_countLines_63 rfl rfl ?_
              refine j_iln dX7_countLines_64 rfl rfl ?_
              refine j_il dX7_countLines_65 rfl ?_
              refine j_il dX7_countLines_67 rfl ?_
              refine j_icN 1 dX7_countLines_69 rfl ?_
              refine j_isub dX7_countLines_70 ?_
              refine j_S5d mf_X7_depthOf ml_X7_15 dX7_countLines_71 (Nat.le_of_ble_eq_true rfl) (Nat.le_of_ble_eq_true rfl) (Nat.le_of_ble_eq_true rfl) ⟨(Nat.le_of_ble_eq_true rfl), (Nat.le_of_ble_eq_true rfl)⟩ (c_X7_depthOf hc ha) ?_
              refine j_icne (tgt := 81) dX7_countLines_74 (by decide) (fun h74 => ?_) (fun h74 => ?_)
              · refine j_icN 1 dX7_countLines_81 rfl ?_
                refine j_iadd dX7_countLines_82 ?_
                refine j_ist_3 dX7_countLines_83 (by decide) rfl ?_
                refine j_incN_5 1 dX7_countLines_84 rfl (by decide) rfl ?_
                refine j_goto (tgt := 15) dX7_countLines_87 (by decide) ?_
                refine j_eq ?_ rfl rfl (ihv (some (.int (nI (dpn (mL M c) a isUp (nI u) (nI v))))))
                clear ihu ihv
                simp_all [lnV, ln1, dpn]
              · refine j_icN 0 dX7_countLines_77 rfl ?_
                refine j_goto (tgt := 82) dX7_countLines_78 (by decide) ?_
                refine j_iadd dX7_countLines_82 ?_
                refine j_ist_3 dX7_countLines_83 (by decide) rfl ?_
                refine j_incN_5 1 dX7_countLines_84 rfl (by decide) rfl ?_
                refine j_goto (tgt := 15) dX7_countLines_87 (by decide) ?_
                refine j_eq ?_ rfl rfl (ihv (some (.int (nI (dpn (mL M c) a isUp (nI u) (nI v))))))
                clear ihu ihv
                simp_all [lnV, ln1, dpn]
      refine j_il dX7_countLines_5 rfl ?_
      refine j_biN 8 dX7_countLines_7 rfl ?_
      refine j_icgtN (tgt := 96) dX7_countLines_9 (by decide) (by omega) (by omega) (fun h9 => ?_) (fun h9 => ?_)
      · exact absurd h9 (by omega)
      · refine j_icN 0 dX7_countLines_12 rfl ?_
        refine j_ist_5 dX7_countLines_13 (by decide) rfl ?_
        exact KV 0 (by omega) _
  refine j_icN 0 dX7_countLines_0 rfl ?_
  refine j_ist_3 dX7_countLines_1 (by decide) rfl ?_
  refine j_icN 0 dX7_countLines_2 rfl ?_
  refine j_ist_4 dX7_countLines_3 (by decide) rfl ?_
  exact KU 0 (by omega) _ _
