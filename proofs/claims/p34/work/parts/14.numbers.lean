/-! Numbers -/
theorem j_topi {l : Launch} {E : Ev} {own : String} {cc : ByteArray} {nL : Nat} {rt : Option FieldType} {tb : List ExceptionTableEntry} {R : Room} {Qf : List Frame → Array Value → State → State → Prop} {k n : Nat} {pc : Nat} {ls : List (Option Value)} {st : List Value} {M : Mm} {x y : Int32} (h : x = y) (kk : Jd l E own cc nL rt tb R Qf k n pc ls (.int y :: st) M) : Jd l E own cc nL rt tb R Qf k n pc ls (.int x :: st) M := by subst h; exact kk
theorem nw_0 {E : Ev} (U : State) (h : Xt E U) : va_Nw (.methodLinkNest RX8 60 yX9_isAxis RX9) U := h.2.2.1 _ (List.mem_append_left _ List.mem_cons_self)
theorem nw_1 {E : Ev} (U : State) (h : Xt E U) : va_Nw (.methodLinkNest RX8 64 yX9_isSide RX9) U := h.2.2.1 _ (List.mem_append_left _ (List.mem_cons_of_mem _ List.mem_cons_self))
theorem nw_2 {E : Ev} (U : State) (h : Xt E U) : va_Nw (.methodLinkNest RX5 25 yX9_isGiven RX9) U := h.2.2.1 _ (List.mem_append_left _ (List.mem_cons_of_mem _ (List.mem_cons_of_mem _ List.mem_cons_self)))
def nmd (t : Int32) : Bool := decide (¬ t < nI 100 ∧ ¬ nI 108 ≤ t)
def gvn (t : Int32) : Bool := decide (¬ t < -20 ∧ ¬ nI 20 < t)
def isT (t : Int32) : Bool := gvn t || nmd t
def isNm (x : Int32) : Bool := decide (¬ x < 0 ∧ ¬ nI 8 ≤ x)
def isOp (x : Int32) : Bool := decide (x = nI 43 ∨ x = nI 45 ∨ x = nI 42)
theorem nmd_of {t : Int32} (h : nmd t = true) : ∃ j, j < 8 ∧ t = nI (100 + j) ∧ t - nI 100 = nI j := by
  have h := of_decide_eq_true h
  have h0 : ¬ t < 0 := fun g => h.1 (Int32.lt_iff_toInt_lt.mpr (by
    have := Int32.lt_iff_toInt_lt.mp g
    rw [nI_toInt (by omega)]
    simp at this
    omega))
  obtain ⟨a, ha, rfl⟩ := nI_of h0
  have h1 : 100 ≤ a := Nat.le_of_not_lt fun g => h.1 (nI_lt g (by omega))
  have h2 : a < 108 := Nat.lt_of_not_le fun g => h.2 (nI_le g ha)
  exact ⟨a - 100, by omega, by rw [show 100 + (a - 100) = a by omega], by rw [pk_sub h1]⟩
def valX (v : Nat → Int32) (t : Int32) : Int32 := if nmd t = true then v (t - nI 100).toNatClampNeg else t
def outX (F O S v : Nat → Int32) (n : Nat) : Int32 :=
  if O n = nI 42 then valX v (F n) * valX v (S n) else if O n = nI 45 then valX v (F n) - valX v (S n) else valX v (F n) + valX v (S n)
def cutX (x : Int32) : Int32 := mxI (-99) (mnI (nI 99) x)
def rdX (F O S v : Nat → Int32) : Nat → Nat → Int32
  | 0 => v
  | k + 1 => upd (rdX F O S v k) k (cutX (outX F O S (rdX F O S v k) k))
def rrX (F O S v : Nat → Int32) : Nat → Nat → Int32
  | 0 => v
  | r + 1 => rdX F O S (rrX F O S v r) 8
def needX (t : Int32) : Int32 := if nmd t = true then nI 1 <<< ((t - nI 100) &&& 31) else nI 0
def hasB (x : Int32) (k : Nat) : Bool := decide ((x >>> (nI k &&& 31)) &&& nI 1 = nI 1)
def ndK (F S : Nat → Int32) (x : Int32) : Nat → Int32
  | 0 => x
  | k + 1 => if hasB (ndK F S x k) k = true then ndK F S x k ||| (needX (F k) ||| needX (S k)) else ndK F S x k
def ndR (F S : Nat → Int32) (x : Int32) : Nat → Int32
  | 0 => x
  | r + 1 => ndK F S (ndR F S x r) 8
theorem rdX_0 (F O S v : Nat → Int32) : rdX F O S v 0 = v := by rw [rdX]
theorem rdX_s (F O S v : Nat → Int32) (k : Nat) : rdX F O S v (k + 1) = upd (rdX F O S v k) k (cutX (outX F O S (rdX F O S v k) k)) := by rw [rdX]
theorem rrX_0 (F O S v : Nat → Int32) : rrX F O S v 0 = v := by rw [rrX]
theorem rrX_s (F O S v : Nat → Int32) (r : Nat) : rrX F O S v (r + 1) = rdX F O S (rrX F O S v r) 8 := by rw [rrX]
theorem ndK_0 (F S : Nat → Int32) (x : Int32) : ndK F S x 0 = x := by rw [ndK]
theorem ndK_s (F S : Nat → Int32) (x : Int32) (k : Nat) : ndK F S x (k + 1) = if hasB (ndK F S x k) k = true then ndK F S x k ||| (needX (F k) ||| needX (S k)) else ndK F S x k := by rw [ndK]
theorem ndR_0 (F S : Nat → Int32) (x : Int32) : ndR F S x 0 = x := by rw [ndR]
theorem ndR_s (F S : Nat → Int32) (x : Int32) (r : Nat) : ndR F S x (r + 1) = ndK F S (ndR F S x r) 8 := by rw [ndR]
set_option maxRecDepth 100000 in
set_option maxHeartbeats 4000000 in
theorem c_X5_isName {l : Launch} {E : Ev} {M : Mm} {x : Int32}  : Ct l E yX5_isName cX5_isName 1 (some .boolean) 1 0 0 [.int x] M (dv (.int (bI (isNm x))) M) := by
  refine Ct.of (own := RX5) rfl [some (.int x)] (by decide) (Nat.le_of_ble_eq_true rfl) rfl ?_
  refine j_iln dX5_isName_0 rfl rfl ?_
  refine j_iflt (tgt := 14) dX5_isName_1 (by decide) (fun h1 => ?_) (fun h1 => ?_)
  · refine j_icN 0 dX5_isName_14 rfl ?_
    exact j_iret dX5_isName_15 rfl (by decide) (Nat.le_of_ble_eq_true rfl) (Nat.le_of_ble_eq_true rfl) ⟨by simp_all [isNm, bI] <;> rfl, rfl⟩
  · refine j_iln dX5_isName_4 rfl rfl ?_
    refine j_biN 8 dX5_isName_5 rfl ?_
    refine j_icge (tgt := 14) dX5_isName_7 (by decide) (fun h7 => ?_) (fun h7 => ?_)
    · refine j_icN 0 dX5_isName_14 rfl ?_
      exact j_iret dX5_isName_15 rfl (by decide) (Nat.le_of_ble_eq_true rfl) (Nat.le_of_ble_eq_true rfl) ⟨by simp_all [isNm, bI] <;> rfl, rfl⟩
    · refine j_icN 1 dX5_isName_10 rfl ?_
      refine j_goto (tgt := 15) dX5_isName_11 (by decide) ?_
      exact j_iret dX5_isName_15 rfl (by decide) (Nat.le_of_ble_eq_true rfl) (Nat.le_of_ble_eq_true rfl) ⟨by simp_all [isNm, bI] <;> rfl, rfl⟩
set_option maxRecDepth 100000 in
set_option maxHeartbeats 4000000 in
theorem c_X5_isNamed {l : Launch} {E : Ev} {M : Mm} {x : Int32}  : Ct l E yX5_isNamed cX5_isNamed 1 (some .boolean) 1 0 0 [.int x] M (dv (.int (bI (nmd x))) M) := by
  refine Ct.of (own := RX5) rfl [some (.int x)] (by decide) (Nat.le_of_ble_eq_true rfl) rfl ?_
  refine j_iln dX5_isNamed_0 rfl rfl ?_
  refine j_biN 100 dX5_isNamed_1 rfl ?_
  refine j_iclt (tgt := 16) dX5_isNamed_3 (by decide) (fun h3 => ?_) (fun h3 => ?_)
  · refine j_icN 0 dX5_isNamed_16 rfl ?_
    exact j_iret dX5_isNamed_17 rfl (by decide) (Nat.le_of_ble_eq_true rfl) (Nat.le_of_ble_eq_true rfl) ⟨by simp_all [nmd, bI] <;> rfl, rfl⟩
  · refine j_iln dX5_isNamed_6 rfl rfl ?_
    refine j_biN 108 dX5_isNamed_7 rfl ?_
    refine j_icge (tgt := 16) dX5_isNamed_9 (by decide) (fun h9 => ?_) (fun h9 => ?_)
    · refine j_icN 0 dX5_isNamed_16 rfl ?_
      exact j_iret dX5_isNamed_17 rfl (by decide) (Nat.le_of_ble_eq_true rfl) (Nat.le_of_ble_eq_true rfl) ⟨by simp_all [nmd, bI] <;> rfl, rfl⟩
    · refine j_icN 1 dX5_isNamed_12 rfl ?_
      refine j_goto (tgt := 17) dX5_isNamed_13 (by decide) ?_
      exact j_iret dX5_isNamed_17 rfl (by decide) (Nat.le_of_ble_eq_true rfl) (Nat.le_of_ble_eq_true rfl) ⟨by simp_all [nmd, bI] <;> rfl, rfl⟩
set_option maxRecDepth 100000 in
set_option maxHeartbeats 4000000 in
theorem c_X5_isOperation {l : Launch} {E : Ev} {M : Mm} {x : Int32}  : Ct l E yX5_isOperation cX5_isOperation 1 (some .boolean) 1 0 0 [.int x] M (dv (.int (bI (isOp x))) M) := by
  refine Ct.of (own := RX5) rfl [some (.int x)] (by decide) (Nat.le_of_ble_eq_true rfl) rfl ?_
  refine j_iln dX5_isOperation_0 rfl rfl ?_
  refine j_biN 43 dX5_isOperation_1 rfl ?_
  refine j_iceq (tgt := 18) dX5_isOperation_3 (by decide) (fun h3 => ?_) (fun h3 => ?_)
  · refine j_icN 1 dX5_isOperation_18 rfl ?_
    refine j_goto (tgt := 23) dX5_isOperation_19 (by decide) ?_
    exact j_iret dX5_isOperation_23 rfl (by decide) (Nat.le_of_ble_eq_true rfl) (Nat.le_of_ble_eq_true rfl) ⟨by simp_all [isOp, bI] <;> rfl, rfl⟩
  · refine j_iln dX5_isOperation_6 rfl rfl ?_
    refine j_biN 45 dX5_isOperation_7 rfl ?_
    refine j_iceq (tgt := 18) dX5_isOperation_9 (by decide) (fun h9 => ?_) (fun h9 => ?_)
    · refine j_icN 1 dX5_isOperation_18 rfl ?_
      refine j_goto (tgt := 23) dX5_isOperation_19 (by decide) ?_
      exact j_iret dX5_isOperation_23 rfl (by decide) (Nat.le_of_ble_eq_true rfl) (Nat.le_of_ble_eq_true rfl) ⟨by simp_all [isOp, bI] <;> rfl, rfl⟩
    · refine j_iln dX5_isOperation_12 rfl rfl ?_
      refine j_biN 42 dX5_isOperation_13 rfl ?_
      refine j_icne (tgt := 22) dX5_isOperation_15 (by decide) (fun h15 => ?_) (fun h15 => ?_)
      · refine j_icN 0 dX5_isOperation_22 rfl ?_
        exact j_iret dX5_isOperation_23 rfl (by decide) (Nat.le_of_ble_eq_true rfl) (Nat.le_of_ble_eq_true rfl) ⟨by simp_all [isOp, bI] <;> rfl, rfl⟩
      · refine j_icN 1 dX5_isOperation_18 rfl ?_
        refine j_goto (tgt := 23) dX5_isOperation_19 (by decide) ?_
        exact j_iret dX5_isOperation_23 rfl (by decide) (Nat.le_of_ble_eq_true rfl) (Nat.le_of_ble_eq_true rfl) ⟨by simp_all [isOp, bI] <;> rfl, rfl⟩
set_option maxRecDepth 100000 in
set_option maxHeartbeats 4000000 in
theorem c_X9_isGiven {l : Launch} {E : Ev} {M : Mm} {x : Int32}  : Ct l E yX9_isGiven cX9_isGiven 1 (some .boolean) 1 0 0 [.int x] M (dv (.int (bI (gvn x))) M) := by
  refine Ct.of (own := RX9) rfl [some (.int x)] (by decide) (Nat.le_of_ble_eq_true rfl) rfl ?_
  refine j_iln dX9_isGiven_0 rfl rfl ?_
  refine j_bi (v := (-20)) dX9_isGiven_1 (by decide) ?_
  refine j_iclt (tgt := 16) dX9_isGiven_3 (by decide) (fun h3 => ?_) (fun h3 => ?_)
  · refine j_icN 0 dX9_isGiven_16 rfl ?_
    exact j_iret dX9_isGiven_17 rfl (by decide) (Nat.le_of_ble_eq_true rfl) (Nat.le_of_ble_eq_true rfl) ⟨by simp_all [gvn, bI] <;> rfl, rfl⟩
  · refine j_iln dX9_isGiven_6 rfl rfl ?_
    refine j_biN 20 dX9_isGiven_7 rfl ?_
    refine j_icgt (tgt := 16) dX9_isGiven_9 (by decide) (fun h9 => ?_) (fun h9 => ?_)
    · refine j_icN 0 dX9_isGiven_16 rfl ?_
      exact j_iret dX9_isGiven_17 rfl (by decide) (Nat.le_of_ble_eq_true rfl) (Nat.le_of_ble_eq_true rfl) ⟨by simp_all [gvn, bI] <;> rfl, rfl⟩
    · refine j_icN 1 dX9_isGiven_12 rfl ?_
      refine j_goto (tgt := 17) dX9_isGiven_13 (by decide) ?_
      exact j_iret dX9_isGiven_17 rfl (by decide) (Nat.le_of_ble_eq_true rfl) (Nat.le_of_ble_eq_true rfl) ⟨by simp_all [gvn, bI] <;> rfl, rfl⟩
set_option maxRecDepth 100000 in
set_option maxHeartbeats 4000000 in
theorem c_X5_isTerm {l : Launch} {E : Ev} {M : Mm} {x : Int32}  : Ct l E yX5_isTerm cX5_isTerm 1 (some .boolean) 2 0 0 [.int x] M (dv (.int (bI (isT x))) M) := by
  refine Ct.of (own := RX5) rfl [some (.int x)] (by decide) (Nat.le_of_ble_eq_true rfl) rfl ?_
  refine j_iln dX5_isTerm_0 rfl rfl ?_
  refine j_N1d mf_X9_isGiven nw_2 dX5_isTerm_1 (Nat.le_of_ble_eq_true rfl) (Nat.le_of_ble_eq_true rfl) (Nat.le_of_ble_eq_true rfl) ⟨(Nat.le_of_ble_eq_true rfl), (Nat.le_of_ble_eq_true rfl)⟩ c_X9_isGiven ?_
  refine j_ifne (tgt := 14) dX5_isTerm_4 (by decide) (fun h4 => ?_) (fun h4 => ?_)
  · refine j_icN 1 dX5_isTerm_14 rfl ?_
    refine j_goto (tgt := 19) dX5_isTerm_15 (by decide) ?_
    exact j_iret dX5_isTerm_19 rfl (by decide) (Nat.le_of_ble_eq_true rfl) (Nat.le_of_ble_eq_true rfl) ⟨by simp_all [isT, bI] <;> rfl, rfl⟩
  · refine j_iln dX5_isTerm_7 rfl rfl ?_
    refine j_S1d mf_X5_isNamed ml_X5_29 dX5_isTerm_8 (Nat.le_of_ble_eq_true rfl) (Nat.le_of_ble_eq_true rfl) (Nat.le_of_ble_eq_true rfl) ⟨(Nat.le_of_ble_eq_true rfl), (Nat.le_of_ble_eq_true rfl)⟩ c_X5_isNamed ?_
    refine j_ifeq (tgt := 18) dX5_isTerm_11 (by decide) (fun h11 => ?_) (fun h11 => ?_)
    · refine j_icN 0 dX5_isTerm_18 rfl ?_
      exact j_iret dX5_isTerm_19 rfl (by decide) (Nat.le_of_ble_eq_true rfl) (Nat.le_of_ble_eq_true rfl) ⟨by simp_all [isT, bI] <;> rfl, rfl⟩
    · refine j_icN 1 dX5_isTerm_14 rfl ?_
      refine j_goto (tgt := 19) dX5_isTerm_15 (by decide) ?_
      exact j_iret dX5_isTerm_19 rfl (by decide) (Nat.le_of_ble_eq_true rfl) (Nat.le_of_ble_eq_true rfl) ⟨by simp_all [isT, bI] <;> rfl, rfl⟩
set_option maxRecDepth 100000 in
set_option maxHeartbeats 4000000 in
theorem c_X5_valueOf {l : Launch} {E : Ev} {M : Mm} {x : Int32}  : Ct l E yX5_valueOf cX5_valueOf 2 (some .int) 2 0 0 [.ref (eA E 3 0), .int x] M (dv (.int (valX (mI M 23) x)) M) := by
  refine Ct.of (own := RX5) rfl [some (.ref (eA E 3 0)), some (.int x)] (by decide) (Nat.le_of_ble_eq_true rfl) rfl ?_
  refine j_iln dX5_valueOf_0 rfl rfl ?_
  refine j_S1d mf_X5_isNamed ml_X5_29 dX5_valueOf_1 (Nat.le_of_ble_eq_true rfl) (Nat.le_of_ble_eq_true rfl) (Nat.le_of_ble_eq_true rfl) ⟨(Nat.le_of_ble_eq_true rfl), (Nat.le_of_ble_eq_true rfl)⟩ c_X5_isNamed ?_
  refine j_ifeq (tgt := 19) dX5_valueOf_4 (by decide) (fun h4 => ?_) (fun h4 => ?_)
  · refine j_iln dX5_valueOf_19 rfl rfl ?_
    exact j_iret dX5_valueOf_20 rfl rfl (Nat.le_of_ble_eq_true rfl) (Nat.le_of_ble_eq_true rfl) ⟨by first | (unfold valX; rw [if_pos (bI_ne.mp h4), hj3, nI_clamp (by omega)]) | (unfold valX; rw [if_neg (by rw [bI_eq.mp h4]; decide)]), rfl⟩
  · obtain ⟨j, hj, hj2, hj3⟩ := nmd_of (bI_ne.mp h4)
    refine j_aln dX5_valueOf_7 rfl rfl ?_
    refine g_X5_3 dX5_valueOf_8 fl_X5_22 ?_
    refine j_iln dX5_valueOf_11 rfl rfl ?_
    refine j_biN 100 dX5_valueOf_12 rfl ?_
    refine j_isub dX5_valueOf_14 ?_
    refine j_aild j dX5_valueOf_15 rfl rfl rfl hj3 (by omega) (by decide) ?_
    refine j_goto (tgt := 20) dX5_valueOf_16 (by decide) ?_
    exact j_iret dX5_valueOf_20 rfl rfl (Nat.le_of_ble_eq_true rfl) (Nat.le_of_ble_eq_true rfl) ⟨by first | (unfold valX; rw [if_pos (bI_ne.mp h4), hj3, nI_clamp (by omega)]) | (unfold valX; rw [if_neg (by rw [bI_eq.mp h4]; decide)]), rfl⟩
set_option maxRecDepth 100000 in
set_option maxHeartbeats 4000000 in
theorem c_X5_needOf {l : Launch} {E : Ev} {M : Mm} {x : Int32}  : Ct l E yX5_needOf cX5_needOf 1 (some .int) 2 0 0 [.int x] M (dv (.int (needX x)) M) := by
  refine Ct.of (own := RX5) rfl [some (.int x)] (by decide) (Nat.le_of_ble_eq_true rfl) rfl ?_
  refine j_iln dX5_needOf_0 rfl rfl ?_
  refine j_S1d mf_X5_isNamed ml_X5_29 dX5_needOf_1 (Nat.le_of_ble_eq_true rfl) (Nat.le_of_ble_eq_true rfl) (Nat.le_of_ble_eq_true rfl) ⟨(Nat.le_of_ble_eq_true rfl), (Nat.le_of_ble_eq_true rfl)⟩ c_X5_isNamed ?_
  refine j_ifeq (tgt := 16) dX5_needOf_4 (by decide) (fun h4 => ?_) (fun h4 => ?_)
  · refine j_icN 0 dX5_needOf_16 rfl ?_
    exact j_iret dX5_needOf_17 rfl rfl (Nat.le_of_ble_eq_true rfl) (Nat.le_of_ble_eq_true rfl) ⟨by first | (unfold needX; rw [if_pos (bI_ne.mp h4)]) | (unfold needX; rw [if_neg (by rw [bI_eq.mp h4]; decide)]), rfl⟩
  · refine j_icN 1 dX5_needOf_7 rfl ?_
    refine j_iln dX5_needOf_8 rfl rfl ?_
    refine j_biN 100 dX5_needOf_9 rfl ?_
    refine j_isub dX5_needOf_11 ?_
    refine j_ishl dX5_needOf_12 ?_
    refine j_goto (tgt := 17) dX5_needOf_13 (by decide) ?_
    exact j_iret dX5_needOf_17 rfl rfl (Nat.le_of_ble_eq_true rfl) (Nat.le_of_ble_eq_true rfl) ⟨by first | (unfold needX; rw [if_pos (bI_ne.mp h4)]) | (unfold needX; rw [if_neg (by rw [bI_eq.mp h4]; decide)]), rfl⟩
set_option maxRecDepth 100000 in
set_option maxHeartbeats 4000000 in
theorem c_X5_outcome {l : Launch} {E : Ev} {M : Mm} {k : Nat} (hk : k < 8) : Ct l E yX5_outcome cX5_outcome 4 (some .int) 3 0 0 [.ref (eA E 3 0), .int (nI k)] M (dv (.int (outX (mI M 20) (mI M 21) (mI M 22) (mI M 23) k)) M) := by
  refine Ct.of (own := RX5) rfl [some (.ref (eA E 3 0)), some (.int (nI k)), none, none] (by decide) (Nat.le_of_ble_eq_true rfl) rfl ?_
  refine j_aln dX5_outcome_0 rfl rfl ?_
  refine j_aln dX5_outcome_1 rfl rfl ?_
  refine g_X5_0 dX5_outcome_2 fl_X5_9 ?_
  refine j_iln dX5_outcome_5 rfl rfl ?_
  refine j_aildN dX5_outcome_6 rfl rfl rfl (by decide) (by omega) ?_
  refine j_V1d mf_X5_valueOf ml_X5_42 dX5_outcome_7 (Nat.le_of_ble_eq_true rfl) (Nat.le_of_ble_eq_true rfl) (Nat.le_of_ble_eq_true rfl) ⟨(Nat.le_of_ble_eq_true rfl), (Nat.le_of_ble_eq_true rfl)⟩ (by first | assumption | decide | (simp only [nv] at *; omega)) rfl rfl c_X5_valueOf ?_
  refine j_ist_2 dX5_outcome_10 (by decide) rfl ?_
  refine j_aln dX5_outcome_11 rfl rfl ?_
  refine j_aln dX5_outcome_12 rfl rfl ?_
  refine g_X5_2 dX5_outcome_13 fl_X5_19 ?_
  refine j_iln dX5_outcome_16 rfl rfl ?_
  refine j_aildN dX5_outcome_17 rfl rfl rfl (by decide) (by omega) ?_
  refine j_V1d mf_X5_valueOf ml_X5_42 dX5_outcome_18 (Nat.le_of_ble_eq_true rfl) (Nat.le_of_ble_eq_true rfl) (Nat.le_of_ble_eq_true rfl) ⟨(Nat.le_of_ble_eq_true rfl), (Nat.le_of_ble_eq_true rfl)⟩ (by first | assumption | decide | (simp only [nv] at *; omega)) rfl rfl c_X5_valueOf ?_
  refine j_ist_3 dX5_outcome_21 (by decide) rfl ?_
  refine j_aln dX5_outcome_22 rfl rfl ?_
  refine g_X5_1 dX5_outcome_23 fl_X5_15 ?_
  refine j_iln dX5_outcome_26 rfl rfl ?_
  refine j_acldN dX5_outcome_27 rfl rfl rfl (by decide) (by omega) ?_
  refine j_biN 42 dX5_outcome_28 rfl ?_
  refine j_icne (tgt := 37) dX5_outcome_30 (by decide) (fun h30 => ?_) (fun h30 => ?_)
  · refine j_aln dX5_outcome_37 rfl rfl ?_
    refine g_X5_1 dX5_outcome_38 fl_X5_15 ?_
    refine j_iln dX5_outcome_41 rfl rfl ?_
    refine j_acldN dX5_outcome_42 rfl rfl rfl (by decide) (by omega) ?_
    refine j_biN 45 dX5_outcome_43 rfl ?_
    refine j_icne (tgt := 54) dX5_outcome_45 (by decide) (fun h45 => ?_) (fun h45 => ?_)
    · refine j_iln dX5_outcome_54 rfl rfl ?_
      refine j_iln dX5_outcome_55 rfl rfl ?_
      refine j_iadd dX5_outcome_56 ?_
      exact j_iret dX5_outcome_57 rfl rfl (Nat.le_of_ble_eq_true rfl) (Nat.le_of_ble_eq_true rfl) ⟨by unfold outX; rw [if_neg h30]; first | rw [if_pos h45] | rw [if_neg h45], rfl⟩
    · refine j_iln dX5_outcome_48 rfl rfl ?_
      refine j_iln dX5_outcome_49 rfl rfl ?_
      refine j_isub dX5_outcome_50 ?_
      refine j_goto (tgt := 57) dX5_outcome_51 (by decide) ?_
      exact j_iret dX5_outcome_57 rfl rfl (Nat.le_of_ble_eq_true rfl) (Nat.le_of_ble_eq_true rfl) ⟨by unfold outX; rw [if_neg h30]; first | rw [if_pos h45] | rw [if_neg h45], rfl⟩
  · refine j_iln dX5_outcome_33 rfl rfl ?_
    refine j_iln dX5_outcome_34 rfl rfl ?_
    refine j_imul dX5_outcome_35 ?_
    exact j_iret dX5_outcome_36 rfl rfl (Nat.le_of_ble_eq_true rfl) (Nat.le_of_ble_eq_true rfl) ⟨by unfold outX; rw [if_pos h30], rfl⟩
set_option maxRecDepth 100000 in
set_option maxHeartbeats 4000000 in
theorem c_X5_cut {l : Launch} {E : Ev} {M : Mm} {x : Int32}  : Ct l E yX5_cut cX5_cut 1 (some .int) 2 0 0 [.int x] M (dv (.int (cutX x)) M) := by
  refine Ct.of (own := RX5) rfl [some (.int x)] (by decide) (Nat.le_of_ble_eq_true rfl) rfl ?_
  refine j_bi (v := (-99)) dX5_cut_0 (by decide) ?_
  refine j_biN 99 dX5_cut_2 rfl ?_
  refine j_iln dX5_cut_4 rfl rfl ?_
  refine j_mmin dX5_cut_5 ml_X5_45 (Nat.le_of_ble_eq_true rfl) (Nat.le_of_ble_eq_true rfl) (Nat.le_of_ble_eq_true rfl) (Nat.le_of_ble_eq_true rfl) ?_
  refine j_mmax dX5_cut_8 ml_X5_51 (Nat.le_of_ble_eq_true rfl) (Nat.le_of_ble_eq_true rfl) (Nat.le_of_ble_eq_true rfl) (Nat.le_of_ble_eq_true rfl) ?_
  exact j_iret dX5_cut_11 rfl rfl (Nat.le_of_ble_eq_true rfl) (Nat.le_of_ble_eq_true rfl) ⟨rfl, rfl⟩
def put3 (M : Mm) (n : Nat) (f o s : Int32) : Mm := sI (sI (sI M 20 (upd (mI M 20) n f)) 21 (upd (mI M 21) n o)) 22 (upd (mI M 22) n s)
def putF (M : Mm) (n : Nat) (f o s : Int32) : Mm := sI (put3 M n f o s) 23 (rrX (upd (mI M 20) n f) (upd (mI M 21) n o) (upd (mI M 22) n s) (mI M 23) 8)
set_option maxRecDepth 100000 in
set_option maxHeartbeats 4000000 in
theorem c_X5_putFormula {l : Launch} {E : Ev} {M : Mm} {n : Nat} {x c y : Int32} (hn : n < 8) (hcn : vp_nar .char c = c) : Ct l E yX5_putFormula cX5_putFormula 7 none 4 0 0 [.ref (eA E 3 0), .int (nI n), .int x, .int c, .int y] M (dn (putF M n x c y)) := by
  refine Ct.of (own := RX5) rfl [some (.ref (eA E 3 0)), some (.int (nI n)), some (.int x), some (.int c), some (.int y), none, none] (by decide) (Nat.le_of_ble_eq_true rfl) rfl ?_
  obtain ⟨G, hG0, hGk, hGr, hG8⟩ : ∃ G : Nat → Nat → Nat → Int32, G 0 0 = mI M 23 ∧ (∀ r k, G r (k + 1) = upd (G r k) k (cutX (outX (upd (mI M 20) n x) (upd (mI M 21) n c) (upd (mI M 22) n y) (G r k) k))) ∧ (∀ r, G (r + 1) 0 = G r 8) ∧ G 8 0 = rrX (upd (mI M 20) n x) (upd (mI M 21) n c) (upd (mI M 22) n y) (mI M 23) 8 := ⟨fun r k => rdX (upd (mI M 20) n x) (upd (mI M 21) n c) (upd (mI M 22) n y) (rrX (upd (mI M 20) n x) (upd (mI M 21) n c) (upd (mI M 22) n y) (mI M 23) r) k, (rdX_0 _ _ _ _).trans (rrX_0 _ _ _ _), fun r k => rdX_s _ _ _ _ k, fun r => (rdX_0 _ _ _ _).trans (rrX_s _ _ _ _ r), rdX_0 _ _ _ _⟩
  rw [show putF M n x c y = sI (put3 M n x c y) 23 (G 8 0) from by rw [hG8, putF]]
  clear hG8
  have KR : ∀ r, r ≤ 8 → ∀ (o6 : Option Value), Jd l E RX5 cX5_putFormula 7 none [] (rmm 4 0 0) (QfN E (dn (sI (put3 M n x c y) 23 (G 8 0))) 0 0) 0 0 25 [some (.ref (eA E 3 0)), some (.int (nI n)), some (.int x), some (.int c), some (.int y), some (.int (nI r)), o6] [] (sI (put3 M n x c y) 23 (G r 0)) := by
    refine up_to 8 _ ?_ (fun r hr ihr => ?_)
    · intro o6
      refine j_il dX5_putFormula_25 rfl ?_
      refine j_biN 8 dX5_putFormula_27 rfl ?_
      refine j_icgeN (tgt := 70) dX5_putFormula_29 (by decide) (by omega) (by omega) (fun h29 => ?_) (fun h29 => ?_)
      · exact j_vret dX5_putFormula_70 rfl (Nat.le_of_ble_eq_true rfl) (Nat.le_of_ble_eq_true rfl) ⟨rfl, rfl⟩
      · exact absurd (Nat.le_refl 8) h29
    · intro o6
      have KK : ∀ k, k ≤ 8 → Jd l E RX5 cX5_putFormula 7 none [] (rmm 4 0 0) (QfN E (dn (sI (put3 M n x c y) 23 (G 8 0))) 0 0) 0 0 35 [some (.ref (eA E 3 0)), some (.int (nI n)), some (.int x), some (.int c), some (.int y), some (.int (nI r)), some (.int (nI k))] [] (sI (put3 M n x c y) 23 (G r k)) := by
        refine up_to 8 _ ?_ (fun k hk ihk => ?_)
        · refine j_il dX5_putFormula_35 rfl ?_
          refine j_biN 8 dX5_putFormula_37 rfl ?_
          refine j_icgeN (tgt := 64) dX5_putFormula_39 (by decide) (by omega) (by omega) (fun h39 => ?_) (fun h39 => ?_)
          · refine j_incN_5 1 dX5_putFormula_64 rfl (by decide) rfl ?_
            refine j_goto (tgt := 25) dX5_putFormula_67 (by decide) ?_
            rw [← hGr r]
            exact ihr _
          · exact absurd (Nat.le_refl 8) h39
        · refine j_il dX5_putFormula_35 rfl ?_
          refine j_biN 8 dX5_putFormula_37 rfl ?_
          refine j_icgeN (tgt := 64) dX5_putFormula_39 (by decide) (by omega) (by omega) (fun h39 => ?_) (fun h39 => ?_)
          · exact absurd h39 (by omega)
          · refine j_aln dX5_putFormula_42 rfl rfl ?_
            refine g_X5_3 dX5_putFormula_43 fl_X5_22 ?_
            refine j_il dX5_putFormula_46 rfl ?_
            refine j_aln dX5_putFormula_48 rfl rfl ?_
            refine j_il dX5_putFormula_49 rfl ?_
            refine j_V1d mf_X5_outcome ml_X5_36 dX5_putFormula_51 (Nat.le_of_ble_eq_true rfl) (Nat.le_of_ble_eq_true rfl) (Nat.le_of_ble_eq_true rfl) ⟨(Nat.le_of_ble_eq_true rfl), (Nat.le_of_ble_eq_true rfl)⟩ (by first | assumption | decide | (simp only [nv] at *; omega)) rfl rfl (c_X5_outcome hk) ?_
            refine j_S1d mf_X5_cut ml_X5_39 dX5_putFormula_54 (Nat.le_of_ble_eq_true rfl) (Nat.le_of_ble_eq_true rfl) (Nat.le_of_ble_eq_true rfl) ⟨(Nat.le_of_ble_eq_true rfl), (Nat.le_of_ble_eq_true rfl)⟩ c_X5_cut ?_
            refine j_aistN dX5_putFormula_57 rfl (fun _ => rfl) rfl (by decide) (by omega) ?_
            refine j_incN_6 1 dX5_putFormula_58 rfl (by decide) rfl ?_
            refine j_goto (tgt := 35) dX5_putFormula_61 (by decide) ?_
            refine j_mem ?_ ihk
            rw [sI_sI, hGk]
            rfl
      refine j_il dX5_putFormula_25 rfl ?_
      refine j_biN 8 dX5_putFormula_27 rfl ?_
      refine j_icgeN (tgt := 70) dX5_putFormula_29 (by decide) (by omega) (by omega) (fun h29 => ?_) (fun h29 => ?_)
      · exact absurd h29 (by omega)
      · refine j_icN 0 dX5_putFormula_32 rfl ?_
        refine j_ist_6 dX5_putFormula_33 (by decide) rfl ?_
        exact KK 0 (by omega)
  refine j_aln dX5_putFormula_0 rfl rfl ?_
  refine g_X5_0 dX5_putFormula_1 fl_X5_9 ?_
  refine j_iln dX5_putFormula_4 rfl rfl ?_
  refine j_iln dX5_putFormula_5 rfl rfl ?_
  refine j_aistN dX5_putFormula_6 rfl (fun _ => rfl) rfl (by decide) (by omega) ?_
  refine j_aln dX5_putFormula_7 rfl rfl ?_
  refine g_X5_1 dX5_putFormula_8 fl_X5_15 ?_
  refine j_iln dX5_putFormula_11 rfl rfl ?_
  refine j_iln dX5_putFormula_12 rfl rfl ?_
  refine j_acstN dX5_putFormula_13 rfl (fun _ => rfl) rfl (by decide) (by omega) hcn ?_
  refine j_aln dX5_putFormula_14 rfl rfl ?_
  refine g_X5_2 dX5_putFormula_15 fl_X5_19 ?_
  refine j_iln dX5_putFormula_18 rfl rfl ?_
  refine j_il dX5_putFormula_19 rfl ?_
  refine j_aistN dX5_putFormula_21 rfl (fun _ => rfl) rfl (by decide) (by omega) ?_
  refine j_icN 0 dX5_putFormula_22 rfl ?_
  refine j_ist_5 dX5_putFormula_23 (by decide) rfl ?_
  have K0 := KR 0 (by omega) none
  rw [hG0, show mI M 23 = mI (put3 M n x c y) 23 from rfl, sI_id] at K0
  exact K0
set_option maxRecDepth 100000 in
set_option maxHeartbeats 4000000 in
theorem c_X5_wouldNeedItself {l : Launch} {E : Ev} {M : Mm} {n : Nat} {x y : Int32} (hn : n < 8) : Ct l E yX5_wouldNeedItself cX5_wouldNeedItself 7 (some .boolean) 3 0 0 [.ref (eA E 3 0), .int (nI n), .int x, .int y] M (dv (.int (bI (hasB (ndR (mI M 20) (mI M 22) (needX x ||| needX y) 8) n))) M) := by
  refine Ct.of (own := RX5) rfl [some (.ref (eA E 3 0)), some (.int (nI n)), some (.int x), some (.int y), none, none, none] (by decide) (Nat.le_of_ble_eq_true rfl) rfl ?_
  obtain ⟨G, hG0, hGk, hGr, hG8⟩ : ∃ G : Nat → Nat → Int32, G 0 0 = (needX x ||| needX y) ∧ (∀ r k, G r (k + 1) = if hasB (G r k) k = true then G r k ||| (needX (mI M 20 k) ||| needX (mI M 22 k)) else G r k) ∧ (∀ r, G (r + 1) 0 = G r 8) ∧ G 8 0 = ndR (mI M 20) (mI M 22) (needX x ||| needX y) 8 := ⟨fun r k => ndK (mI M 20) (mI M 22) (ndR (mI M 20) (mI M 22) (needX x ||| needX y) r) k, (ndK_0 _ _ _).trans (ndR_0 _ _ _), fun r k => ndK_s _ _ _ k, fun r => (ndK_0 _ _ _).trans (ndR_s _ _ _ r), ndK_0 _ _ _⟩
  rw [← hG8]
  clear hG8
  have KR : ∀ r, r ≤ 8 → ∀ (o6 : Option Value), Jd l E RX5 cX5_wouldNeedItself 7 (some .boolean) [] (rmm 3 0 0) (QfN E (dv (.int (bI (hasB (G 8 0) n))) M) 0 0) 0 0 14 [some (.ref (eA E 3 0)), some (.int (nI n)), some (.int x), some (.int y), some (.int (G r 0)), some (.int (nI r)), o6] [] M := by
    refine up_to 8 _ ?_ (fun r hr ihr => ?_)
    · intro o6
      refine j_il dX5_wouldNeedItself_14 rfl ?_
      refine j_biN 8 dX5_wouldNeedItself_16 rfl ?_
      refine j_icgeN (tgt := 80) dX5_wouldNeedItself_18 (by decide) (by omega) (by omega) (fun h18 => ?_) (fun h18 => ?_)
      · refine j_il dX5_wouldNeedItself_80 rfl ?_
        refine j_iln dX5_wouldNeedItself_82 rfl rfl ?_
        refine j_ishr dX5_wouldNeedItself_83 ?_
        refine j_icN 1 dX5_wouldNeedItself_84 rfl ?_
        refine j_iand dX5_wouldNeedItself_85 ?_
        refine j_icN 1 dX5_wouldNeedItself_86 rfl ?_
        refine j_icne (tgt := 94) dX5_wouldNeedItself_87 (by decide) (fun h87 => ?_) (fun h87 => ?_)
        · refine j_icN 0 dX5_wouldNeedItself_94 rfl ?_
          exact j_iret dX5_wouldNeedItself_95 rfl (by decide) (Nat.le_of_ble_eq_true rfl) (Nat.le_of_ble_eq_true rfl) ⟨by first | (rw [show hasB (G 8 0) n = true from decide_eq_true h87]; rfl) | (rw [show hasB (G 8 0) n = false from decide_eq_false h87]; rfl), rfl⟩
        · refine j_icN 1 dX5_wouldNeedItself_90 rfl ?_
          refine j_goto (tgt := 95) dX5_wouldNeedItself_91 (by decide) ?_
          exact j_iret dX5_wouldNeedItself_95 rfl (by decide) (Nat.le_of_ble_eq_true rfl) (Nat.le_of_ble_eq_true rfl) ⟨by first | (rw [show hasB (G 8 0) n = true from decide_eq_true h87]; rfl) | (rw [show hasB (G 8 0) n = false from decide_eq_false h87]; rfl), rfl⟩
      · exact absurd (Nat.le_refl 8) h18
    · intro o6
      have KK : ∀ k, k ≤ 8 → Jd l E RX5 cX5_wouldNeedItself 7 (some .boolean) [] (rmm 3 0 0) (QfN E (dv (.int (bI (hasB (G 8 0) n))) M) 0 0) 0 0 24 [some (.ref (eA E 3 0)), some (.int (nI n)), some (.int x), some (.int y), some (.int (G r k)), some (.int (nI r)), some (.int (nI k))] [] M := by
        refine up_to 8 _ ?_ (fun k hk ihk => ?_)
        · refine j_il dX5_wouldNeedItself_24 rfl ?_
          refine j_biN 8 dX5_wouldNeedItself_26 rfl ?_
          refine j_icgeN (tgt := 74) dX5_wouldNeedItself_28 (by decide) (by omega) (by omega) (fun h28 => ?_) (fun h28 => ?_)
          · refine j_incN_5 1 dX5_wouldNeedItself_74 rfl (by decide) rfl ?_
            refine j_goto (tgt := 14) dX5_wouldNeedItself_77 (by decide) ?_
            rw [← hGr r]
            exact ihr _
          · exact absurd (Nat.le_refl 8) h28
        · refine j_il dX5_wouldNeedItself_24 rfl ?_
          refine j_biN 8 dX5_wouldNeedItself_26 rfl ?_
          refine j_icgeN (tgt := 74) dX5_wouldNeedItself_28 (by decide) (by omega) (by omega) (fun h28 => ?_) (fun h28 => ?_)
          · exact absurd h28 (by omega)
          · refine j_il dX5_wouldNeedItself_31 rfl ?_
            refine j_il dX5_wouldNeedItself_33 rfl ?_
            refine j_ishr dX5_wouldNeedItself_35 ?_
            refine j_icN 1 dX5_wouldNeedItself_36 rfl ?_
            refine j_iand dX5_wouldNeedItself_37 ?_
            refine j_icN 1 dX5_wouldNeedItself_38 rfl ?_
            refine j_icne (tgt := 68) dX5_wouldNeedItself_39 (by decide) (fun h39 => ?_) (fun h39 => ?_)
            · refine j_incN_6 1 dX5_wouldNeedItself_68 rfl (by decide) rfl ?_
              refine j_goto (tgt := 24) dX5_wouldNeedItself_71 (by decide) ?_
              refine j_eq ?_ rfl rfl ihk
              rw [hGk]
              first | rw [if_pos (show hasB _ _ = true from decide_eq_true h39)] | rw [if_neg (show ¬ hasB _ _ = true from fun g => h39 (of_decide_eq_true g))]
            · refine j_il dX5_wouldNeedItself_42 rfl ?_
              refine j_aln dX5_wouldNeedItself_44 rfl rfl ?_
              refine g_X5_0 dX5_wouldNeedItself_45 fl_X5_9 ?_
              refine j_il dX5_wouldNeedItself_48 rfl ?_
              refine j_aildN dX5_wouldNeedItself_50 rfl rfl rfl (by decide) (by omega) ?_
              refine j_S1d mf_X5_needOf ml_X5_32 dX5_wouldNeedItself_51 (Nat.le_of_ble_eq_true rfl) (Nat.le_of_ble_eq_true rfl) (Nat.le_of_ble_eq_true rfl) ⟨(Nat.le_of_ble_eq_true rfl), (Nat.le_of_ble_eq_true rfl)⟩ c_X5_needOf ?_
              refine j_aln dX5_wouldNeedItself_54 rfl rfl ?_
              refine g_X5_2 dX5_wouldNeedItself_55 fl_X5_19 ?_
              refine j_il dX5_wouldNeedItself_58 rfl ?_
              refine j_aildN dX5_wouldNeedItself_60 rfl rfl rfl (by decide) (by omega) ?_
              refine j_S1d mf_X5_needOf ml_X5_32 dX5_wouldNeedItself_61 (Nat.le_of_ble_eq_true rfl) (Nat.le_of_ble_eq_true rfl) (Nat.le_of_ble_eq_true rfl) ⟨(Nat.le_of_ble_eq_true rfl), (Nat.le_of_ble_eq_true rfl)⟩ c_X5_needOf ?_
              refine j_ior dX5_wouldNeedItself_64 ?_
              refine j_ior dX5_wouldNeedItself_65 ?_
              refine j_ist_4 dX5_wouldNeedItself_66 (by decide) rfl ?_
              refine j_incN_6 1 dX5_wouldNeedItself_68 rfl (by decide) rfl ?_
              refine j_goto (tgt := 24) dX5_wouldNeedItself_71 (by decide) ?_
              refine j_eq ?_ rfl rfl ihk
              rw [hGk]
              first | rw [if_pos (show hasB _ _ = true from decide_eq_true h39)] | rw [if_neg (show ¬ hasB _ _ = true from fun g => h39 (of_decide_eq_true g))]
      refine j_il dX5_wouldNeedItself_14 rfl ?_
      refine j_biN 8 dX5_wouldNeedItself_16 rfl ?_
      refine j_icgeN (tgt := 80) dX5_wouldNeedItself_18 (by decide) (by omega) (by omega) (fun h18 => ?_) (fun h18 => ?_)
      · exact absurd h18 (by omega)
      · refine j_icN 0 dX5_wouldNeedItself_21 rfl ?_
        refine j_ist_6 dX5_wouldNeedItself_22 (by decide) rfl ?_
        exact KK 0 (by omega)
  refine j_iln dX5_wouldNeedItself_0 rfl rfl ?_
  refine j_S1d mf_X5_needOf ml_X5_32 dX5_wouldNeedItself_1 (Nat.le_of_ble_eq_true rfl) (Nat.le_of_ble_eq_true rfl) (Nat.le_of_ble_eq_true rfl) ⟨(Nat.le_of_ble_eq_true rfl), (Nat.le_of_ble_eq_true rfl)⟩ c_X5_needOf ?_
  refine j_iln dX5_wouldNeedItself_4 rfl rfl ?_
  refine j_S1d mf_X5_needOf ml_X5_32 dX5_wouldNeedItself_5 (Nat.le_of_ble_eq_true rfl) (Nat.le_of_ble_eq_true rfl) (Nat.le_of_ble_eq_true rfl) ⟨(Nat.le_of_ble_eq_true rfl), (Nat.le_of_ble_eq_true rfl)⟩ c_X5_needOf ?_
  refine j_ior dX5_wouldNeedItself_8 ?_
  refine j_ist_4 dX5_wouldNeedItself_9 (by decide) rfl ?_
  refine j_icN 0 dX5_wouldNeedItself_11 rfl ?_
  refine j_ist_5 dX5_wouldNeedItself_12 (by decide) rfl ?_
  have K0 := KR 0 (by omega) none
  rw [hG0] at K0
  exact K0
