/-! Workshop: fitness, mirrors, repeats, pushes -/
def axX (x : Int32) : Bool := decide (¬ x < 0 ∧ ¬ nI 3 ≤ x)
def sdX (x : Int32) : Bool := decide (¬ x < 0 ∧ ¬ nI 6 ≤ x)
abbrev bxK (kd : Int32) : Prop := kd = nI 98 ∨ kd = nI 99 ∨ kd = nI 105
def unX (kd : Int32) (a : Nat → Int32) : Bool := if bxK kd then decide (a 3 < nI 1 ∨ a 4 < nI 1 ∨ a 5 < nI 1) else if kd = nI 109 then !axX (a 0) else if kd = nI 112 then decide (a 3 < 0) else if kd = nI 101 then !sdX (a 1) || decide (a 2 < 0) else false
def mcy (ax k s v : Int32) : Int32 := if ax = k then s - v else v
def mrS (A : Nat → Int64) (ax s : Int32) (g : Nat → Int64) (x y z : Nat) : Nat → Int64 := if cel A (nI x) (nI y) (nI z) = true then ptf g (mcy ax 0 s (nI x)) (mcy ax (nI 1) s (nI y)) (mcy ax (nI 2) s (nI z)) else g
def mrK (A : Nat → Int64) (ax s : Int32) (f : Nat → Int64) : Nat → Nat → Int64
  | 0 => f
  | k + 1 => mrS A ax s (mrK A ax s f k) (k % 8) (k / 8 % 8) (k / 64)
theorem mrK_0 (A : Nat → Int64) (ax s : Int32) (f : Nat → Int64) : mrK A ax s f 0 = f := by rw [mrK]
theorem mrK_s (A : Nat → Int64) (ax s : Int32) (f : Nat → Int64) (k : Nat) : mrK A ax s f (k + 1) = mrS A ax s (mrK A ax s f k) (k % 8) (k / 8 % 8) (k / 64) := by rw [mrK]
def mrX (A : Nat → Int64) (ax s : Int32) (f : Nat → Int64) : Nat → Int64 := mrK A ax s f 512
/-- repeats and pushes: a step is made while it is not above a bound -/
def rpK (A : Nat → Int64) (u : Int32) (bx bY bz : Nat → Int32) (f : Nat → Int64) : Nat → Nat → Int64
  | 0 => f
  | k + 1 => if u < nI (k + 1) then rpK A u bx bY bz f k else fun w => sldz (rpK A u bx bY bz f k) A (bx (k + 1)) (bY (k + 1)) (bz (k + 1)) w
theorem rpK_0 (A : Nat → Int64) (u : Int32) (bx bY bz : Nat → Int32) (f : Nat → Int64) : rpK A u bx bY bz f 0 = f := by rw [rpK]
theorem rpK_s (A : Nat → Int64) (u : Int32) (bx bY bz : Nat → Int32) (f : Nat → Int64) (k : Nat) : rpK A u bx bY bz f (k + 1) = if u < nI (k + 1) then rpK A u bx bY bz f k else fun w => sldz (rpK A u bx bY bz f k) A (bx (k + 1)) (bY (k + 1)) (bz (k + 1)) w := by rw [rpK]
def rpX (A : Nat → Int64) (u : Int32) (bx bY bz : Nat → Int32) (f : Nat → Int64) : Nat → Int64 := rpK A u bx bY bz f 7
theorem rp_stop {G : Nat → Nat → Int64} {u : Int32} (hG : ∀ k, u < nI (k + 1) → G (k + 1) = G k) {k : Nat} (h : u < nI (k + 1)) (n : Nat) (hk : k ≤ n) (hn : n < 2 ^ 31) : G n = G k := by
  induction n with
  | zero => rw [show k = 0 by omega]
  | succ n ih =>
    rcases Nat.lt_or_ge k (n + 1) with h1 | h1
    · rw [hG n (Int32.lt_of_lt_of_le h (nI_le (by omega) hn)), ih (by omega) (by omega)]
    · rw [show k = n + 1 by omega]
def pay (a k : Nat) (v : Int32) : Int32 := if a = k then v else nI 0
set_option maxRecDepth 100000 in
set_option maxHeartbeats 4000000 in
theorem c_X9_isAxis {l : Launch} {E : Ev} {M : Mm} {x : Int32}  : Ct l E yX9_isAxis cX9_isAxis 1 (some .boolean) 1 0 0 [.int x] M (dv (.int (bI (axX x))) M) := by
  refine Ct.of (own := RX9) rfl [some (.int x)] (by decide) (Nat.le_of_ble_eq_true rfl) rfl ?_
  refine j_iln dX9_isAxis_0 rfl rfl ?_
  refine j_iflt (tgt := 13) dX9_isAxis_1 (by decide) (fun h1 => ?_) (fun h1 => ?_)
  · have hr : axX x = false := decide_eq_false (fun q => q.1 h1)
    refine j_icN 0 dX9_isAxis_13 rfl ?_
    exact j_iret dX9_isAxis_14 rfl (by decide) (Nat.le_of_ble_eq_true rfl) (Nat.le_of_ble_eq_true rfl) ⟨by rw [hr]; rfl, rfl⟩
  · refine j_iln dX9_isAxis_4 rfl rfl ?_
    refine j_icN 3 dX9_isAxis_5 rfl ?_
    refine j_icge (tgt := 13) dX9_isAxis_6 (by decide) (fun h6 => ?_) (fun h6 => ?_)
    · have hr : axX x = false := decide_eq_false (fun q => q.2 h6)
      refine j_icN 0 dX9_isAxis_13 rfl ?_
      exact j_iret dX9_isAxis_14 rfl (by decide) (Nat.le_of_ble_eq_true rfl) (Nat.le_of_ble_eq_true rfl) ⟨by rw [hr]; rfl, rfl⟩
    · have hr : axX x = true := decide_eq_true ⟨h1, h6⟩
      refine j_icN 1 dX9_isAxis_9 rfl ?_
      refine j_goto (tgt := 14) dX9_isAxis_10 (by decide) ?_
      exact j_iret dX9_isAxis_14 rfl (by decide) (Nat.le_of_ble_eq_true rfl) (Nat.le_of_ble_eq_true rfl) ⟨by rw [hr]; rfl, rfl⟩
set_option maxRecDepth 100000 in
set_option maxHeartbeats 4000000 in
theorem c_X9_isSide {l : Launch} {E : Ev} {M : Mm} {x : Int32}  : Ct l E yX9_isSide cX9_isSide 1 (some .boolean) 1 0 0 [.int x] M (dv (.int (bI (sdX x))) M) := by
  refine Ct.of (own := RX9) rfl [some (.int x)] (by decide) (Nat.le_of_ble_eq_true rfl) rfl ?_
  refine j_iln dX9_isSide_0 rfl rfl ?_
  refine j_iflt (tgt := 14) dX9_isSide_1 (by decide) (fun h1 => ?_) (fun h1 => ?_)
  · have hr : sdX x = false := decide_eq_false (fun q => q.1 h1)
    refine j_icN 0 dX9_isSide_14 rfl ?_
    exact j_iret dX9_isSide_15 rfl (by decide) (Nat.le_of_ble_eq_true rfl) (Nat.le_of_ble_eq_true rfl) ⟨by rw [hr]; rfl, rfl⟩
  · refine j_iln dX9_isSide_4 rfl rfl ?_
    refine j_biN 6 dX9_isSide_5 rfl ?_
    refine j_icge (tgt := 14) dX9_isSide_7 (by decide) (fun h7 => ?_) (fun h7 => ?_)
    · have hr : sdX x = false := decide_eq_false (fun q => q.2 h7)
      refine j_icN 0 dX9_isSide_14 rfl ?_
      exact j_iret dX9_isSide_15 rfl (by decide) (Nat.le_of_ble_eq_true rfl) (Nat.le_of_ble_eq_true rfl) ⟨by rw [hr]; rfl, rfl⟩
    · have hr : sdX x = true := decide_eq_true ⟨h1, h7⟩
      refine j_icN 1 dX9_isSide_10 rfl ?_
      refine j_goto (tgt := 15) dX9_isSide_11 (by decide) ?_
      exact j_iret dX9_isSide_15 rfl (by decide) (Nat.le_of_ble_eq_true rfl) (Nat.le_of_ble_eq_true rfl) ⟨by rw [hr]; rfl, rfl⟩
set_option maxRecDepth 100000 in
set_option maxHeartbeats 4000000 in
theorem c_X8_isUnfit {l : Launch} {E : Ev} {M : Mm} {kd : Int32}  : Ct l E yX8_isUnfit cX8_isUnfit 2 (some .boolean) 2 0 0 [.int kd, .ref (eA E 29 0)] M (dv (.int (bI (unX kd (mI M 29)))) M) := by
  refine Ct.of (own := RX8) rfl [some (.int kd), some (.ref (eA E 29 0))] (by decide) (Nat.le_of_ble_eq_true rfl) rfl ?_
  refine j_iln dX8_isUnfit_0 rfl rfl ?_
  refine j_biN 98 dX8_isUnfit_1 rfl ?_
  refine j_iceq (tgt := 18) dX8_isUnfit_3 (by decide) (fun h3 => ?_) (fun h3 => ?_)
  · have hb : bxK kd := Or.inl h3
    refine j_aln dX8_isUnfit_18 rfl rfl ?_
    refine j_icN 3 dX8_isUnfit_19 rfl ?_
    refine j_aildN dX8_isUnfit_20 rfl rfl rfl (by decide) (by omega) ?_
    refine j_icN 1 dX8_isUnfit_21 rfl ?_
    refine j_iclt (tgt := 39) dX8_isUnfit_22 (by decide) (fun h22 => ?_) (fun h22 => ?_)
    · have hr : unX kd (mI M 29) = true := by unfold unX; rw [if_pos hb]; exact decide_eq_true (Or.inl h22)
      refine j_icN 1 dX8_isUnfit_39 rfl ?_
      refine j_goto (tgt := 44) dX8_isUnfit_40 (by decide) ?_
      exact j_iret dX8_isUnfit_44 rfl (by decide) (Nat.le_of_ble_eq_true rfl) (Nat.le_of_ble_eq_true rfl) ⟨by rw [hr]; rfl, rfl⟩
    · refine j_aln dX8_isUnfit_25 rfl rfl ?_
      refine j_icN 4 dX8_isUnfit_26 rfl ?_
      refine j_aildN dX8_isUnfit_27 rfl rfl rfl (by decide) (by omega) ?_
      refine j_icN 1 dX8_isUnfit_28 rfl ?_
      refine j_iclt (tgt := 39) dX8_isUnfit_29 (by decide) (fun h29 => ?_) (fun h29 => ?_)
      · have hr : unX kd (mI M 29) = true := by unfold unX; rw [if_pos hb]; exact decide_eq_true (Or.inr (Or.inl h29))
        refine j_icN 1 dX8_isUnfit_39 rfl ?_
        refine j_goto (tgt := 44) dX8_isUnfit_40 (by decide) ?_
        exact j_iret dX8_isUnfit_44 rfl (by decide) (Nat.le_of_ble_eq_true rfl) (Nat.le_of_ble_eq_true rfl) ⟨by rw [hr]; rfl, rfl⟩
      · refine j_aln dX8_isUnfit_32 rfl rfl ?_
        refine j_icN 5 dX8_isUnfit_33 rfl ?_
        refine j_aildN dX8_isUnfit_34 rfl rfl rfl (by decide) (by omega) ?_
        refine j_icN 1 dX8_isUnfit_35 rfl ?_
        refine j_icge (tgt := 43) dX8_isUnfit_36 (by decide) (fun h36 => ?_) (fun h36 => ?_)
        · have hr : unX kd (mI M 29) = false := by unfold unX; rw [if_pos hb]; exact decide_eq_false (fun q => q.elim h22 (fun q => q.elim h29 (fun q => Int32.not_lt.mpr h36 q)))
          refine j_icN 0 dX8_isUnfit_43 rfl ?_
          exact j_iret dX8_isUnfit_44 rfl (by decide) (Nat.le_of_ble_eq_true rfl) (Nat.le_of_ble_eq_true rfl) ⟨by rw [hr]; rfl, rfl⟩
        · have hr : unX kd (mI M 29) = true := by unfold unX; rw [if_pos hb]; exact decide_eq_true (Or.inr (Or.inr (Int32.not_le.mp h36)))
          refine j_icN 1 dX8_isUnfit_39 rfl ?_
          refine j_goto (tgt := 44) dX8_isUnfit_40 (by decide) ?_
          exact j_iret dX8_isUnfit_44 rfl (by decide) (Nat.le_of_ble_eq_true rfl) (Nat.le_of_ble_eq_true rfl) ⟨by rw [hr]; rfl, rfl⟩
  · refine j_iln dX8_isUnfit_6 rfl rfl ?_
    refine j_biN 99 dX8_isUnfit_7 rfl ?_
    refine j_iceq (tgt := 18) dX8_isUnfit_9 (by decide) (fun h9 => ?_) (fun h9 => ?_)
    · have hb : bxK kd := Or.inr (Or.inl h9)
      refine j_aln dX8_isUnfit_18 rfl rfl ?_
      refine j_icN 3 dX8_isUnfit_19 rfl ?_
      refine j_aildN dX8_isUnfit_20 rfl rfl rfl (by decide) (by omega) ?_
      refine j_icN 1 dX8_isUnfit_21 rfl ?_
      refine j_iclt (tgt := 39) dX8_isUnfit_22 (by decide) (fun h22 => ?_) (fun h22 => ?_)
      · have hr : unX kd (mI M 29) = true := by unfold unX; rw [if_pos hb]; exact decide_eq_true (Or.inl h22)
        refine j_icN 1 dX8_isUnfit_39 rfl ?_
        refine j_goto (tgt := 44) dX8_isUnfit_40 (by decide) ?_
        exact j_iret dX8_isUnfit_44 rfl (by decide) (Nat.le_of_ble_eq_true rfl) (Nat.le_of_ble_eq_true rfl) ⟨by rw [hr]; rfl, rfl⟩
      · refine j_aln dX8_isUnfit_25 rfl rfl ?_
        refine j_icN 4 dX8_isUnfit_26 rfl ?_
        refine j_aildN dX8_isUnfit_27 rfl rfl rfl (by decide) (by omega) ?_
        refine j_icN 1 dX8_isUnfit_28 rfl ?_
        refine j_iclt (tgt := 39) dX8_isUnfit_29 (by decide) (fun h29 => ?_) (fun h29 => ?_)
        · have hr : unX kd (mI M 29) = true := by unfold unX; rw [if_pos hb]; exact decide_eq_true (Or.inr (Or.inl h29))
          refine j_icN 1 dX8_isUnfit_39 rfl ?_
          refine j_goto (tgt := 44) dX8_isUnfit_40 (by decide) ?_
          exact j_iret dX8_isUnfit_44 rfl (by decide) (Nat.le_of_ble_eq_true rfl) (Nat.le_of_ble_eq_true rfl) ⟨by rw [hr]; rfl, rfl⟩
        · refine j_aln dX8_isUnfit_32 rfl rfl ?_
          refine j_icN 5 dX8_isUnfit_33 rfl ?_
          refine j_aildN dX8_isUnfit_34 rfl rfl rfl (by decide) (by omega) ?_
          refine j_icN 1 dX8_isUnfit_35 rfl ?_
          refine j_icge (tgt := 43) dX8_isUnfit_36 (by decide) (fun h36 => ?_) (fun h36 => ?_)
          · have hr : unX kd (mI M 29) = false := by unfold unX; rw [if_pos hb]; exact decide_eq_false (fun q => q.elim h22 (fun q => q.elim h29 (fun q => Int32.not_lt.mpr h36 q)))
            refine j_icN 0 dX8_isUnfit_43 rfl ?_
            exact j_iret dX8_isUnfit_44 rfl (by decide) (Nat.le_of_ble_eq_true rfl) (Nat.le_of_ble_eq_true rfl) ⟨by rw [hr]; rfl, rfl⟩
          · have hr : unX kd (mI M 29) = true := by unfold unX; rw [if_pos hb]; exact decide_eq_true (Or.inr (Or.inr (Int32.not_le.mp h36)))
            refine j_icN 1 dX8_isUnfit_39 rfl ?_
            refine j_goto (tgt := 44) dX8_isUnfit_40 (by decide) ?_
            exact j_iret dX8_isUnfit_44 rfl (by decide) (Nat.le_of_ble_eq_true rfl) (Nat.le_of_ble_eq_true rfl) ⟨by rw [hr]; rfl, rfl⟩
    · refine j_iln dX8_isUnfit_12 rfl rfl ?_
      refine j_biN 105 dX8_isUnfit_13 rfl ?_
      refine j_icne (tgt := 45) dX8_isUnfit_15 (by decide) (fun h15 => ?_) (fun h15 => ?_)
      · have hb : ¬ bxK kd := fun q => q.elim h3 (fun q => q.elim h9 h15)
        refine j_iln dX8_isUnfit_45 rfl rfl ?_
        refine j_biN 109 dX8_isUnfit_46 rfl ?_
        refine j_icne (tgt := 66) dX8_isUnfit_48 (by decide) (fun h48 => ?_) (fun h48 => ?_)
        · refine j_iln dX8_isUnfit_66 rfl rfl ?_
          refine j_biN 112 dX8_isUnfit_67 rfl ?_
          refine j_icne (tgt := 84) dX8_isUnfit_69 (by decide) (fun h69 => ?_) (fun h69 => ?_)
          · refine j_iln dX8_isUnfit_84 rfl rfl ?_
            refine j_biN 101 dX8_isUnfit_85 rfl ?_
            refine j_icne (tgt := 109) dX8_isUnfit_87 (by decide) (fun h87 => ?_) (fun h87 => ?_)
            · have hr : unX kd (mI M 29) = false := by unfold unX; rw [if_neg hb]; rw [if_neg h48, if_neg h69, if_neg h87]
              refine j_icN 0 dX8_isUnfit_109 rfl ?_
              exact j_iret dX8_isUnfit_110 rfl (by decide) (Nat.le_of_ble_eq_true rfl) (Nat.le_of_ble_eq_true rfl) ⟨by rw [hr]; rfl, rfl⟩
            · refine j_aln dX8_isUnfit_90 rfl rfl ?_
              refine j_icN 1 dX8_isUnfit_91 rfl ?_
              refine j_aildN dX8_isUnfit_92 rfl rfl rfl (by decide) (by omega) ?_
              refine j_N1d mf_X9_isSide nw_1 dX8_isUnfit_93 (Nat.le_of_ble_eq_true rfl) (Nat.le_of_ble_eq_true rfl) (Nat.le_of_ble_eq_true rfl) ⟨(Nat.le_of_ble_eq_true rfl), (Nat.le_of_ble_eq_true rfl)⟩ c_X9_isSide ?_
              refine j_ifeq (tgt := 105) dX8_isUnfit_96 (by decide) (fun h96 => ?_) (fun h96 => ?_)
              · have hr : unX kd (mI M 29) = true := by unfold unX; rw [if_neg hb]; rw [if_neg h48, if_neg h69, if_pos h87, bI_eq.mp h96]; rfl
                refine j_icN 1 dX8_isUnfit_105 rfl ?_
                refine j_goto (tgt := 110) dX8_isUnfit_106 (by decide) ?_
                exact j_iret dX8_isUnfit_110 rfl (by decide) (Nat.le_of_ble_eq_true rfl) (Nat.le_of_ble_eq_true rfl) ⟨by rw [hr]; rfl, rfl⟩
              · refine j_aln dX8_isUnfit_99 rfl rfl ?_
                refine j_icN 2 dX8_isUnfit_100 rfl ?_
                refine j_aildN dX8_isUnfit_101 rfl rfl rfl (by decide) (by omega) ?_
                refine j_ifge (tgt := 109) dX8_isUnfit_102 (by decide) (fun h102 => ?_) (fun h102 => ?_)
                · have hr : unX kd (mI M 29) = false := by unfold unX; rw [if_neg hb]; rw [if_neg h48, if_neg h69, if_pos h87, bI_ne.mp h96, decide_eq_false (Int32.not_lt.mpr h102)]; rfl
                  refine j_icN 0 dX8_isUnfit_109 rfl ?_
                  exact j_iret dX8_isUnfit_110 rfl (by decide) (Nat.le_of_ble_eq_true rfl) (Nat.le_of_ble_eq_true rfl) ⟨by rw [hr]; rfl, rfl⟩
                · have hr : unX kd (mI M 29) = true := by unfold unX; rw [if_neg hb]; rw [if_neg h48, if_neg h69, if_pos h87, decide_eq_true (Int32.not_le.mp h102)]; exact Bool.or_true _
                  refine j_icN 1 dX8_isUnfit_105 rfl ?_
                  refine j_goto (tgt := 110) dX8_isUnfit_106 (by decide) ?_
                  exact j_iret dX8_isUnfit_110 rfl (by decide) (Nat.le_of_ble_eq_true rfl) (Nat.le_of_ble_eq_true rfl) ⟨by rw [hr]; rfl, rfl⟩
          · refine j_aln dX8_isUnfit_72 rfl rfl ?_
            refine j_icN 3 dX8_isUnfit_73 rfl ?_
            refine j_aildN dX8_isUnfit_74 rfl rfl rfl (by decide) (by omega) ?_
            refine j_ifge (tgt := 82) dX8_isUnfit_75 (by decide) (fun h75 => ?_) (fun h75 => ?_)
            · have hr : unX kd (mI M 29) = false := by unfold unX; rw [if_neg hb]; rw [if_neg h48, if_pos h69]; exact decide_eq_false (Int32.not_lt.mpr h75)
              refine j_icN 0 dX8_isUnfit_82 rfl ?_
              exact j_iret dX8_isUnfit_83 rfl (by decide) (Nat.le_of_ble_eq_true rfl) (Nat.le_of_ble_eq_true rfl) ⟨by rw [hr]; rfl, rfl⟩
            · have hr : unX kd (mI M 29) = true := by unfold unX; rw [if_neg hb]; rw [if_neg h48, if_pos h69]; exact decide_eq_true (Int32.not_le.mp h75)
              refine j_icN 1 dX8_isUnfit_78 rfl ?_
              refine j_goto (tgt := 83) dX8_isUnfit_79 (by decide) ?_
              exact j_iret dX8_isUnfit_83 rfl (by decide) (Nat.le_of_ble_eq_true rfl) (Nat.le_of_ble_eq_true rfl) ⟨by rw [hr]; rfl, rfl⟩
        · refine j_aln dX8_isUnfit_51 rfl rfl ?_
          refine j_icN 0 dX8_isUnfit_52 rfl ?_
          refine j_aildN dX8_isUnfit_53 rfl rfl rfl (by decide) (by omega) ?_
          refine j_N1d mf_X9_isAxis nw_0 dX8_isUnfit_54 (Nat.le_of_ble_eq_true rfl) (Nat.le_of_ble_eq_true rfl) (Nat.le_of_ble_eq_true rfl) ⟨(Nat.le_of_ble_eq_true rfl), (Nat.le_of_ble_eq_true rfl)⟩ c_X9_isAxis ?_
          refine j_ifne (tgt := 64) dX8_isUnfit_57 (by decide) (fun h57 => ?_) (fun h57 => ?_)
          · have hr : unX kd (mI M 29) = false := by unfold unX; rw [if_neg hb]; rw [if_pos h48, bI_ne.mp h57]; rfl
            refine j_icN 0 dX8_isUnfit_64 rfl ?_
            exact j_iret dX8_isUnfit_65 rfl (by decide) (Nat.le_of_ble_eq_true rfl) (Nat.le_of_ble_eq_true rfl) ⟨by rw [hr]; rfl, rfl⟩
          · have hr : unX kd (mI M 29) = true := by unfold unX; rw [if_neg hb]; rw [if_pos h48, bI_eq.mp (Classical.not_not.mp (fun q => q h57))]; rfl
            refine j_icN 1 dX8_isUnfit_60 rfl ?_
            refine j_goto (tgt := 65) dX8_isUnfit_61 (by decide) ?_
            exact j_iret dX8_isUnfit_65 rfl (by decide) (Nat.le_of_ble_eq_true rfl) (Nat.le_of_ble_eq_true rfl) ⟨by rw [hr]; rfl, rfl⟩
      · have hb : bxK kd := Or.inr (Or.inr h15)
        refine j_aln dX8_isUnfit_18 rfl rfl ?_
        refine j_icN 3 dX8_isUnfit_19 rfl ?_
        refine j_aildN dX8_isUnfit_20 rfl rfl rfl (by decide) (by omega) ?_
        refine j_icN 1 dX8_isUnfit_21 rfl ?_
        refine j_iclt (tgt := 39) dX8_isUnfit_22 (by decide) (fun h22 => ?_) (fun h22 => ?_)
        · have hr : unX kd (mI M 29) = true := by unfold unX; rw [if_pos hb]; exact decide_eq_true (Or.inl h22)
          refine j_icN 1 dX8_isUnfit_39 rfl ?_
          refine j_goto (tgt := 44) dX8_isUnfit_40 (by decide) ?_
          exact j_iret dX8_isUnfit_44 rfl (by decide) (Nat.le_of_ble_eq_true rfl) (Nat.le_of_ble_eq_true rfl) ⟨by rw [hr]; rfl, rfl⟩
        · refine j_aln dX8_isUnfit_25 rfl rfl ?_
          refine j_icN 4 dX8_isUnfit_26 rfl ?_
          refine j_aildN dX8_isUnfit_27 rfl rfl rfl (by decide) (by omega) ?_
          refine j_icN 1 dX8_isUnfit_28 rfl ?_
          refine j_iclt (tgt := 39) dX8_isUnfit_29 (by decide) (fun h29 => ?_) (fun h29 => ?_)
          · have hr : unX kd (mI M 29) = true := by unfold unX; rw [if_pos hb]; exact decide_eq_true (Or.inr (Or.inl h29))
            refine j_icN 1 dX8_isUnfit_39 rfl ?_
            refine j_goto (tgt := 44) dX8_isUnfit_40 (by decide) ?_
            exact j_iret dX8_isUnfit_44 rfl (by decide) (Nat.le_of_ble_eq_true rfl) (Nat.le_of_ble_eq_true rfl) ⟨by rw [hr]; rfl, rfl⟩
          · refine j_aln dX8_isUnfit_32 rfl rfl ?_
            refine j_icN 5 dX8_isUnfit_33 rfl ?_
            refine j_aildN dX8_isUnfit_34 rfl rfl rfl (by decide) (by omega) ?_
            refine j_icN 1 dX8_isUnfit_35 rfl ?_
            refine j_icge (tgt := 43) dX8_isUnfit_36 (by decide) (fun h36 => ?_) (fun h36 => ?_)
            · have hr : unX kd (mI M 29) = false := by unfold unX; rw [if_pos hb]; exact decide_eq_false (fun q => q.elim h22 (fun q => q.elim h29 (fun q => Int32.not_lt.mpr h36 q)))
              refine j_icN 0 dX8_isUnfit_43 rfl ?_
              exact j_iret dX8_isUnfit_44 rfl (by decide) (Nat.le_of_ble_eq_true rfl) (Nat.le_of_ble_eq_true rfl) ⟨by rw [hr]; rfl, rfl⟩
            · have hr : unX kd (mI M 29) = true := by unfold unX; rw [if_pos hb]; exact decide_eq_true (Or.inr (Or.inr (Int32.not_le.mp h36)))
              refine j_icN 1 dX8_isUnfit_39 rfl ?_
              refine j_goto (tgt := 44) dX8_isUnfit_40 (by decide) ?_
              exact j_iret dX8_isUnfit_44 rfl (by decide) (Nat.le_of_ble_eq_true rfl) (Nat.le_of_ble_eq_true rfl) ⟨by rw [hr]; rfl, rfl⟩
set_option maxRecDepth 100000 in
set_option maxHeartbeats 4000000 in
theorem c_X8_mirror {l : Launch} {E : Ev} {M : Mm} {c q : Nat} {ax s : Int32} (hc : c < nv 7) (hq : q < nv 7) (hne : ¬ q = c) : Ct l E yX8_mirror cX8_mirror 7 none 3 0 0 [.int ax, .int s, .ref (eA E 7 q), .ref (eA E 7 c)] M (dn (sL M c (mrX (mL M q) ax s (mL M c)))) := by
  refine Ct.of (own := RX8) rfl [some (.int ax), some (.int s), some (.ref (eA E 7 q)), some (.ref (eA E 7 c)), none, none, none] (by decide) (Nat.le_of_ble_eq_true rfl) rfl ?_
  obtain ⟨G, hG0, hGk, hG8⟩ : ∃ G : Nat → Nat → Int64, G 0 = mL M c ∧ (∀ k, G (k + 1) = mrS (mL M q) ax s (G k) (k % 8) (k / 8 % 8) (k / 64)) ∧ mrX (mL M q) ax s (mL M c) = G 512 := ⟨mrK (mL M q) ax s (mL M c), mrK_0 _ _ _ _, mrK_s _ _ _ _, by rw [mrX]⟩
  rw [hG8]
  have hGs : ∀ z y x, x < 8 → y < 8 → G (z * 64 + y * 8 + (x + 1)) = mrS (mL M q) ax s (G (z * 64 + y * 8 + x)) x y z := by
    intro z y x hx hy
    rw [show z * 64 + y * 8 + (x + 1) = (z * 64 + y * 8 + x) + 1 from rfl, hGk, show (z * 64 + y * 8 + x) % 8 = x by omega, show (z * 64 + y * 8 + x) / 8 % 8 = y by omega, show (z * 64 + y * 8 + x) / 64 = z by omega]
  have KZ : ∀ z, z ≤ 8 → ∀ (o5 o6 : Option Value), Jd l E RX8 cX8_mirror 7 none [] (rmm 3 0 0) (QfN E (dn (sL M c (G 512))) 0 0) 0 0 3 [some (.int ax), some (.int s), some (.ref (eA E 7 q)), some (.ref (eA E 7 c)), some (.int (nI z)), o5, o6] [] (sL M c (G (z * 64))) := by
    refine up_to 8 _ ?_ (fun z hz ih => ?_)
    · intro o5 o6
      refine j_il dX8_mirror_3 rfl ?_
      refine j_biN 8 dX8_mirror_5 rfl ?_
      refine j_icgeN (tgt := 106) dX8_mirror_7 (by decide) (by omega) (by omega) (fun h7 => ?_) (fun h7 => ?_)
      · exact j_vret dX8_mirror_106 rfl (Nat.le_of_ble_eq_true rfl) (Nat.le_of_ble_eq_true rfl) ⟨rfl, rfl⟩
      · exact absurd (Nat.le_refl 8) h7
    · intro o5 o6
      have KY : ∀ y, y ≤ 8 → ∀ (o6 : Option Value), Jd l E RX8 cX8_mirror 7 none [] (rmm 3 0 0) (QfN E (dn (sL M c (G 512))) 0 0) 0 0 13 [some (.int ax), some (.int s), some (.ref (eA E 7 q)), some (.ref (eA E 7 c)), some (.int (nI z)), some (.int (nI y)), o6] [] (sL M c (G (z * 64 + y * 8))) := by
        refine up_to 8 _ ?_ (fun y hy ihy => ?_)
        · intro o6
          refine j_il dX8_mirror_13 rfl ?_
          refine j_biN 8 dX8_mirror_15 rfl ?_
          refine j_icgeN (tgt := 100) dX8_mirror_17 (by decide) (by omega) (by omega) (fun h17 => ?_) (fun h17 => ?_)
          · refine j_incN_4 1 dX8_mirror_100 rfl (by decide) rfl ?_
            refine j_goto (tgt := 3) dX8_mirror_103 (by decide) ?_
            refine j_mem ?_ (ih _ _)
            rw [show (z + 1) * 64 = z * 64 + 8 * 8 by omega]
          · exact absurd (Nat.le_refl 8) h17
        · intro o6
          have KX : ∀ x, x ≤ 8 → Jd l E RX8 cX8_mirror 7 none [] (rmm 3 0 0) (QfN E (dn (sL M c (G 512))) 0 0) 0 0 23 [some (.int ax), some (.int s), some (.ref (eA E 7 q)), some (.ref (eA E 7 c)), some (.int (nI z)), some (.int (nI y)), some (.int (nI x))] [] (sL M c (G (z * 64 + y * 8 + x))) := by
            refine up_to 8 _ ?_ (fun x hx ihx => ?_)
            · refine j_il dX8_mirror_23 rfl ?_
              refine j_biN 8 dX8_mirror_25 rfl ?_
              refine j_icgeN (tgt := 94) dX8_mirror_27 (by decide) (by omega) (by omega) (fun h27 => ?_) (fun h27 => ?_)
              · refine j_incN_5 1 dX8_mirror_94 rfl (by decide) rfl ?_
                refine j_goto (tgt := 13) dX8_mirror_97 (by decide) ?_
                refine j_mem ?_ (ihy _)
                rw [show z * 64 + (y + 1) * 8 = z * 64 + y * 8 + 8 by omega]
              · exact absurd (Nat.le_refl 8) h27
            · refine j_il dX8_mirror_23 rfl ?_
              refine j_biN 8 dX8_mirror_25 rfl ?_
              refine j_icgeN (tgt := 94) dX8_mirror_27 (by decide) (by omega) (by omega) (fun h27 => ?_) (fun h27 => ?_)
              · exact absurd h27 (by omega)
              · refine j_aln dX8_mirror_30 rfl rfl ?_
                refine j_il dX8_mirror_31 rfl ?_
                refine j_il dX8_mirror_33 rfl ?_
                refine j_il dX8_mirror_35 rfl ?_
                refine j_V3d mf_X1_contains ml_X8_95 dX8_mirror_37 (Nat.le_of_ble_eq_true rfl) (Nat.le_of_ble_eq_true rfl) (Nat.le_of_ble_eq_true rfl) ⟨(Nat.le_of_ble_eq_true rfl), (Nat.le_of_ble_eq_true rfl)⟩ (by first | assumption | decide | (simp only [nv] at *; omega)) rfl rfl (c_X1_contains hq) ?_
                refine j_ifeq (tgt := 88) dX8_mirror_40 (by decide) (fun h40 => ?_) (fun h40 => ?_)
                · have hg : G (z * 64 + y * 8 + (x + 1)) = G (z * 64 + y * 8 + x) := by
                    rw [hGs z y x hx hy]; unfold mrS
                    have e0 := bI_eq.mp h40
                    rw [mL_sL, if_neg hne] at e0
                    rw [if_neg (by rw [e0]; decide)]
                  refine j_incN_6 1 dX8_mirror_88 rfl (by decide) rfl ?_
                  refine j_goto (tgt := 23) dX8_mirror_91 (by decide) ?_
                  refine j_mem ?_ ihx
                  first | (rw [hg]; done) | (rw [sL_sL, mL_sL, if_pos rfl, hg]; done)
                · have hcl := bI_ne.mp h40
                  rw [mL_sL, if_neg hne] at hcl
                  refine j_aln dX8_mirror_43 rfl rfl ?_
                  refine j_iln dX8_mirror_44 rfl rfl ?_
                  refine j_ifne (tgt := 55) dX8_mirror_45 (by decide) (fun h45 => ?_) (fun h45 => ?_)
                  · have ex : mcy ax 0 s (nI x) = nI x := if_neg h45
                    refine j_il dX8_mirror_55 rfl ?_
                    refine j_iln dX8_mirror_57 rfl rfl ?_
                    refine j_icN 1 dX8_mirror_58 rfl ?_
                    refine j_icne (tgt := 69) dX8_mirror_59 (by decide) (fun h59 => ?_) (fun h59 => ?_)
                    · have ey : mcy ax (nI 1) s (nI y) = nI y := if_neg h59
                      refine j_il dX8_mirror_69 rfl ?_
                      refine j_iln dX8_mirror_71 rfl rfl ?_
                      refine j_icN 2 dX8_mirror_72 rfl ?_
                      refine j_icne (tgt := 83) dX8_mirror_73 (by decide) (fun h73 => ?_) (fun h73 => ?_)
                      · have ez : mcy ax (nI 2) s (nI z) = nI z := if_neg h73
                        have hg := hGs z y x hx hy
                        unfold mrS at hg
                        rw [if_pos hcl, ex, ey, ez] at hg
                        refine j_il dX8_mirror_83 rfl ?_
                        refine j_V3n mf_X1_put ml_X8_99 dX8_mirror_85 (Nat.le_of_ble_eq_true rfl) (Nat.le_of_ble_eq_true rfl) (Nat.le_of_ble_eq_true rfl) ⟨(Nat.le_of_ble_eq_true rfl), (Nat.le_of_ble_eq_true rfl)⟩ (by first | assumption | decide | (simp only [nv] at *; omega)) rfl rfl (c_X1_put hc) ?_
                        refine j_incN_6 1 dX8_mirror_88 rfl (by decide) rfl ?_
                        refine j_goto (tgt := 23) dX8_mirror_91 (by decide) ?_
                        refine j_mem ?_ ihx
                        first | (rw [hg]; done) | (rw [sL_sL, mL_sL, if_pos rfl, hg]; done)
                      · have ez : mcy ax (nI 2) s (nI z) = s - nI z := if_pos h73
                        have hg := hGs z y x hx hy
                        unfold mrS at hg
                        rw [if_pos hcl, ex, ey, ez] at hg
                        refine j_iln dX8_mirror_76 rfl rfl ?_
                        refine j_il dX8_mirror_77 rfl ?_
                        refine j_isub dX8_mirror_79 ?_
                        refine j_goto (tgt := 85) dX8_mirror_80 (by decide) ?_
                        refine j_V3n mf_X1_put ml_X8_99 dX8_mirror_85 (Nat.le_of_ble_eq_true rfl) (Nat.le_of_ble_eq_true rfl) (Nat.le_of_ble_eq_true rfl) ⟨(Nat.le_of_ble_eq_true rfl), (Nat.le_of_ble_eq_true rfl)⟩ (by first | assumption | decide | (simp only [nv] at *; omega)) rfl rfl (c_X1_put hc) ?_
                        refine j_incN_6 1 dX8_mirror_88 rfl (by decide) rfl ?_
                        refine j_goto (tgt := 23) dX8_mirror_91 (by decide) ?_
                        refine j_mem ?_ ihx
                        first | (rw [hg]; done) | (rw [sL_sL, mL_sL, if_pos rfl, hg]; done)
                    · have ey : mcy ax (nI 1) s (nI y) = s - nI y := if_pos h59
                      refine j_iln dX8_mirror_62 rfl rfl ?_
                      refine j_il dX8_mirror_63 rfl ?_
                      refine j_isub dX8_mirror_65 ?_
                      refine j_goto (tgt := 71) dX8_mirror_66 (by decide) ?_
                      refine j_iln dX8_mirror_71 rfl rfl ?_
                      refine j_icN 2 dX8_mirror_72 rfl ?_
                      refine j_icne (tgt := 83) dX8_mirror_73 (by decide) (fun h73 => ?_) (fun h73 => ?_)
                      · have ez : mcy ax (nI 2) s (nI z) = nI z := if_neg h73
                        have hg := hGs z y x hx hy
                        unfold mrS at hg
                        rw [if_pos hcl, ex, ey, ez] at hg
                        refine j_il dX8_mirror_83 rfl ?_
                        refine j_V3n mf_X1_put ml_X8_99 dX8_mirror_85 (Nat.le_of_ble_eq_true rfl) (Nat.le_of_ble_eq_true rfl) (Nat.le_of_ble_eq_true rfl) ⟨(Nat.le_of_ble_eq_true rfl), (Nat.le_of_ble_eq_true rfl)⟩ (by first | assumption | decide | (simp only [nv] at *; omega)) rfl rfl (c_X1_put hc) ?_
                        refine j_incN_6 1 dX8_mirror_88 rfl (by decide) rfl ?_
                        refine j_goto (tgt := 23) dX8_mirror_91 (by decide) ?_
                        refine j_mem ?_ ihx
                        first | (rw [hg]; done) | (rw [sL_sL, mL_sL, if_pos rfl, hg]; done)
                      · have ez : mcy ax (nI 2) s (nI z) = s - nI z := if_pos h73
                        have hg := hGs z y x hx hy
                        unfold mrS at hg
                        rw [if_pos hcl, ex, ey, ez] at hg
                        refine j_iln dX8_mirror_76 rfl rfl ?_
                        refine j_il dX8_mirror_77 rfl ?_
                        refine j_isub dX8_mirror_79 ?_
                        refine j_goto (tgt := 85) dX8_mirror_80 (by decide) ?_
                        refine j_V3n mf_X1_put ml_X8_99 dX8_mirror_85 (Nat.le_of_ble_eq_true rfl) (Nat.le_of_ble_eq_true rfl) (Nat.le_of_ble_eq_true rfl) ⟨(Nat.le_of_ble_eq_true rfl), (Nat.le_of_ble_eq_true rfl)⟩ (by first | assumption | decide | (simp only [nv] at *; omega)) rfl rfl (c_X1_put hc) ?_
                        refine j_incN_6 1 dX8_mirror_88 rfl (by decide) rfl ?_
                        refine j_goto (tgt := 23) dX8_mirror_91 (by decide) ?_
                        refine j_mem ?_ ihx
                        first | (rw [hg]; done) | (rw [sL_sL, mL_sL, if_pos rfl, hg]; done)
                  · have ex : mcy ax 0 s (nI x) = s - nI x := if_pos h45
                    refine j_iln dX8_mirror_48 rfl rfl ?_
                    refine j_il dX8_mirror_49 rfl ?_
                    refine j_isub dX8_mirror_51 ?_
                    refine j_goto (tgt := 57) dX8_mirror_52 (by decide) ?_
                    refine j_iln dX8_mirror_57 rfl rfl ?_
                    refine j_icN 1 dX8_mirror_58 rfl ?_
                    refine j_icne (tgt := 69) dX8_mirror_59 (by decide) (fun h59 => ?_) (fun h59 => ?_)
                    · have ey : mcy ax (nI 1) s (nI y) = nI y := if_neg h59
                      refine j_il dX8_mirror_69 rfl ?_
                      refine j_iln dX8_mirror_71 rfl rfl ?_
                      refine j_icN 2 dX8_mirror_72 rfl ?_
                      refine j_icne (tgt := 83) dX8_mirror_73 (by decide) (fun h73 => ?_) (fun h73 => ?_)
                      · have ez : mcy ax (nI 2) s (nI z) = nI z := if_neg h73
                        have hg := hGs z y x hx hy
                        unfold mrS at hg
                        rw [if_pos hcl, ex, ey, ez] at hg
                        refine j_il dX8_mirror_83 rfl ?_
                        refine j_V3n mf_X1_put ml_X8_99 dX8_mirror_85 (Nat.le_of_ble_eq_true rfl) (Nat.le_of_ble_eq_true rfl) (Nat.le_of_ble_eq_true rfl) ⟨(Nat.le_of_ble_eq_true rfl), (Nat.le_of_ble_eq_true rfl)⟩ (by first | assumption | decide | (simp only [nv] at *; omega)) rfl rfl (c_X1_put hc) ?_
                        refine j_incN_6 1 dX8_mirror_88 rfl (by decide) rfl ?_
                        refine j_goto (tgt := 23) dX8_mirror_91 (by decide) ?_
                        refine j_mem ?_ ihx
                        first | (rw [hg]; done) | (rw [sL_sL, mL_sL, if_pos rfl, hg]; done)
                      · have ez : mcy ax (nI 2) s (nI z) = s - nI z := if_pos h73
                        have hg := hGs z y x hx hy
                        unfold mrS at hg
                        rw [if_pos hcl, ex, ey, ez] at hg
                        refine j_iln dX8_mirror_76 rfl rfl ?_
                        refine j_il dX8_mirror_77 rfl ?_
                        refine j_isub dX8_mirror_79 ?_
                        refine j_goto (tgt := 85) dX8_mirror_80 (by decide) ?_
                        refine j_V3n mf_X1_put ml_X8_99 dX8_mirror_85 (Nat.le_of_ble_eq_true rfl) (Nat.le_of_ble_eq_true rfl) (Nat.le_of_ble_eq_true rfl) ⟨(Nat.le_of_ble_eq_true rfl), (Nat.le_of_ble_eq_true rfl)⟩ (by first | assumption | decide | (simp only [nv] at *; omega)) rfl rfl (c_X1_put hc) ?_
                        refine j_incN_6 1 dX8_mirror_88 rfl (by decide) rfl ?_
                        refine j_goto (tgt := 23) dX8_mirror_91 (by decide) ?_
                        refine j_mem ?_ ihx
                        first | (rw [hg]; done) | (rw [sL_sL, mL_sL, if_pos rfl, hg]; done)
                    · have ey : mcy ax (nI 1) s (nI y) = s - nI y := if_pos h59
                      refine j_iln dX8_mirror_62 rfl rfl ?_
                      refine j_il dX8_mirror_63 rfl ?_
                      refine j_isub dX8_mirror_65 ?_
                      refine j_goto (tgt := 71) dX8_mirror_66 (by decide) ?_
                      refine j_iln dX8_mirror_71 rfl rfl ?_
                      refine j_icN 2 dX8_mirror_72 rfl ?_
                      refine j_icne (tgt := 83) dX8_mirror_73 (by decide) (fun h73 => ?_) (fun h73 => ?_)
                      · have ez : mcy ax (nI 2) s (nI z) = nI z := if_neg h73
                        have hg := hGs z y x hx hy
                        unfold mrS at hg
                        rw [if_pos hcl, ex, ey, ez] at hg
                        refine j_il dX8_mirror_83 rfl ?_
                        refine j_V3n mf_X1_put ml_X8_99 dX8_mirror_85 (Nat.le_of_ble_eq_true rfl) (Nat.le_of_ble_eq_true rfl) (Nat.le_of_ble_eq_true rfl) ⟨(Nat.le_of_ble_eq_true rfl), (Nat.le_of_ble_eq_true rfl)⟩ (by first | assumption | decide | (simp only [nv] at *; omega)) rfl rfl (c_X1_put hc) ?_
                        refine j_incN_6 1 dX8_mirror_88 rfl (by decide) rfl ?_
                        refine j_goto (tgt := 23) dX8_mirror_91 (by decide) ?_
                        refine j_mem ?_ ihx
                        first | (rw [hg]; done) | (rw [sL_sL, mL_sL, if_pos rfl, hg]; done)
                      · have ez : mcy ax (nI 2) s (nI z) = s - nI z := if_pos h73
                        have hg := hGs z y x hx hy
                        unfold mrS at hg
                        rw [if_pos hcl, ex, ey, ez] at hg
                        refine j_iln dX8_mirror_76 rfl rfl ?_
                        refine j_il dX8_mirror_77 rfl ?_
                        refine j_isub dX8_mirror_79 ?_
                        refine j_goto (tgt := 85) dX8_mirror_80 (by decide) ?_
                        refine j_V3n mf_X1_put ml_X8_99 dX8_mirror_85 (Nat.le_of_ble_eq_true rfl) (Nat.le_of_ble_eq_true rfl) (Nat.le_of_ble_eq_true rfl) ⟨(Nat.le_of_ble_eq_true rfl), (Nat.le_of_ble_eq_true rfl)⟩ (by first | assumption | decide | (simp only [nv] at *; omega)) rfl rfl (c_X1_put hc) ?_
                        refine j_incN_6 1 dX8_mirror_88 rfl (by decide) rfl ?_
                        refine j_goto (tgt := 23) dX8_mirror_91 (by decide) ?_
                        refine j_mem ?_ ihx
                        first | (rw [hg]; done) | (rw [sL_sL, mL_sL, if_pos rfl, hg]; done)
          refine j_il dX8_mirror_13 rfl ?_
          refine j_biN 8 dX8_mirror_15 rfl ?_
          refine j_icgeN (tgt := 100) dX8_mirror_17 (by decide) (by omega) (by omega) (fun h17 => ?_) (fun h17 => ?_)
          · exact absurd h17 (by omega)
          · refine j_icN 0 dX8_mirror_20 rfl ?_
            refine j_ist_6 dX8_mirror_21 (by decide) rfl ?_
            exact KX 0 (by omega)
      refine j_il dX8_mirror_3 rfl ?_
      refine j_biN 8 dX8_mirror_5 rfl ?_
      refine j_icgeN (tgt := 106) dX8_mirror_7 (by decide) (by omega) (by omega) (fun h7 => ?_) (fun h7 => ?_)
      · exact absurd h7 (by omega)
      · refine j_icN 0 dX8_mirror_10 rfl ?_
        refine j_ist_5 dX8_mirror_11 (by decide) rfl ?_
        refine j_mem ?_ (KY 0 (by omega) _)
        rw [show z * 64 + 0 * 8 = z * 64 by omega]
  refine j_icN 0 dX8_mirror_0 rfl ?_
  refine j_ist_4 dX8_mirror_1 (by decide) rfl ?_
  have K0 := KZ 0 (by omega) none none
  rw [show 0 * 64 = 0 from rfl, hG0, sL_id] at K0
  exact K0
set_option maxRecDepth 100000 in
set_option maxHeartbeats 4000000 in
theorem c_X8_repeat {l : Launch} {E : Ev} {M : Mm} {c q : Nat} (hc : c < nv 7) (hq : q < nv 7) (hne : ¬ q = c) : Ct l E yX8_repeat cX8_repeat 4 none 3 0 0 [.ref (eA E 29 0), .ref (eA E 7 q), .ref (eA E 7 c)] M (dn (sL M c (rpX (mL M q) (mI M 29 3) (fun k => mI M 29 0 * nI k) (fun k => mI M 29 1 * nI k) (fun k => mI M 29 2 * nI k) (mL M c)))) := by
  refine Ct.of (own := RX8) rfl [some (.ref (eA E 29 0)), some (.ref (eA E 7 q)), some (.ref (eA E 7 c)), none] (by decide) (Nat.le_of_ble_eq_true rfl) rfl ?_
  obtain ⟨G, hG0, hGk, hG8⟩ : ∃ G : Nat → Nat → Int64, G 0 = mL M c ∧ (∀ k, G (k + 1) = if mI M 29 3 < nI (k + 1) then G k else fun w => sldz (G k) (mL M q) (mI M 29 0 * nI (k + 1)) (mI M 29 1 * nI (k + 1)) (mI M 29 2 * nI (k + 1)) w) ∧ rpX (mL M q) (mI M 29 3) (fun k => mI M 29 0 * nI k) (fun k => mI M 29 1 * nI k) (fun k => mI M 29 2 * nI k) (mL M c) = G 7 := ⟨rpK (mL M q) (mI M 29 3) (fun k => mI M 29 0 * nI k) (fun k => mI M 29 1 * nI k) (fun k => mI M 29 2 * nI k) (mL M c), rpK_0 _ _ _ _ _ _, rpK_s _ _ _ _ _ _, by rw [rpX]⟩
  rw [hG8]
  have K : ∀ k, k ≤ 7 → Jd l E RX8 cX8_repeat 4 none [] (rmm 3 0 0) (QfN E (dn (sL M c (G 7))) 0 0) 0 0 2 [some (.ref (eA E 29 0)), some (.ref (eA E 7 q)), some (.ref (eA E 7 c)), some (.int (nI (k + 1)))] [] (sL M c (G k)) := by
    refine up_to 7 _ ?_ (fun k hk ih => ?_)
    · refine j_iln dX8_repeat_2 rfl rfl ?_
      refine j_biN 8 dX8_repeat_3 rfl ?_
      refine j_icgeN (tgt := 41) dX8_repeat_5 (by decide) (by omega) (by omega) (fun h5 => ?_) (fun h5 => ?_)
      · exact j_vret dX8_repeat_41 rfl (Nat.le_of_ble_eq_true rfl) (Nat.le_of_ble_eq_true rfl) ⟨rfl, rfl⟩
      · exact absurd (Nat.le_refl 8) h5
    · refine j_iln dX8_repeat_2 rfl rfl ?_
      refine j_biN 8 dX8_repeat_3 rfl ?_
      refine j_icgeN (tgt := 41) dX8_repeat_5 (by decide) (by omega) (by omega) (fun h5 => ?_) (fun h5 => ?_)
      · exact absurd h5 (by omega)
      · refine j_iln dX8_repeat_8 rfl rfl ?_
        refine j_aln dX8_repeat_9 rfl rfl ?_
        refine j_icN 3 dX8_repeat_10 rfl ?_
        refine j_aildN dX8_repeat_11 rfl rfl rfl (by decide) (by omega) ?_
        refine j_icgt (tgt := 41) dX8_repeat_12 (by decide) (fun h12 => ?_) (fun h12 => ?_)
        · have hg : G 7 = G k := rp_stop (u := mI M 29 3) (fun j hj => by rw [hGk, if_pos hj]) h12 7 (by omega) (by decide)
          exact j_vret dX8_repeat_41 rfl (Nat.le_of_ble_eq_true rfl) (Nat.le_of_ble_eq_true rfl) ⟨rfl, by rw [hg]⟩
        · have hg := hGk k
          rw [if_neg (show ¬ mI M 29 3 < nI (k + 1) from h12)] at hg
          refine j_aln dX8_repeat_15 rfl rfl ?_
          refine j_aln dX8_repeat_16 rfl rfl ?_
          refine j_aln dX8_repeat_17 rfl rfl ?_
          refine j_icN 0 dX8_repeat_18 rfl ?_
          refine j_aildN dX8_repeat_19 rfl rfl rfl (by decide) (by omega) ?_
          refine j_iln dX8_repeat_20 rfl rfl ?_
          refine j_imul dX8_repeat_21 ?_
          refine j_aln dX8_repeat_22 rfl rfl ?_
          refine j_icN 1 dX8_repeat_23 rfl ?_
          refine j_aildN dX8_repeat_24 rfl rfl rfl (by decide) (by omega) ?_
          refine j_iln dX8_repeat_25 rfl rfl ?_
          refine j_imul dX8_repeat_26 ?_
          refine j_aln dX8_repeat_27 rfl rfl ?_
          refine j_icN 2 dX8_repeat_28 rfl ?_
          refine j_aildN dX8_repeat_29 rfl rfl rfl (by decide) (by omega) ?_
          refine j_iln dX8_repeat_30 rfl rfl ?_
          refine j_imul dX8_repeat_31 ?_
          refine j_V4n mf_X1_addSlid ml_X8_103 dX8_repeat_32 (Nat.le_of_ble_eq_true rfl) (Nat.le_of_ble_eq_true rfl) (Nat.le_of_ble_eq_true rfl) ⟨(Nat.le_of_ble_eq_true rfl), (Nat.le_of_ble_eq_true rfl)⟩ (by first | assumption | decide | (simp only [nv] at *; omega)) rfl rfl (c_X1_addSlid hc hq hne) ?_
          refine j_incN_3 1 dX8_repeat_35 rfl (by decide) rfl ?_
          refine j_goto (tgt := 2) dX8_repeat_38 (by decide) ?_
          refine j_mem ?_ ih
          rw [sL_sL, hg]
          congr 1
          funext w
          rw [mL_sL, if_pos rfl, mL_sL, if_neg hne]; rfl
  refine j_icN 1 dX8_repeat_0 rfl ?_
  refine j_ist_3 dX8_repeat_1 (by decide) rfl ?_
  have K0 := K 0 (by omega)
  rw [hG0, sL_id] at K0
  exact K0
set_option maxRecDepth 100000 in
set_option maxHeartbeats 4000000 in
theorem c_X8_push {l : Launch} {E : Ev} {M : Mm} {c s : Nat} {ht wy : Int32} (hc : c < nv 7) (hne : ¬ c = 16) (hs : s < 6) (hwy : (if s % 2 = 0 then (-1 : Int32) else nI 1) = wy) : Ct l E yX8_push cX8_push 8 none 3 0 0 [.ref (eA E 4 0), .int (nI s), .int ht, .ref (eA E 7 c)] M (dn (sL M c (rpX (mL M 16) ht (fun k => pay (s / 2) 0 (wy * nI k)) (fun k => pay (s / 2) 1 (wy * nI k)) (fun k => pay (s / 2) 2 (wy * nI k)) (mL M c)))) := by
  refine Ct.of (own := RX8) rfl [some (.ref (eA E 4 0)), some (.int (nI s)), some (.int ht), some (.ref (eA E 7 c)), none, none, none, none] (by decide) (Nat.le_of_ble_eq_true rfl) rfl ?_
  obtain ⟨G, hG0, hGk, hG8⟩ : ∃ G : Nat → Nat → Int64, G 0 = mL M c ∧ (∀ k, G (k + 1) = if ht < nI (k + 1) then G k else fun w => sldz (G k) (mL M 16) (pay (s / 2) 0 (wy * nI (k + 1))) (pay (s / 2) 1 (wy * nI (k + 1))) (pay (s / 2) 2 (wy * nI (k + 1))) w) ∧ rpX (mL M 16) ht (fun k => pay (s / 2) 0 (wy * nI k)) (fun k => pay (s / 2) 1 (wy * nI k)) (fun k => pay (s / 2) 2 (wy * nI k)) (mL M c) = G 7 := ⟨rpK (mL M 16) ht (fun k => pay (s / 2) 0 (wy * nI k)) (fun k => pay (s / 2) 1 (wy * nI k)) (fun k => pay (s / 2) 2 (wy * nI k)) (mL M c), rpK_0 _ _ _ _ _ _, rpK_s _ _ _ _ _ _, by rw [rpX]⟩
  rw [hG8]
  have K : ∀ k, k ≤ 7 → ∀ (o7 : Option Value), Jd l E RX8 cX8_push 8 none [] (rmm 3 0 0) (QfN E (dn (sL M c (G 7))) 0 0) 0 0 21 [some (.ref (eA E 4 0)), some (.int (nI s)), some (.int ht), some (.ref (eA E 7 c)), some (.int (nI (s / 2))), some (.int wy), some (.int (nI (k + 1))), o7] [] (sL M c (G k)) := by
    refine up_to 7 _ ?_ (fun k hk ih => ?_)
    · intro o7
      refine j_il dX8_push_21 rfl ?_
      refine j_biN 8 dX8_push_23 rfl ?_
      refine j_icgeN (tgt := 90) dX8_push_25 (by decide) (by omega) (by omega) (fun h25 => ?_) (fun h25 => ?_)
      · exact j_vret dX8_push_90 rfl (Nat.le_of_ble_eq_true rfl) (Nat.le_of_ble_eq_true rfl) ⟨rfl, rfl⟩
      · exact absurd (Nat.le_refl 8) h25
    · intro o7
      refine j_il dX8_push_21 rfl ?_
      refine j_biN 8 dX8_push_23 rfl ?_
      refine j_icgeN (tgt := 90) dX8_push_25 (by decide) (by omega) (by omega) (fun h25 => ?_) (fun h25 => ?_)
      · exact absurd h25 (by omega)
      · refine j_il dX8_push_28 rfl ?_
        refine j_iln dX8_push_30 rfl rfl ?_
        refine j_icgt (tgt := 90) dX8_push_31 (by decide) (fun h31 => ?_) (fun h31 => ?_)
        · have hg : G 7 = G k := rp_stop (u := ht) (fun j hj => by rw [hGk, if_pos hj]) h31 7 (by omega) (by decide)
          exact j_vret dX8_push_90 rfl (Nat.le_of_ble_eq_true rfl) (Nat.le_of_ble_eq_true rfl) ⟨rfl, by rw [hg]⟩
        · have hg := hGk k
          rw [if_neg h31] at hg
          refine j_il dX8_push_34 rfl ?_
          refine j_il dX8_push_36 rfl ?_
          refine j_imul dX8_push_38 ?_
          refine j_ist_7 dX8_push_39 (by decide) rfl ?_
          refine j_aln dX8_push_41 rfl rfl ?_
          refine j_aln dX8_push_42 rfl rfl ?_
          refine g_X8_1 dX8_push_43 fl_X8_18 ?_
          refine j_il dX8_push_46 rfl ?_
          refine j_ifneN (tgt := 56) dX8_push_48 (by decide) (by omega) (fun h48 => ?_) (fun h48 => ?_)
          · have ex : pay (s / 2) 0 (wy * nI (k + 1)) = nI 0 := if_neg h48
            refine j_icN 0 dX8_push_56 rfl ?_
            refine j_il dX8_push_57 rfl ?_
            refine j_icN 1 dX8_push_59 rfl ?_
            refine j_icneN (tgt := 68) dX8_push_60 (by decide) (by omega) (by omega) (fun h60 => ?_) (fun h60 => ?_)
            · have ey : pay (s / 2) 1 (wy * nI (k + 1)) = nI 0 := if_neg h60
              refine j_icN 0 dX8_push_68 rfl ?_
              refine j_il dX8_push_69 rfl ?_
              refine j_icN 2 dX8_push_71 rfl ?_
              refine j_icneN (tgt := 80) dX8_push_72 (by decide) (by omega) (by omega) (fun h72 => ?_) (fun h72 => ?_)
              · have ez : pay (s / 2) 2 (wy * nI (k + 1)) = nI 0 := if_neg h72
                refine j_icN 0 dX8_push_80 rfl ?_
                refine j_V4n mf_X1_addSlid ml_X8_103 dX8_push_81 (Nat.le_of_ble_eq_true rfl) (Nat.le_of_ble_eq_true rfl) (Nat.le_of_ble_eq_true rfl) ⟨(Nat.le_of_ble_eq_true rfl), (Nat.le_of_ble_eq_true rfl)⟩ (by first | assumption | decide | (simp only [nv] at *; omega)) rfl rfl (c_X1_addSlid hc (show 16 < nv 7 by decide) (fun q => hne q.symm)) ?_
                refine j_incN_6 1 dX8_push_84 rfl (by decide) rfl ?_
                refine j_goto (tgt := 21) dX8_push_87 (by decide) ?_
                refine j_mem ?_ (ih _)
                rw [sL_sL, hg]
                congr 1
                funext w
                rw [mL_sL, if_pos rfl, mL_sL, if_neg (fun q => hne q.symm), ex, ey, ez]
              · have ez : pay (s / 2) 2 (wy * nI (k + 1)) = wy * nI (k + 1) := if_pos h72
                refine j_il dX8_push_75 rfl ?_
                refine j_goto (tgt := 81) dX8_push_77 (by decide) ?_
                refine j_V4n mf_X1_addSlid ml_X8_103 dX8_push_81 (Nat.le_of_ble_eq_true rfl) (Nat.le_of_ble_eq_true rfl) (Nat.le_of_ble_eq_true rfl) ⟨(Nat.le_of_ble_eq_true rfl), (Nat.le_of_ble_eq_true rfl)⟩ (by first | assumption | decide | (simp only [nv] at *; omega)) rfl rfl (c_X1_addSlid hc (show 16 < nv 7 by decide) (fun q => hne q.symm)) ?_
                refine j_incN_6 1 dX8_push_84 rfl (by decide) rfl ?_
                refine j_goto (tgt := 21) dX8_push_87 (by decide) ?_
                refine j_mem ?_ (ih _)
                rw [sL_sL, hg]
                congr 1
                funext w
                rw [mL_sL, if_pos rfl, mL_sL, if_neg (fun q => hne q.symm), ex, ey, ez]
            · have ey : pay (s / 2) 1 (wy * nI (k + 1)) = wy * nI (k + 1) := if_pos h60
              refine j_il dX8_push_63 rfl ?_
              refine j_goto (tgt := 69) dX8_push_65 (by decide) ?_
              refine j_il dX8_push_69 rfl ?_
              refine j_icN 2 dX8_push_71 rfl ?_
              refine j_icneN (tgt := 80) dX8_push_72 (by decide) (by omega) (by omega) (fun h72 => ?_) (fun h72 => ?_)
              · have ez : pay (s / 2) 2 (wy * nI (k + 1)) = nI 0 := if_neg h72
                refine j_icN 0 dX8_push_80 rfl ?_
                refine j_V4n mf_X1_addSlid ml_X8_103 dX8_push_81 (Nat.le_of_ble_eq_true rfl) (Nat.le_of_ble_eq_true rfl) (Nat.le_of_ble_eq_true rfl) ⟨(Nat.le_of_ble_eq_true rfl), (Nat.le_of_ble_eq_true rfl)⟩ (by first | assumption | decide | (simp only [nv] at *; omega)) rfl rfl (c_X1_addSlid hc (show 16 < nv 7 by decide) (fun q => hne q.symm)) ?_
                refine j_incN_6 1 dX8_push_84 rfl (by decide) rfl ?_
                refine j_goto (tgt := 21) dX8_push_87 (by decide) ?_
                refine j_mem ?_ (ih _)
                rw [sL_sL, hg]
                congr 1
                funext w
                rw [mL_sL, if_pos rfl, mL_sL, if_neg (fun q => hne q.symm), ex, ey, ez]
              · have ez : pay (s / 2) 2 (wy * nI (k + 1)) = wy * nI (k + 1) := if_pos h72
                refine j_il dX8_push_75 rfl ?_
                refine j_goto (tgt := 81) dX8_push_77 (by decide) ?_
                refine j_V4n mf_X1_addSlid ml_X8_103 dX8_push_81 (Nat.le_of_ble_eq_true rfl) (Nat.le_of_ble_eq_true rfl) (Nat.le_of_ble_eq_true rfl) ⟨(Nat.le_of_ble_eq_true rfl), (Nat.le_of_ble_eq_true rfl)⟩ (by first | assumption | decide | (simp only [nv] at *; omega)) rfl rfl (c_X1_addSlid hc (show 16 < nv 7 by decide) (fun q => hne q.symm)) ?_
                refine j_incN_6 1 dX8_push_84 rfl (by decide) rfl ?_
                refine j_goto (tgt := 21) dX8_push_87 (by decide) ?_
                refine j_mem ?_ (ih _)
                rw [sL_sL, hg]
                congr 1
                funext w
                rw [mL_sL, if_pos rfl, mL_sL, if_neg (fun q => hne q.symm), ex, ey, ez]
          · have ex : pay (s / 2) 0 (wy * nI (k + 1)) = wy * nI (k + 1) := if_pos h48
            refine j_il dX8_push_51 rfl ?_
            refine j_goto (tgt := 57) dX8_push_53 (by decide) ?_
            refine j_il dX8_push_57 rfl ?_
            refine j_icN 1 dX8_push_59 rfl ?_
            refine j_icneN (tgt := 68) dX8_push_60 (by decide) (by omega) (by omega) (fun h60 => ?_) (fun h60 => ?_)
            · have ey : pay (s / 2) 1 (wy * nI (k + 1)) = nI 0 := if_neg h60
              refine j_icN 0 dX8_push_68 rfl ?_
              refine j_il dX8_push_69 rfl ?_
              refine j_icN 2 dX8_push_71 rfl ?_
              refine j_icneN (tgt := 80) dX8_push_72 (by decide) (by omega) (by omega) (fun h72 => ?_) (fun h72 => ?_)
              · have ez : pay (s / 2) 2 (wy * nI (k + 1)) = nI 0 := if_neg h72
                refine j_icN 0 dX8_push_80 rfl ?_
                refine j_V4n mf_X1_addSlid ml_X8_103 dX8_push_81 (Nat.le_of_ble_eq_true rfl) (Nat.le_of_ble_eq_true rfl) (Nat.le_of_ble_eq_true rfl) ⟨(Nat.le_of_ble_eq_true rfl), (Nat.le_of_ble_eq_true rfl)⟩ (by first | assumption | decide | (simp only [nv] at *; omega)) rfl rfl (c_X1_addSlid hc (show 16 < nv 7 by decide) (fun q => hne q.symm)) ?_
                refine j_incN_6 1 dX8_push_84 rfl (by decide) rfl ?_
                refine j_goto (tgt := 21) dX8_push_87 (by decide) ?_
                refine j_mem ?_ (ih _)
                rw [sL_sL, hg]
                congr 1
                funext w
                rw [mL_sL, if_pos rfl, mL_sL, if_neg (fun q => hne q.symm), ex, ey, ez]
              · have ez : pay (s / 2) 2 (wy * nI (k + 1)) = wy * nI (k + 1) := if_pos h72
                refine j_il dX8_push_75 rfl ?_
                refine j_goto (tgt := 81) dX8_push_77 (by decide) ?_
                refine j_V4n mf_X1_addSlid ml_X8_103 dX8_push_81 (Nat.le_of_ble_eq_true rfl) (Nat.le_of_ble_eq_true rfl) (Nat.le_of_ble_eq_true rfl) ⟨(Nat.le_of_ble_eq_true rfl), (Nat.le_of_ble_eq_true rfl)⟩ (by first | assumption | decide | (simp only [nv] at *; omega)) rfl rfl (c_X1_addSlid hc (show 16 < nv 7 by decide) (fun q => hne q.symm)) ?_
                refine j_incN_6 1 dX8_push_84 rfl (by decide) rfl ?_
                refine j_goto (tgt := 21) dX8_push_87 (by decide) ?_
                refine j_mem ?_ (ih _)
                rw [sL_sL, hg]
                congr 1
                funext w
                rw [mL_sL, if_pos rfl, mL_sL, if_neg (fun q => hne q.symm), ex, ey, ez]
            · have ey : pay (s / 2) 1 (wy * nI (k + 1)) = wy * nI (k + 1) := if_pos h60
              refine j_il dX8_push_63 rfl ?_
              refine j_goto (tgt := 69) dX8_push_65 (by decide) ?_
              refine j_il dX8_push_69 rfl ?_
              refine j_icN 2 dX8_push_71 rfl ?_
              refine j_icneN (tgt := 80) dX8_push_72 (by decide) (by omega) (by omega) (fun h72 => ?_) (fun h72 => ?_)
              · have ez : pay (s / 2) 2 (wy * nI (k + 1)) = nI 0 := if_neg h72
                refine j_icN 0 dX8_push_80 rfl ?_
                refine j_V4n mf_X1_addSlid ml_X8_103 dX8_push_81 (Nat.le_of_ble_eq_true rfl) (Nat.le_of_ble_eq_true rfl) (Nat.le_of_ble_eq_true rfl) ⟨(Nat.le_of_ble_eq_true rfl), (Nat.le_of_ble_eq_true rfl)⟩ (by first | assumption | decide | (simp only [nv] at *; omega)) rfl rfl (c_X1_addSlid hc (show 16 < nv 7 by decide) (fun q => hne q.symm)) ?_
                refine j_incN_6 1 dX8_push_84 rfl (by decide) rfl ?_
                refine j_goto (tgt := 21) dX8_push_87 (by decide) ?_
                refine j_mem ?_ (ih _)
                rw [sL_sL, hg]
                congr 1
                funext w
                rw [mL_sL, if_pos rfl, mL_sL, if_neg (fun q => hne q.symm), ex, ey, ez]
              · have ez : pay (s / 2) 2 (wy * nI (k + 1)) = wy * nI (k + 1) := if_pos h72
                refine j_il dX8_push_75 rfl ?_
                refine j_goto (tgt := 81) dX8_push_77 (by decide) ?_
                refine j_V4n mf_X1_addSlid ml_X8_103 dX8_push_81 (Nat.le_of_ble_eq_true rfl) (Nat.le_of_ble_eq_true rfl) (Nat.le_of_ble_eq_true rfl) ⟨(Nat.le_of_ble_eq_true rfl), (Nat.le_of_ble_eq_true rfl)⟩ (by first | assumption | decide | (simp only [nv] at *; omega)) rfl rfl (c_X1_addSlid hc (show 16 < nv 7 by decide) (fun q => hne q.symm)) ?_
                refine j_incN_6 1 dX8_push_84 rfl (by decide) rfl ?_
                refine j_goto (tgt := 21) dX8_push_87 (by decide) ?_
                refine j_mem ?_ (ih _)
                rw [sL_sL, hg]
                congr 1
                funext w
                rw [mL_sL, if_pos rfl, mL_sL, if_neg (fun q => hne q.symm), ex, ey, ez]
  have T : Jd l E RX8 cX8_push 8 none [] (rmm 3 0 0) (QfN E (dn (sL M c (G 7))) 0 0) 0 0 16 [some (.ref (eA E 4 0)), some (.int (nI s)), some (.int ht), some (.ref (eA E 7 c)), some (.int (nI (s / 2))), none, none, none] [.int wy] M := by
    refine j_ist_5 dX8_push_16 (by decide) rfl ?_
    refine j_icN 1 dX8_push_18 rfl ?_
    refine j_ist_6 dX8_push_19 (by decide) rfl ?_
    have K0 := K 0 (by omega) none
    rw [hG0, sL_id] at K0
    exact K0
  refine j_iln dX8_push_0 rfl rfl ?_
  refine j_icN 2 dX8_push_1 rfl ?_
  refine j_idivN dX8_push_2 (by omega) (by omega) (by omega) ?_
  refine j_ist_4 dX8_push_3 (by decide) rfl ?_
  refine j_iln dX8_push_5 rfl rfl ?_
  refine j_icN 2 dX8_push_6 rfl ?_
  refine j_iremN dX8_push_7 (by omega) (by omega) (by omega) ?_
  refine j_ifneN (tgt := 15) dX8_push_8 (by decide) (by omega) (fun h8 => ?_) (fun h8 => ?_)
  · have hw : wy = nI 1 := by rw [← hwy, if_neg h8]
    refine j_icN 1 dX8_push_15 rfl ?_
    refine j_topi hw.symm ?_
    exact T
  · have hw : wy = (-1) := by rw [← hwy, if_pos h8]
    refine j_ic (v := (-1)) dX8_push_11 (by decide) ?_
    refine j_goto (tgt := 16) dX8_push_12 (by decide) ?_
    refine j_topi hw.symm ?_
    exact T
