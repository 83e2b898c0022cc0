/-! the model: cells and squares; what is needed -/
def in7 (x : Int32) : Bool := inX x (nI 0) (nI 7)
theorem in7_n {x : Int32} (h : in7 x = true) : ∃ n, n < 8 ∧ x = nI n := by
  have h2 := inX_i.mp h
  obtain ⟨w, hw, rfl⟩ := nn_le (n := 7) (by decide) h2.1 (Int32.not_lt.mp h2.2)
  exact ⟨w, by omega, rfl⟩
def clX (x y z : Int32) : Int32 := if in7 x = true ∧ in7 y = true ∧ in7 z = true then nI (64 * ntX x + 8 * ntX y + ntX z) else -1
theorem clX_n {x y z : Int32} (h : ¬ clX x y z = -1) : ∃ w, w < 512 ∧ clX x y z = nI w := by
  unfold clX at *
  by_cases q : in7 x = true ∧ in7 y = true ∧ in7 z = true
  · obtain ⟨a, ha, rfl⟩ := in7_n q.1
    obtain ⟨b, hb, rfl⟩ := in7_n q.2.1
    obtain ⟨c, hc, rfl⟩ := in7_n q.2.2
    rw [if_pos q, ntX_nI (by omega), ntX_nI (by omega), ntX_nI (by omega)]
    exact ⟨_, by omega, rfl⟩
  · rw [if_neg q] at h
    exact absurd rfl h
def alN (n a : Nat) : Nat := if a = 0 then n / 64 else if a = 1 then n / 8 % 8 else n % 8
def sgX (s : Nat) (w : Int32) : Int32 := if s % 2 = 0 then -w else w
def awX (n s : Nat) (w : Int32) : Int32 := clX (nI (alN n 0) + pay (s / 2) 0 (sgX s w)) (nI (alN n 1) + pay (s / 2) 1 (sgX s w)) (nI (alN n 2) + pay (s / 2) 2 (sgX s w))
def isqX (M : Mm) (n s : Nat) : Bool := decide (¬ mI M 54 n = 0) && (decide (awX n s (nI 1) = -1) || decide (mI M 54 (ntX (awX n s (nI 1))) = 0))
set_option maxRecDepth 100000 in
set_option maxHeartbeats 4000000 in
theorem c_X10_cell {l : Launch} {E : Ev} {M : Mm} {x y z : Int32}  : Ct l E yX10_cell cX10_cell 3 (some .int) 2 0 0 [.int x, .int y, .int z] M (dv (.int (clX x y z)) M) := by
  refine Ct.of (own := RX10) rfl [some (.int x), some (.int y), some (.int z)] (by decide) (Nat.le_of_ble_eq_true rfl) rfl ?_
  refine j_iln dX10_cell_0 rfl rfl ?_
  refine j_icN 0 dX10_cell_1 rfl ?_
  refine j_biN 7 dX10_cell_2 rfl ?_
  refine j_S3d mf_X10_in ml_X10_100 dX10_cell_4 (Nat.le_of_ble_eq_true rfl) (Nat.le_of_ble_eq_true rfl) (Nat.le_of_ble_eq_true rfl) ⟨(Nat.le_of_ble_eq_true rfl), (Nat.le_of_ble_eq_true rfl)⟩ c_X10_in ?_
  refine j_ifeq (tgt := 44) dX10_cell_7 (by decide) (fun h7 => ?_) (fun h7 => ?_)
  · have hr : clX x y z = -1 := if_neg (fun q => by have e := bI_eq.mp h7; rw [show inX x (nI 0) (nI 7) = true from q.1] at e; exact absurd e (by decide))
    refine j_ic (v := (-1)) dX10_cell_44 (by decide) ?_
    exact j_iret dX10_cell_45 rfl rfl (Nat.le_of_ble_eq_true rfl) (Nat.le_of_ble_eq_true rfl) ⟨by rw [hr], rfl⟩
  · refine j_iln dX10_cell_10 rfl rfl ?_
    refine j_icN 0 dX10_cell_11 rfl ?_
    refine j_biN 7 dX10_cell_12 rfl ?_
    refine j_S3d mf_X10_in ml_X10_100 dX10_cell_14 (Nat.le_of_ble_eq_true rfl) (Nat.le_of_ble_eq_true rfl) (Nat.le_of_ble_eq_true rfl) ⟨(Nat.le_of_ble_eq_true rfl), (Nat.le_of_ble_eq_true rfl)⟩ c_X10_in ?_
    refine j_ifeq (tgt := 44) dX10_cell_17 (by decide) (fun h17 => ?_) (fun h17 => ?_)
    · have hr : clX x y z = -1 := if_neg (fun q => by have e := bI_eq.mp h17; rw [show inX y (nI 0) (nI 7) = true from q.2.1] at e; exact absurd e (by decide))
      refine j_ic (v := (-1)) dX10_cell_44 (by decide) ?_
      exact j_iret dX10_cell_45 rfl rfl (Nat.le_of_ble_eq_true rfl) (Nat.le_of_ble_eq_true rfl) ⟨by rw [hr], rfl⟩
    · refine j_iln dX10_cell_20 rfl rfl ?_
      refine j_icN 0 dX10_cell_21 rfl ?_
      refine j_biN 7 dX10_cell_22 rfl ?_
      refine j_S3d mf_X10_in ml_X10_100 dX10_cell_24 (Nat.le_of_ble_eq_true rfl) (Nat.le_of_ble_eq_true rfl) (Nat.le_of_ble_eq_true rfl) ⟨(Nat.le_of_ble_eq_true rfl), (Nat.le_of_ble_eq_true rfl)⟩ c_X10_in ?_
      refine j_ifeq (tgt := 44) dX10_cell_27 (by decide) (fun h27 => ?_) (fun h27 => ?_)
      · have hr : clX x y z = -1 := if_neg (fun q => by have e := bI_eq.mp h27; rw [show inX z (nI 0) (nI 7) = true from q.2.2] at e; exact absurd e (by decide))
        refine j_ic (v := (-1)) dX10_cell_44 (by decide) ?_
        exact j_iret dX10_cell_45 rfl rfl (Nat.le_of_ble_eq_true rfl) (Nat.le_of_ble_eq_true rfl) ⟨by rw [hr], rfl⟩
      · have k1 : in7 x = true := bI_ne.mp h7
        have k2 : in7 y = true := bI_ne.mp h17
        have k3 : in7 z = true := bI_ne.mp h27
        obtain ⟨a, ha, rfl⟩ := in7_n k1
        obtain ⟨b, hb, rfl⟩ := in7_n k2
        obtain ⟨c, hc, rfl⟩ := in7_n k3
        have hr : clX (nI a) (nI b) (nI c) = nI (64 * a + 8 * b + c) := by unfold clX; rw [if_pos ⟨k1, k2, k3⟩, ntX_nI (by omega), ntX_nI (by omega), ntX_nI (by omega)]
        refine j_biN 64 dX10_cell_30 rfl ?_
        refine j_iln dX10_cell_32 rfl rfl ?_
        refine j_imulN dX10_cell_33 ?_
        refine j_biN 8 dX10_cell_34 rfl ?_
        refine j_iln dX10_cell_36 rfl rfl ?_
        refine j_imulN dX10_cell_37 ?_
        refine j_iaddN dX10_cell_38 ?_
        refine j_iln dX10_cell_39 rfl rfl ?_
        refine j_iaddN dX10_cell_40 ?_
        refine j_goto (tgt := 45) dX10_cell_41 (by decide) ?_
        exact j_iret dX10_cell_45 rfl rfl (Nat.le_of_ble_eq_true rfl) (Nat.le_of_ble_eq_true rfl) ⟨by rw [hr], rfl⟩
set_option maxRecDepth 100000 in
set_option maxHeartbeats 4000000 in
theorem c_X10_along {l : Launch} {E : Ev} {M : Mm} {n a : Nat} (hn : n < 512) (ha : a < 3) : Ct l E yX10_along cX10_along 2 (some .int) 1 0 0 [.int (nI n), .int (nI a)] M (dv (.int (nI (alN n a))) M) := by
  refine Ct.of (own := RX10) rfl [some (.int (nI n)), some (.int (nI a))] (by decide) (Nat.le_of_ble_eq_true rfl) rfl ?_
  refine j_iln dX10_along_0 rfl rfl ?_
  refine j_ifneN (tgt := 11) dX10_along_1 (by decide) (by omega) (fun h1 => ?_) (fun h1 => ?_)
  · skip
    refine j_iln dX10_along_11 rfl rfl ?_
    refine j_icN 1 dX10_along_12 rfl ?_
    refine j_icneN (tgt := 26) dX10_along_13 (by decide) (by omega) (by omega) (fun h13 => ?_) (fun h13 => ?_)
    · have hr : alN n a = n % 8 := by unfold alN; rw [if_neg h1, if_neg h13]
      refine j_iln dX10_along_26 rfl rfl ?_
      refine j_biN 8 dX10_along_27 rfl ?_
      refine j_iremN dX10_along_29 (by omega) (by omega) (by omega) ?_
      exact j_iret dX10_along_30 rfl rfl (Nat.le_of_ble_eq_true rfl) (Nat.le_of_ble_eq_true rfl) ⟨by rw [hr], rfl⟩
    · have hr : alN n a = n / 8 % 8 := by unfold alN; rw [if_neg h1, if_pos h13]
      refine j_iln dX10_along_16 rfl rfl ?_
      refine j_biN 8 dX10_along_17 rfl ?_
      refine j_idivN dX10_along_19 (by omega) (by omega) (by omega) ?_
      refine j_biN 8 dX10_along_20 rfl ?_
      refine j_iremN dX10_along_22 (by omega) (by omega) (by omega) ?_
      refine j_goto (tgt := 30) dX10_along_23 (by decide) ?_
      exact j_iret dX10_along_30 rfl rfl (Nat.le_of_ble_eq_true rfl) (Nat.le_of_ble_eq_true rfl) ⟨by rw [hr], rfl⟩
  · have hr : alN n a = n / 64 := if_pos h1
    refine j_iln dX10_along_4 rfl rfl ?_
    refine j_biN 64 dX10_along_5 rfl ?_
    refine j_idivN dX10_along_7 (by omega) (by omega) (by omega) ?_
    refine j_goto (tgt := 30) dX10_along_8 (by decide) ?_
    exact j_iret dX10_along_30 rfl rfl (Nat.le_of_ble_eq_true rfl) (Nat.le_of_ble_eq_true rfl) ⟨by rw [hr], rfl⟩
set_option maxRecDepth 100000 in
set_option maxHeartbeats 4000000 in
theorem c_X10_away {l : Launch} {E : Ev} {M : Mm} {n s : Nat} {w : Int32} (hn : n < 512) (hs : s < 6) : Ct l E yX10_away cX10_away 6 (some .int) 3 0 0 [.int (nI n), .int (nI s), .int w] M (dv (.int (awX n s w)) M) := by
  refine Ct.of (own := RX10) rfl [some (.int (nI n)), some (.int (nI s)), some (.int w), none, none, none] (by decide) (Nat.le_of_ble_eq_true rfl) rfl ?_
  refine j_iln dX10_away_0 rfl rfl ?_
  refine j_icN 2 dX10_away_1 rfl ?_
  refine j_iremN dX10_away_2 (by omega) (by omega) (by omega) ?_
  refine j_ifneN (tgt := 11) dX10_away_3 (by decide) (by omega) (fun h3 => ?_) (fun h3 => ?_)
  · have hw0 : sgX s w = w := if_neg h3
    refine j_iln dX10_away_11 rfl rfl ?_
    refine j_ist_3 dX10_away_12 (by decide) rfl ?_
    refine j_iln dX10_away_13 rfl rfl ?_
    refine j_icN 0 dX10_away_14 rfl ?_
    refine j_S2d mf_X10_along ml_X10_177 dX10_away_15 (Nat.le_of_ble_eq_true rfl) (Nat.le_of_ble_eq_true rfl) (Nat.le_of_ble_eq_true rfl) ⟨(Nat.le_of_ble_eq_true rfl), (Nat.le_of_ble_eq_true rfl)⟩ (c_X10_along hn (show 0 < 3 by decide)) ?_
    refine j_iln dX10_away_18 rfl rfl ?_
    refine j_icN 2 dX10_away_19 rfl ?_
    refine j_idivN dX10_away_20 (by omega) (by omega) (by omega) ?_
    refine j_ifneN (tgt := 28) dX10_away_21 (by decide) (by omega) (fun h21 => ?_) (fun h21 => ?_)
    · have hx : pay (s / 2) 0 (sgX s w) = nI 0 := if_neg h21
      refine j_icN 0 dX10_away_28 rfl ?_
      refine j_iadd dX10_away_29 ?_
      refine j_ist_4 dX10_away_30 (by decide) rfl ?_
      refine j_iln dX10_away_32 rfl rfl ?_
      refine j_icN 1 dX10_away_33 rfl ?_
      refine j_S2d mf_X10_along ml_X10_177 dX10_away_34 (Nat.le_of_ble_eq_true rfl) (Nat.le_of_ble_eq_true rfl) (Nat.le_of_ble_eq_true rfl) ⟨(Nat.le_of_ble_eq_true rfl), (Nat.le_of_ble_eq_true rfl)⟩ (c_X10_along hn (show 1 < 3 by decide)) ?_
      refine j_iln dX10_away_37 rfl rfl ?_
      refine j_icN 2 dX10_away_38 rfl ?_
      refine j_idivN dX10_away_39 (by omega) (by omega) (by omega) ?_
      refine j_icN 1 dX10_away_40 rfl ?_
      refine j_icneN (tgt := 48) dX10_away_41 (by decide) (by omega) (by omega) (fun h41 => ?_) (fun h41 => ?_)
      · have hy : pay (s / 2) 1 (sgX s w) = nI 0 := if_neg h41
        refine j_icN 0 dX10_away_48 rfl ?_
        refine j_iadd dX10_away_49 ?_
        refine j_ist_5 dX10_away_50 (by decide) rfl ?_
        refine j_il dX10_away_52 rfl ?_
        refine j_il dX10_away_54 rfl ?_
        refine j_iln dX10_away_56 rfl rfl ?_
        refine j_icN 2 dX10_away_57 rfl ?_
        refine j_S2d mf_X10_along ml_X10_177 dX10_away_58 (Nat.le_of_ble_eq_true rfl) (Nat.le_of_ble_eq_true rfl) (Nat.le_of_ble_eq_true rfl) ⟨(Nat.le_of_ble_eq_true rfl), (Nat.le_of_ble_eq_true rfl)⟩ (c_X10_along hn (show 2 < 3 by decide)) ?_
        refine j_iln dX10_away_61 rfl rfl ?_
        refine j_icN 2 dX10_away_62 rfl ?_
        refine j_idivN dX10_away_63 (by omega) (by omega) (by omega) ?_
        refine j_icN 2 dX10_away_64 rfl ?_
        refine j_icneN (tgt := 72) dX10_away_65 (by decide) (by omega) (by omega) (fun h65 => ?_) (fun h65 => ?_)
        · have hz : pay (s / 2) 2 (sgX s w) = nI 0 := if_neg h65
          refine j_icN 0 dX10_away_72 rfl ?_
          refine j_iadd dX10_away_73 ?_
          refine j_S3d mf_X10_cell ml_X10_180 dX10_away_74 (Nat.le_of_ble_eq_true rfl) (Nat.le_of_ble_eq_true rfl) (Nat.le_of_ble_eq_true rfl) ⟨(Nat.le_of_ble_eq_true rfl), (Nat.le_of_ble_eq_true rfl)⟩ c_X10_cell ?_
          exact j_iret dX10_away_77 rfl rfl (Nat.le_of_ble_eq_true rfl) (Nat.le_of_ble_eq_true rfl) ⟨by unfold awX; first | (rw [hx, hy, hz]; done) | (rw [hx, hy, hz, hw0]; done), rfl⟩
        · have hz : pay (s / 2) 2 (sgX s w) = sgX s w := if_pos h65
          refine j_iln dX10_away_68 rfl rfl ?_
          refine j_goto (tgt := 73) dX10_away_69 (by decide) ?_
          refine j_iadd dX10_away_73 ?_
          refine j_S3d mf_X10_cell ml_X10_180 dX10_away_74 (Nat.le_of_ble_eq_true rfl) (Nat.le_of_ble_eq_true rfl) (Nat.le_of_ble_eq_true rfl) ⟨(Nat.le_of_ble_eq_true rfl), (Nat.le_of_ble_eq_true rfl)⟩ c_X10_cell ?_
          exact j_iret dX10_away_77 rfl rfl (Nat.le_of_ble_eq_true rfl) (Nat.le_of_ble_eq_true rfl) ⟨by unfold awX; first | (rw [hx, hy, hz]; done) | (rw [hx, hy, hz, hw0]; done), rfl⟩
      · have hy : pay (s / 2) 1 (sgX s w) = sgX s w := if_pos h41
        refine j_iln dX10_away_44 rfl rfl ?_
        refine j_goto (tgt := 49) dX10_away_45 (by decide) ?_
        refine j_iadd dX10_away_49 ?_
        refine j_ist_5 dX10_away_50 (by decide) rfl ?_
        refine j_il dX10_away_52 rfl ?_
        refine j_il dX10_away_54 rfl ?_
        refine j_iln dX10_away_56 rfl rfl ?_
        refine j_icN 2 dX10_away_57 rfl ?_
        refine j_S2d mf_X10_along ml_X10_177 dX10_away_58 (Nat.le_of_ble_eq_true rfl) (Nat.le_of_ble_eq_true rfl) (Nat.le_of_ble_eq_true rfl) ⟨(Nat.le_of_ble_eq_true rfl), (Nat.le_of_ble_eq_true rfl)⟩ (c_X10_along hn (show 2 < 3 by decide)) ?_
        refine j_iln dX10_away_61 rfl rfl ?_
        refine j_icN 2 dX10_away_62 rfl ?_
        refine j_idivN dX10_away_63 (by omega) (by omega) (by omega) ?_
        refine j_icN 2 dX10_away_64 rfl ?_
        refine j_icneN (tgt := 72) dX10_away_65 (by decide) (by omega) (by omega) (fun h65 => ?_) (fun h65 => ?_)
        · have hz : pay (s / 2) 2 (sgX s w) = nI 0 := if_neg h65
          refine j_icN 0 dX10_away_72 rfl ?_
          refine j_iadd dX10_away_73 ?_
          refine j_S3d mf_X10_cell ml_X10_180 dX10_away_74 (Nat.le_of_ble_eq_true rfl) (Nat.le_of_ble_eq_true rfl) (Nat.le_of_ble_eq_true rfl) ⟨(Nat.le_of_ble_eq_true rfl), (Nat.le_of_ble_eq_true rfl)⟩ c_X10_cell ?_
          exact j_iret dX10_away_77 rfl rfl (Nat.le_of_ble_eq_true rfl) (Nat.le_of_ble_eq_true rfl) ⟨by unfold awX; first | (rw [hx, hy, hz]; done) | (rw [hx, hy, hz, hw0]; done), rfl⟩
        · have hz : pay (s / 2) 2 (sgX s w) = sgX s w := if_pos h65
          refine j_iln dX10_away_68 rfl rfl ?_
          refine j_goto (tgt := 73) dX10_away_69 (by decide) ?_
          refine j_iadd dX10_away_73 ?_
          refine j_S3d mf_X10_cell ml_X10_180 dX10_away_74 (Nat.le_of_ble_eq_true rfl) (Nat.le_of_ble_eq_true rfl) (Nat.le_of_ble_eq_true rfl) ⟨(Nat.le_of_ble_eq_true rfl), (Nat.le_of_ble_eq_true rfl)⟩ c_X10_cell ?_
          exact j_iret dX10_away_77 rfl rfl (Nat.le_of_ble_eq_true rfl) (Nat.le_of_ble_eq_true rfl) ⟨by unfold awX; first | (rw [hx, hy, hz]; done) | (rw [hx, hy, hz, hw0]; done), rfl⟩
    · have hx : pay (s / 2) 0 (sgX s w) = sgX s w := if_pos h21
      refine j_iln dX10_away_24 rfl rfl ?_
      refine j_goto (tgt := 29) dX10_away_25 (by decide) ?_
      refine j_iadd dX10_away_29 ?_
      refine j_ist_4 dX10_away_30 (by decide) rfl ?_
      refine j_iln dX10_away_32 rfl rfl ?_
      refine j_icN 1 dX10_away_33 rfl ?_
      refine j_S2d mf_X10_along ml_X10_177 dX10_away_34 (Nat.le_of_ble_eq_true rfl) (Nat.le_of_ble_eq_true rfl) (Nat.le_of_ble_eq_true rfl) ⟨(Nat.le_of_ble_eq_true rfl), (Nat.le_of_ble_eq_true rfl)⟩ (c_X10_along hn (show 1 < 3 by decide)) ?_
      refine j_iln dX10_away_37 rfl rfl ?_
      refine j_icN 2 dX10_away_38 rfl ?_
      refine j_idivN dX10_away_39 (by omega) (by omega) (by omega) ?_
      refine j_icN 1 dX10_away_40 rfl ?_
      refine j_icneN (tgt := 48) dX10_away_41 (by decide) (by omega) (by omega) (fun h41 => ?_) (fun h41 => ?_)
      · have hy : pay (s / 2) 1 (sgX s w) = nI 0 := if_neg h41
        refine j_icN 0 dX10_away_48 rfl ?_
        refine j_iadd dX10_away_49 ?_
        refine j_ist_5 dX10_away_50 (by decide) rfl ?_
        refine j_il dX10_away_52 rfl ?_
        refine j_il dX10_away_54 rfl ?_
        refine j_iln dX10_away_56 rfl rfl ?_
        refine j_icN 2 dX10_away_57 rfl ?_
        refine j_S2d mf_X10_along ml_X10_177 dX10_away_58 (Nat.le_of_ble_eq_true rfl) (Nat.le_of_ble_eq_true rfl) (Nat.le_of_ble_eq_true rfl) ⟨(Nat.le_of_ble_eq_true rfl), (Nat.le_of_ble_eq_true rfl)⟩ (c_X10_along hn (show 2 < 3 by decide)) ?_
        refine j_iln dX10_away_61 rfl rfl ?_
        refine j_icN 2 dX10_away_62 rfl ?_
        refine j_idivN dX10_away_63 (by omega) (by omega) (by omega) ?_
        refine j_icN 2 dX10_away_64 rfl ?_
        refine j_icneN (tgt := 72) dX10_away_65 (by decide) (by omega) (by omega) (fun h65 => ?_) (fun h65 => ?_)
        · have hz : pay (s / 2) 2 (sgX s w) = nI 0 := if_neg h65
          refine j_icN 0 dX10_away_72 rfl ?_
          refine j_iadd dX10_away_73 ?_
          refine j_S3d mf_X10_cell ml_X10_180 dX10_away_74 (Nat.le_of_ble_eq_true rfl) (Nat.le_of_ble_eq_true rfl) (Nat.le_of_ble_eq_true rfl) ⟨(Nat.le_of_ble_eq_true rfl), (Nat.le_of_ble_eq_true rfl)⟩ c_X10_cell ?_
          exact j_iret dX10_away_77 rfl rfl (Nat.le_of_ble_eq_true rfl) (Nat.le_of_ble_eq_true rfl) ⟨by unfold awX; first | (rw [hx, hy, hz]; done) | (rw [hx, hy, hz, hw0]; done), rfl⟩
        · have hz : pay (s / 2) 2 (sgX s w) = sgX s w := if_pos h65
          refine j_iln dX10_away_68 rfl rfl ?_
          refine j_goto (tgt := 73) dX10_away_69 (by decide) ?_
          refine j_iadd dX10_away_73 ?_
          refine j_S3d mf_X10_cell ml_X10_180 dX10_away_74 (Nat.le_of_ble_eq_true rfl) (Nat.le_of_ble_eq_true rfl) (Nat.le_of_ble_eq_true rfl) ⟨(Nat.le_of_ble_eq_true rfl), (Nat.le_of_ble_eq_true rfl)⟩ c_X10_cell ?_
          exact j_iret dX10_away_77 rfl rfl (Nat.le_of_ble_eq_true rfl) (Nat.le_of_ble_eq_true rfl) ⟨by unfold awX; first | (rw [hx, hy, hz]; done) | (rw [hx, hy, hz, hw0]; done), rfl⟩
      · have hy : pay (s / 2) 1 (sgX s w) = sgX s w := if_pos h41
        refine j_iln dX10_away_44 rfl rfl ?_
        refine j_goto (tgt := 49) dX10_away_45 (by decide) ?_
        refine j_iadd dX10_away_49 ?_
        refine j_ist_5 dX10_away_50 (by decide) rfl ?_
        refine j_il dX10_away_52 rfl ?_
        refine j_il dX10_away_54 rfl ?_
        refine j_iln dX10_away_56 rfl rfl ?_
        refine j_icN 2 dX10_away_57 rfl ?_
        refine j_S2d mf_X10_along ml_X10_177 dX10_away_58 (Nat.le_of_ble_eq_true rfl) (Nat.le_of_ble_eq_true rfl) (Nat.le_of_ble_eq_true rfl) ⟨(Nat.le_of_ble_eq_true rfl), (Nat.le_of_ble_eq_true rfl)⟩ (c_X10_along hn (show 2 < 3 by decide)) ?_
        refine j_iln dX10_away_61 rfl rfl ?_
        refine j_icN 2 dX10_away_62 rfl ?_
        refine j_idivN dX10_away_63 (by omega) (by omega) (by omega) ?_
        refine j_icN 2 dX10_away_64 rfl ?_
        refine j_icneN (tgt := 72) dX10_away_65 (by decide) (by omega) (by omega) (fun h65 => ?_) (fun h65 => ?_)
        · have hz : pay (s / 2) 2 (sgX s w) = nI 0 := if_neg h65
          refine j_icN 0 dX10_away_72 rfl ?_
          refine j_iadd dX10_away_73 ?_
          refine j_S3d mf_X10_cell ml_X10_180 dX10_away_74 (Nat.le_of_ble_eq_true rfl) (Nat.le_of_ble_eq_true rfl) (Nat.le_of_ble_eq_true rfl) ⟨(Nat.le_of_ble_eq_true rfl), (Nat.le_of_ble_eq_true rfl)⟩ c_X10_cell ?_
          exact j_iret dX10_away_77 rfl rfl (Nat.le_of_ble_eq_true rfl) (Nat.le_of_ble_eq_true rfl) ⟨by unfold awX; first | (rw [hx, hy, hz]; done) | (rw [hx, hy, hz, hw0]; done), rfl⟩
        · have hz : pay (s / 2) 2 (sgX s w) = sgX s w := if_pos h65
          refine j_iln dX10_away_68 rfl rfl ?_
          refine j_goto (tgt := 73) dX10_away_69 (by decide) ?_
          refine j_iadd dX10_away_73 ?_
          refine j_S3d mf_X10_cell ml_X10_180 dX10_away_74 (Nat.le_of_ble_eq_true rfl) (Nat.le_of_ble_eq_true rfl) (Nat.le_of_ble_eq_true rfl) ⟨(Nat.le_of_ble_eq_true rfl), (Nat.le_of_ble_eq_true rfl)⟩ c_X10_cell ?_
          exact j_iret dX10_away_77 rfl rfl (Nat.le_of_ble_eq_true rfl) (Nat.le_of_ble_eq_true rfl) ⟨by unfold awX; first | (rw [hx, hy, hz]; done) | (rw [hx, hy, hz, hw0]; done), rfl⟩
  · have hw0 : sgX s w = -w := if_pos h3
    refine j_iln dX10_away_6 rfl rfl ?_
    refine j_ineg dX10_away_7 ?_
    refine j_goto (tgt := 12) dX10_away_8 (by decide) ?_
    refine j_ist_3 dX10_away_12 (by decide) rfl ?_
    refine j_iln dX10_away_13 rfl rfl ?_
    refine j_icN 0 dX10_away_14 rfl ?_
    refine j_S2d mf_X10_along ml_X10_177 dX10_away_15 (Nat.le_of_ble_eq_true rfl) (Nat.le_of_ble_eq_true rfl) (Nat.le_of_ble_eq_true rfl) ⟨(Nat.le_of_ble_eq_true rfl), (Nat.le_of_ble_eq_true rfl)⟩ (c_X10_along hn (show 0 < 3 by decide)) ?_
    refine j_iln dX10_away_18 rfl rfl ?_
    refine j_icN 2 dX10_away_19 rfl ?_
    refine j_idivN dX10_away_20 (by omega) (by omega) (by omega) ?_
    refine j_ifneN (tgt := 28) dX10_away_21 (by decide) (by omega) (fun h21 => ?_) (fun h21 => ?_)
    · have hx : pay (s / 2) 0 (sgX s w) = nI 0 := if_neg h21
      refine j_icN 0 dX10_away_28 rfl ?_
      refine j_iadd dX10_away_29 ?_
      refine j_ist_4 dX10_away_30 (by decide) rfl ?_
      refine j_iln dX10_away_32 rfl rfl ?_
      refine j_icN 1 dX10_away_33 rfl ?_
      refine j_S2d mf_X10_along ml_X10_177 dX10_away_34 (Nat.le_of_ble_eq_true rfl) (Nat.le_of_ble_eq_true rfl) (Nat.le_of_ble_eq_true rfl) ⟨(Nat.le_of_ble_eq_true rfl), (Nat.le_of_ble_eq_true rfl)⟩ (c_X10_along hn (show 1 < 3 by decide)) ?_
      refine j_iln dX10_away_37 rfl rfl ?_
      refine j_icN 2 dX10_away_38 rfl ?_
      refine j_idivN dX10_away_39 (by omega) (by omega) (by omega) ?_
      refine j_icN 1 dX10_away_40 rfl ?_
      refine j_icneN (tgt := 48) dX10_away_41 (by decide) (by omega) (by omega) (fun h41 => ?_) (fun h41 => ?_)
      · have hy : pay (s / 2) 1 (sgX s w) = nI 0 := if_neg h41
        refine j_icN 0 dX10_away_48 rfl ?_
        refine j_iadd dX10_away_49 ?_
        refine j_ist_5 dX10_away_50 (by decide) rfl ?_
        refine j_il dX10_away_52 rfl ?_
        refine j_il dX10_away_54 rfl ?_
        refine j_iln dX10_away_56 rfl rfl ?_
        refine j_icN 2 dX10_away_57 rfl ?_
        refine j_S2d mf_X10_along ml_X10_177 dX10_away_58 (Nat.le_of_ble_eq_true rfl) (Nat.le_of_ble_eq_true rfl) (Nat.le_of_ble_eq_true rfl) ⟨(Nat.le_of_ble_eq_true rfl), (Nat.le_of_ble_eq_true rfl)⟩ (c_X10_along hn (show 2 < 3 by decide)) ?_
        refine j_iln dX10_away_61 rfl rfl ?_
        refine j_icN 2 dX10_away_62 rfl ?_
        refine j_idivN dX10_away_63 (by omega) (by omega) (by omega) ?_
        refine j_icN 2 dX10_away_64 rfl ?_
        refine j_icneN (tgt := 72) dX10_away_65 (by decide) (by omega) (by omega) (fun h65 => ?_) (fun h65 => ?_)
        · have hz : pay (s / 2) 2 (sgX s w) = nI 0 := if_neg h65
          refine j_icN 0 dX10_away_72 rfl ?_
          refine j_iadd dX10_away_73 ?_
          refine j_S3d mf_X10_cell ml_X10_180 dX10_away_74 (Nat.le_of_ble_eq_true rfl) (Nat.le_of_ble_eq_true rfl) (Nat.le_of_ble_eq_true rfl) ⟨(Nat.le_of_ble_eq_true rfl), (Nat.le_of_ble_eq_true rfl)⟩ c_X10_cell ?_
          exact j_iret dX10_away_77 rfl rfl (Nat.le_of_ble_eq_true rfl) (Nat.le_of_ble_eq_true rfl) ⟨by unfold awX; first | (rw [hx, hy, hz]; done) | (rw [hx, hy, hz, hw0]; done), rfl⟩
        · have hz : pay (s / 2) 2 (sgX s w) = sgX s w := if_pos h65
          refine j_iln dX10_away_68 rfl rfl ?_
          refine j_goto (tgt := 73) dX10_away_69 (by decide) ?_
          refine j_iadd dX10_away_73 ?_
          refine j_S3d mf_X10_cell ml_X10_180 dX10_away_74 (Nat.le_of_ble_eq_true rfl) (Nat.le_of_ble_eq_true rfl) (Nat.le_of_ble_eq_true rfl) ⟨(Nat.le_of_ble_eq_true rfl), (Nat.le_of_ble_eq_true rfl)⟩ c_X10_cell ?_
          exact j_iret dX10_away_77 rfl rfl (Nat.le_of_ble_eq_true rfl) (Nat.le_of_ble_eq_true rfl) ⟨by unfold awX; first | (rw [hx, hy, hz]; done) | (rw [hx, hy, hz, hw0]; done), rfl⟩
      · have hy : pay (s / 2) 1 (sgX s w) = sgX s w := if_pos h41
        refine j_iln dX10_away_44 rfl rfl ?_
        refine j_goto (tgt := 49) dX10_away_45 (by decide) ?_
        refine j_iadd dX10_away_49 ?_
        refine j_ist_5 dX10_away_50 (by decide) rfl ?_
        refine j_il dX10_away_52 rfl ?_
        refine j_il dX10_away_54 rfl ?_
        refine j_iln dX10_away_56 rfl rfl ?_
        refine j_icN 2 dX10_away_57 rfl ?_
        refine j_S2d mf_X10_along ml_X10_177 dX10_away_58 (Nat.le_of_ble_eq_true rfl) (Nat.le_of_ble_eq_true rfl) (Nat.le_of_ble_eq_true rfl) ⟨(Nat.le_of_ble_eq_true rfl), (Nat.le_of_ble_eq_true rfl)⟩ (c_X10_along hn (show 2 < 3 by decide)) ?_
        refine j_iln dX10_away_61 rfl rfl ?_
        refine j_icN 2 dX10_away_62 rfl ?_
        refine j_idivN dX10_away_63 (by omega) (by omega) (by omega) ?_
        refine j_icN 2 dX10_away_64 rfl ?_
        refine j_icneN (tgt := 72) dX10_away_65 (by decide) (by omega) (by omega) (fun h65 => ?_) (fun h65 => ?_)
        · have hz : pay (s / 2) 2 (sgX s w) = nI 0 := if_neg h65
          refine j_icN 0 dX10_away_72 rfl ?_
          refine j_iadd dX10_away_73 ?_
          refine j_S3d mf_X10_cell ml_X10_180 dX10_away_74 (Nat.le_of_ble_eq_true rfl) (Nat.le_of_ble_eq_true rfl) (Nat.le_of_ble_eq_true rfl) ⟨(Nat.le_of_ble_eq_true rfl), (Nat.le_of_ble_eq_true rfl)⟩ c_X10_cell ?_
          exact j_iret dX10_away_77 rfl rfl (Nat.le_of_ble_eq_true rfl) (Nat.le_of_ble_eq_true rfl) ⟨by unfold awX; first | (rw [hx, hy, hz]; done) | (rw [hx, hy, hz, hw0]; done), rfl⟩
        · have hz : pay (s / 2) 2 (sgX s w) = sgX s w := if_pos h65
          refine j_iln dX10_away_68 rfl rfl ?_
          refine j_goto (tgt := 73) dX10_away_69 (by decide) ?_
          refine j_iadd dX10_away_73 ?_
          refine j_S3d mf_X10_cell ml_X10_180 dX10_away_74 (Nat.le_of_ble_eq_true rfl) (Nat.le_of_ble_eq_true rfl) (Nat.le_of_ble_eq_true rfl) ⟨(Nat.le_of_ble_eq_true rfl), (Nat.le_of_ble_eq_true rfl)⟩ c_X10_cell ?_
          exact j_iret dX10_away_77 rfl rfl (Nat.le_of_ble_eq_true rfl) (Nat.le_of_ble_eq_true rfl) ⟨by unfold awX; first | (rw [hx, hy, hz]; done) | (rw [hx, hy, hz, hw0]; done), rfl⟩
    · have hx : pay (s / 2) 0 (sgX s w) = sgX s w := if_pos h21
      refine j_iln dX10_away_24 rfl rfl ?_
      refine j_goto (tgt := 29) dX10_away_25 (by decide) ?_
      refine j_iadd dX10_away_29 ?_
      refine j_ist_4 dX10_away_30 (by decide) rfl ?_
      refine j_iln dX10_away_32 rfl rfl ?_
      refine j_icN 1 dX10_away_33 rfl ?_
      refine j_S2d mf_X10_along ml_X10_177 dX10_away_34 (Nat.le_of_ble_eq_true rfl) (Nat.le_of_ble_eq_true rfl) (Nat.le_of_ble_eq_true rfl) ⟨(Nat.le_of_ble_eq_true rfl), (Nat.le_of_ble_eq_true rfl)⟩ (c_X10_along hn (show 1 < 3 by decide)) ?_
      refine j_iln dX10_away_37 rfl rfl ?_
      refine j_icN 2 dX10_away_38 rfl ?_
      refine j_idivN dX10_away_39 (by omega) (by omega) (by omega) ?_
      refine j_icN 1 dX10_away_40 rfl ?_
      refine j_icneN (tgt := 48) dX10_away_41 (by decide) (by omega) (by omega) (fun h41 => ?_) (fun h41 => ?_)
      · have hy : pay (s / 2) 1 (sgX s w) = nI 0 := if_neg h41
        refine j_icN 0 dX10_away_48 rfl ?_
        refine j_iadd dX10_away_49 ?_
        refine j_ist_5 dX10_away_50 (by decide) rfl ?_
        refine j_il dX10_away_52 rfl ?_
        refine j_il dX10_away_54 rfl ?_
        refine j_iln dX10_away_56 rfl rfl ?_
        refine j_icN 2 dX10_away_57 rfl ?_
        refine j_S2d mf_X10_along ml_X10_177 dX10_away_58 (Nat.le_of_ble_eq_true rfl) (Nat.le_of_ble_eq_true rfl) (Nat.le_of_ble_eq_true rfl) ⟨(Nat.le_of_ble_eq_true rfl), (Nat.le_of_ble_eq_true rfl)⟩ (c_X10_along hn (show 2 < 3 by decide)) ?_
        refine j_iln dX10_away_61 rfl rfl ?_
        refine j_icN 2 dX10_away_62 rfl ?_
        refine j_idivN dX10_away_63 (by omega) (by omega) (by omega) ?_
        refine j_icN 2 dX10_away_64 rfl ?_
        refine j_icneN (tgt := 72) dX10_away_65 (by decide) (by omega) (by omega) (fun h65 => ?_) (fun h65 => ?_)
        · have hz : pay (s / 2) 2 (sgX s w) = nI 0 := if_neg h65
          refine j_icN 0 dX10_away_72 rfl ?_
          refine j_iadd dX10_away_73 ?_
          refine j_S3d mf_X10_cell ml_X10_180 dX10_away_74 (Nat.le_of_ble_eq_true rfl) (Nat.le_of_ble_eq_true rfl) (Nat.le_of_ble_eq_true rfl) ⟨(Nat.le_of_ble_eq_true rfl), (Nat.le_of_ble_eq_true rfl)⟩ c_X10_cell ?_
          exact j_iret dX10_away_77 rfl rfl (Nat.le_of_ble_eq_true rfl) (Nat.le_of_ble_eq_true rfl) ⟨by unfold awX; first | (rw [hx, hy, hz]; done) | (rw [hx, hy, hz, hw0]; done), rfl⟩
        · have hz : pay (s / 2) 2 (sgX s w) = sgX s w := if_pos h65
          refine j_iln dX10_away_68 rfl rfl ?_
          refine j_goto (tgt := 73) dX10_away_69 (by decide) ?_
          refine j_iadd dX10_away_73 ?_
          refine j_S3d mf_X10_cell ml_X10_180 dX10_away_74 (Nat.le_of_ble_eq_true rfl) (Nat.le_of_ble_eq_true rfl) (Nat.le_of_ble_eq_true rfl) ⟨(Nat.le_of_ble_eq_true rfl), (Nat.le_of_ble_eq_true rfl)⟩ c_X10_cell ?_
          exact j_iret dX10_away_77 rfl rfl (Nat.le_of_ble_eq_true rfl) (Nat.le_of_ble_eq_true rfl) ⟨by unfold awX; first | (rw [hx, hy, hz]; done) | (rw [hx, hy, hz, hw0]; done), rfl⟩
      · have hy : pay (s / 2) 1 (sgX s w) = sgX s w := if_pos h41
        refine j_iln dX10_away_44 rfl rfl ?_
        refine j_goto (tgt := 49) dX10_away_45 (by decide) ?_
        refine j_iadd dX10_away_49 ?_
        refine j_ist_5 dX10_away_50 (by decide) rfl ?_
        refine j_il dX10_away_52 rfl ?_
        refine j_il dX10_away_54 rfl ?_
        refine j_iln dX10_away_56 rfl rfl ?_
        refine j_icN 2 dX10_away_57 rfl ?_
        refine j_S2d mf_X10_along ml_X10_177 dX10_away_58 (Nat.le_of_ble_eq_true rfl) (Nat.le_of_ble_eq_true rfl) (Nat.le_of_ble_eq_true rfl) ⟨(Nat.le_of_ble_eq_true rfl), (Nat.le_of_ble_eq_true rfl)⟩ (c_X10_along hn (show 2 < 3 by decide)) ?_
        refine j_iln dX10_away_61 rfl rfl ?_
        refine j_icN 2 dX10_away_62 rfl ?_
        refine j_idivN dX10_away_63 (by omega) (by omega) (by omega) ?_
        refine j_icN 2 dX10_away_64 rfl ?_
        refine j_icneN (tgt := 72) dX10_away_65 (by decide) (by omega) (by omega) (fun h65 => ?_) (fun h65 => ?_)
        · have hz : pay (s / 2) 2 (sgX s w) = nI 0 := if_neg h65
          refine j_icN 0 dX10_away_72 rfl ?_
          refine j_iadd dX10_away_73 ?_
          refine j_S3d mf_X10_cell ml_X10_180 dX10_away_74 (Nat.le_of_ble_eq_true rfl) (Nat.le_of_ble_eq_true rfl) (Nat.le_of_ble_eq_true rfl) ⟨(Nat.le_of_ble_eq_true rfl), (Nat.le_of_ble_eq_true rfl)⟩ c_X10_cell ?_
          exact j_iret dX10_away_77 rfl rfl (Nat.le_of_ble_eq_true rfl) (Nat.le_of_ble_eq_true rfl) ⟨by unfold awX; first | (rw [hx, hy, hz]; done) | (rw [hx, hy, hz, hw0]; done), rfl⟩
        · have hz : pay (s / 2) 2 (sgX s w) = sgX s w := if_pos h65
          refine j_iln dX10_away_68 rfl rfl ?_
          refine j_goto (tgt := 73) dX10_away_69 (by decide) ?_
          refine j_iadd dX10_away_73 ?_
          refine j_S3d mf_X10_cell ml_X10_180 dX10_away_74 (Nat.le_of_ble_eq_true rfl) (Nat.le_of_ble_eq_true rfl) (Nat.le_of_ble_eq_true rfl) ⟨(Nat.le_of_ble_eq_true rfl), (Nat.le_of_ble_eq_true rfl)⟩ c_X10_cell ?_
          exact j_iret dX10_away_77 rfl rfl (Nat.le_of_ble_eq_true rfl) (Nat.le_of_ble_eq_true rfl) ⟨by unfold awX; first | (rw [hx, hy, hz]; done) | (rw [hx, hy, hz, hw0]; done), rfl⟩
set_option maxRecDepth 100000 in
set_option maxHeartbeats 4000000 in
theorem c_X10_isSquare {l : Launch} {E : Ev} {M : Mm} {n s : Nat} (hn : n < 512) (hs : s < 6) : Ct l E yX10_isSquare cX10_isSquare 4 (some .boolean) 4 0 0 [.ref (eA E 12 0), .int (nI n), .int (nI s)] M (dv (.int (bI (isqX M n s))) M) := by
  refine Ct.of (own := RX10) rfl [some (.ref (eA E 12 0)), some (.int (nI n)), some (.int (nI s)), none] (by decide) (Nat.le_of_ble_eq_true rfl) rfl ?_
  refine j_iln dX10_isSquare_0 rfl rfl ?_
  refine j_iln dX10_isSquare_1 rfl rfl ?_
  refine j_icN 1 dX10_isSquare_2 rfl ?_
  refine j_S3d mf_X10_away ml_X10_184 dX10_isSquare_3 (Nat.le_of_ble_eq_true rfl) (Nat.le_of_ble_eq_true rfl) (Nat.le_of_ble_eq_true rfl) ⟨(Nat.le_of_ble_eq_true rfl), (Nat.le_of_ble_eq_true rfl)⟩ (c_X10_away hn hs) ?_
  refine j_ist_3 dX10_isSquare_6 (by decide) rfl ?_
  refine j_aln dX10_isSquare_7 rfl rfl ?_
  refine g_X10_21 dX10_isSquare_8 fl_X10_54 ?_
  refine j_iln dX10_isSquare_11 rfl rfl ?_
  refine j_azldN dX10_isSquare_12 rfl rfl rfl (by decide) (by omega) ?_
  refine j_ifeq (tgt := 34) dX10_isSquare_13 (by decide) (fun h13 => ?_) (fun h13 => ?_)
  · have hr : isqX M n s = false := by unfold isqX; rw [decide_eq_false (fun q => q h13)]; rfl
    refine j_icN 0 dX10_isSquare_34 rfl ?_
    exact j_iret dX10_isSquare_35 rfl (by decide) (Nat.le_of_ble_eq_true rfl) (Nat.le_of_ble_eq_true rfl) ⟨by rw [hr]; rfl, rfl⟩
  · refine j_iln dX10_isSquare_16 rfl rfl ?_
    refine j_ic (v := (-1)) dX10_isSquare_17 (by decide) ?_
    refine j_iceq (tgt := 30) dX10_isSquare_18 (by decide) (fun h18 => ?_) (fun h18 => ?_)
    · have hr : isqX M n s = true := by unfold isqX; rw [decide_eq_true h13, decide_eq_true h18]; rfl
      refine j_icN 1 dX10_isSquare_30 rfl ?_
      refine j_goto (tgt := 35) dX10_isSquare_31 (by decide) ?_
      exact j_iret dX10_isSquare_35 rfl (by decide) (Nat.le_of_ble_eq_true rfl) (Nat.le_of_ble_eq_true rfl) ⟨by rw [hr]; rfl, rfl⟩
    · obtain ⟨t, ht, hte⟩ := clX_n h18
      have hte : awX n s (nI 1) = nI t := hte
      refine j_aln dX10_isSquare_21 rfl rfl ?_
      refine g_X10_21 dX10_isSquare_22 fl_X10_54 ?_
      refine j_iln dX10_isSquare_25 rfl rfl ?_
      refine j_azld t dX10_isSquare_26 rfl rfl rfl hte (by omega) (by decide) ?_
      refine j_ifne (tgt := 34) dX10_isSquare_27 (by decide) (fun h27 => ?_) (fun h27 => ?_)
      · have hr : isqX M n s = false := by unfold isqX; rw [decide_eq_false (p := awX n s (nI 1) = -1) h18, hte, ntX_nI (by omega), decide_eq_false h27]; exact Bool.and_false _
        refine j_icN 0 dX10_isSquare_34 rfl ?_
        exact j_iret dX10_isSquare_35 rfl (by decide) (Nat.le_of_ble_eq_true rfl) (Nat.le_of_ble_eq_true rfl) ⟨by rw [hr]; rfl, rfl⟩
      · have hr : isqX M n s = true := by unfold isqX; rw [hte, ntX_nI (by omega), decide_eq_true h13, decide_eq_true h27]; exact Bool.or_true _
        refine j_icN 1 dX10_isSquare_30 rfl ?_
        refine j_goto (tgt := 35) dX10_isSquare_31 (by decide) ?_
        exact j_iret dX10_isSquare_35 rfl (by decide) (Nat.le_of_ble_eq_true rfl) (Nat.le_of_ble_eq_true rfl) ⟨by rw [hr]; rfl, rfl⟩
def ndM (M : Mm) (f : Nat) : Int32 := if mI M 45 f = nI 101 then mTm (mI M 43) (mI M 46 (6 * f + 0)) else -1
def neX (M : Mm) (f : Nat) : Int32 := if ¬ ndM M f = nI f ∧ mF M (ndM M f) = true then ndM M f else -1
set_option maxRecDepth 100000 in
set_option maxHeartbeats 4000000 in
theorem c_X10_needed {l : Launch} {E : Ev} {M : Mm} {f gv : Nat} (hf : f < 40) (hg : mI M 12 5 = nI gv) (hg40 : gv ≤ 40) (ht : mT (mI M 46 (6 * f + 0)) = true) : Ct l E yX10_needed cX10_needed 3 (some .int) 3 0 0 [.ref (eA E 12 0), .int (nI f)] M (dv (.int (neX M f)) M) := by
  refine Ct.of (own := RX10) rfl [some (.ref (eA E 12 0)), some (.int (nI f)), none] (by decide) (Nat.le_of_ble_eq_true rfl) rfl ?_
  refine j_aln dX10_needed_0 rfl rfl ?_
  refine g_X10_9 dX10_needed_1 fl_X10_26 ?_
  refine j_iln dX10_needed_4 rfl rfl ?_
  refine j_acldN dX10_needed_5 rfl rfl rfl (by decide) (by omega) ?_
  refine j_biN 101 dX10_needed_6 rfl ?_
  refine j_icne (tgt := 20) dX10_needed_8 (by decide) (fun h8 => ?_) (fun h8 => ?_)
  · have hd : ndM M f = -1 := if_neg h8
    refine j_ic (v := (-1)) dX10_needed_20 (by decide) ?_
    refine j_ist_2 dX10_needed_21 (by decide) rfl ?_
    refine j_iln dX10_needed_22 rfl rfl ?_
    refine j_iln dX10_needed_23 rfl rfl ?_
    refine j_iceq (tgt := 39) dX10_needed_24 (by decide) (fun h24 => ?_) (fun h24 => ?_)
    · have hr : neX M f = -1 := if_neg (fun q => q.1 (hd.trans h24))
      refine j_ic (v := (-1)) dX10_needed_39 (by decide) ?_
      exact j_iret dX10_needed_40 rfl rfl (Nat.le_of_ble_eq_true rfl) (Nat.le_of_ble_eq_true rfl) ⟨by first | (rw [hr]; done) | (rw [hr, hd]; done), rfl⟩
    · refine j_aln dX10_needed_27 rfl rfl ?_
      refine j_iln dX10_needed_28 rfl rfl ?_
      refine j_V1d mf_X10_isFeature ml_X10_150 dX10_needed_29 (Nat.le_of_ble_eq_true rfl) (Nat.le_of_ble_eq_true rfl) (Nat.le_of_ble_eq_true rfl) ⟨(Nat.le_of_ble_eq_true rfl), (Nat.le_of_ble_eq_true rfl)⟩ (by first | assumption | decide | (simp only [nv] at *; omega)) rfl rfl (c_X10_isFeature hg hg40) ?_
      refine j_ifeq (tgt := 39) dX10_needed_32 (by decide) (fun h32 => ?_) (fun h32 => ?_)
      · have hr : neX M f = -1 := if_neg (fun q => by have e := bI_eq.mp h32; rw [← hd, q.2] at e; exact absurd e (by decide))
        refine j_ic (v := (-1)) dX10_needed_39 (by decide) ?_
        exact j_iret dX10_needed_40 rfl rfl (Nat.le_of_ble_eq_true rfl) (Nat.le_of_ble_eq_true rfl) ⟨by first | (rw [hr]; done) | (rw [hr, hd]; done), rfl⟩
      · have hr : neX M f = ndM M f := if_pos ⟨fun q => h24 (hd.symm.trans q), by rw [hd]; exact bI_ne.mp h32⟩
        refine j_iln dX10_needed_35 rfl rfl ?_
        refine j_goto (tgt := 40) dX10_needed_36 (by decide) ?_
        exact j_iret dX10_needed_40 rfl rfl (Nat.le_of_ble_eq_true rfl) (Nat.le_of_ble_eq_true rfl) ⟨by first | (rw [hr]; done) | (rw [hr, hd]; done), rfl⟩
  · have hd : ndM M f = mTm (mI M 43) (mI M 46 (6 * f + 0)) := if_pos h8
    refine j_aln dX10_needed_11 rfl rfl ?_
    refine j_iln dX10_needed_12 rfl rfl ?_
    refine j_icN 0 dX10_needed_13 rfl ?_
    refine j_V2d mf_X10_dimension ml_X10_146 dX10_needed_14 (Nat.le_of_ble_eq_true rfl) (Nat.le_of_ble_eq_true rfl) (Nat.le_of_ble_eq_true rfl) ⟨(Nat.le_of_ble_eq_true rfl), (Nat.le_of_ble_eq_true rfl)⟩ (by first | assumption | decide | (simp only [nv] at *; omega)) rfl rfl (c_X10_dimension hf (show 0 < 6 by decide) ht) ?_
    refine j_goto (tgt := 21) dX10_needed_17 (by decide) ?_
    refine j_ist_2 dX10_needed_21 (by decide) rfl ?_
    refine j_iln dX10_needed_22 rfl rfl ?_
    refine j_iln dX10_needed_23 rfl rfl ?_
    refine j_iceq (tgt := 39) dX10_needed_24 (by decide) (fun h24 => ?_) (fun h24 => ?_)
    · have hr : neX M f = -1 := if_neg (fun q => q.1 (hd.trans h24))
      refine j_ic (v := (-1)) dX10_needed_39 (by decide) ?_
      exact j_iret dX10_needed_40 rfl rfl (Nat.le_of_ble_eq_true rfl) (Nat.le_of_ble_eq_true rfl) ⟨by first | (rw [hr]; done) | (rw [hr, hd]; done), rfl⟩
    · refine j_aln dX10_needed_27 rfl rfl ?_
      refine j_iln dX10_needed_28 rfl rfl ?_
      refine j_V1d mf_X10_isFeature ml_X10_150 dX10_needed_29 (Nat.le_of_ble_eq_true rfl) (Nat.le_of_ble_eq_true rfl) (Nat.le_of_ble_eq_true rfl) ⟨(Nat.le_of_ble_eq_true rfl), (Nat.le_of_ble_eq_true rfl)⟩ (by first | assumption | decide | (simp only [nv] at *; omega)) rfl rfl (c_X10_isFeature hg hg40) ?_
      refine j_ifeq (tgt := 39) dX10_needed_32 (by decide) (fun h32 => ?_) (fun h32 => ?_)
      · have hr : neX M f = -1 := if_neg (fun q => by have e := bI_eq.mp h32; rw [← hd, q.2] at e; exact absurd e (by decide))
        refine j_ic (v := (-1)) dX10_needed_39 (by decide) ?_
        exact j_iret dX10_needed_40 rfl rfl (Nat.le_of_ble_eq_true rfl) (Nat.le_of_ble_eq_true rfl) ⟨by first | (rw [hr]; done) | (rw [hr, hd]; done), rfl⟩
      · have hr : neX M f = ndM M f := if_pos ⟨fun q => h24 (hd.symm.trans q), by rw [hd]; exact bI_ne.mp h32⟩
        refine j_iln dX10_needed_35 rfl rfl ?_
        refine j_goto (tgt := 40) dX10_needed_36 (by decide) ?_
        exact j_iret dX10_needed_40 rfl rfl (Nat.le_of_ble_eq_true rfl) (Nat.le_of_ble_eq_true rfl) ⟨by first | (rw [hr]; done) | (rw [hr, hd]; done), rfl⟩
