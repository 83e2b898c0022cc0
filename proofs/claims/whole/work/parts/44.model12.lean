/-! the model: places of corners and edges -/
def plX (n s : Nat) (a1 : Int32) (k : Nat) (e : Int32) : Int32 := if k = s / 2 then nI (alN n k + s % 2) else if nI k = a1 then nI (alN n k) + (e &&& nI 1) else nI (alN n k) + ((e >>> (nI 1 &&& 31)) &&& nI 1)
set_option maxRecDepth 100000 in
set_option maxHeartbeats 4000000 in
theorem c_X10_place_ {l : Launch} {E : Ev} {M : Mm} {n s k : Nat} {a1 a2 e : Int32} (hn : n < 512) (hs : s < 6) (hk : k < 3) : Ct l E yX10_place_ cX10_place_ 7 (some .int) 2 0 0 [.int (nI n), .int (nI s), .int a1, .int a2, .int (nI k), .int e] M (dv (.int (plX n s a1 k e)) M) := by
  refine Ct.of (own := RX10) rfl [some (.int (nI n)), some (.int (nI s)), some (.int a1), some (.int a2), some (.int (nI k)), some (.int e), none] (by decide) (Nat.le_of_ble_eq_true rfl) rfl ?_
  refine j_iln dX10_place__0 rfl rfl ?_
  refine j_il dX10_place__1 rfl ?_
  refine j_S2d mf_X10_along ml_X10_177 dX10_place__3 (Nat.le_of_ble_eq_true rfl) (Nat.le_of_ble_eq_true rfl) (Nat.le_of_ble_eq_true rfl) ⟨(Nat.le_of_ble_eq_true rfl), (Nat.le_of_ble_eq_true rfl)⟩ (c_X10_along hn hk) ?_
  refine j_ist_6 dX10_place__6 (by decide) rfl ?_
  refine j_il dX10_place__8 rfl ?_
  refine j_iln dX10_place__10 rfl rfl ?_
  refine j_icN 2 dX10_place__11 rfl ?_
  refine j_idivN dX10_place__12 (by omega) (by omega) (by omega) ?_
  refine j_icneN (tgt := 23) dX10_place__13 (by decide) (by omega) (by omega) (fun h13 => ?_) (fun h13 => ?_)
  · have hs2 : ¬ k = s / 2 := h13
    refine j_il dX10_place__23 rfl ?_
    refine j_il dX10_place__25 rfl ?_
    refine j_iln dX10_place__27 rfl rfl ?_
    refine j_icne (tgt := 38) dX10_place__28 (by decide) (fun h28 => ?_) (fun h28 => ?_)
    · have hr : plX n s a1 k e = nI (alN n k) + ((e >>> (nI 1 &&& 31)) &&& nI 1) := by unfold plX; rw [if_neg hs2, if_neg h28]
      refine j_il dX10_place__38 rfl ?_
      refine j_icN 1 dX10_place__40 rfl ?_
      refine j_ishr dX10_place__41 ?_
      refine j_icN 1 dX10_place__42 rfl ?_
      refine j_iand dX10_place__43 ?_
      refine j_iadd dX10_place__44 ?_
      exact j_iret dX10_place__45 rfl rfl (Nat.le_of_ble_eq_true rfl) (Nat.le_of_ble_eq_true rfl) ⟨by rw [hr], rfl⟩
    · have hr : plX n s a1 k e = nI (alN n k) + (e &&& nI 1) := by unfold plX; rw [if_neg hs2, if_pos h28]
      refine j_il dX10_place__31 rfl ?_
      refine j_icN 1 dX10_place__33 rfl ?_
      refine j_iand dX10_place__34 ?_
      refine j_goto (tgt := 44) dX10_place__35 (by decide) ?_
      refine j_iadd dX10_place__44 ?_
      exact j_iret dX10_place__45 rfl rfl (Nat.le_of_ble_eq_true rfl) (Nat.le_of_ble_eq_true rfl) ⟨by rw [hr], rfl⟩
  · have hr : plX n s a1 k e = nI (alN n k + s % 2) := if_pos h13
    refine j_il dX10_place__16 rfl ?_
    refine j_iln dX10_place__18 rfl rfl ?_
    refine j_icN 2 dX10_place__19 rfl ?_
    refine j_iremN dX10_place__20 (by omega) (by omega) (by omega) ?_
    refine j_iaddN dX10_place__21 ?_
    exact j_iret dX10_place__22 rfl rfl (Nat.le_of_ble_eq_true rfl) (Nat.le_of_ble_eq_true rfl) ⟨by rw [hr], rfl⟩
