/-! the object: parts, soundness -/
set_option maxRecDepth 100000 in
set_option maxHeartbeats 4000000 in
theorem c_X9_addPart {l : Launch} {E : Ev} {M : Mm} (hl9 : l.stackTraces = false) {cnt : Nat} {x y z : Int32} (hc : mI M 5 2 = nI cnt) (hc6 : cnt ≤ 6) : CtX l E yX9_addPart cX9_addPart 4 (some .int) 6 [.ref (eA E 0 0), .int x, .int y, .int z] M (fun v M1 => (gvn x = true ∧ gvn y = true ∧ gvn z = true) ∧ cnt < 6 ∧ v = some (.int (nI cnt)) ∧ M1 = sI (sI M 34 (upd (upd (upd (mI M 34) (cnt * 3) x) (cnt * 3 + 1) y) (cnt * 3 + 2) z)) 5 (upd (mI M 5) 2 (nI (cnt + 1)))) (fun c M1 => ((¬ (gvn x = true ∧ gvn y = true ∧ gvn z = true) ∧ c = "java/lang/IllegalArgumentException") ∨ ((gvn x = true ∧ gvn y = true ∧ gvn z = true) ∧ ¬ cnt < 6 ∧ c = "java/lang/IllegalStateException")) ∧ M1 = M) := by
  refine CtX.of (own := RX9) rfl [some (.ref (eA E 0 0)), some (.int x), some (.int y), some (.int z)] (by decide) (Nat.le_of_ble_eq_true rfl) rfl ?_
  refine j_iln dX9_addPart_0 rfl rfl ?_
  refine j_S1d mf_X9_isGiven ml_X9_236 dX9_addPart_1 (Nat.le_of_ble_eq_true rfl) (Nat.le_of_ble_eq_true rfl) (Nat.le_of_ble_eq_true rfl) ⟨(Nat.le_of_ble_eq_true rfl), (Nat.le_of_ble_eq_true rfl)⟩ c_X9_isGiven ?_
  refine j_ifeq (tgt := 21) dX9_addPart_4 (by decide) (fun h4 => ?_) (fun h4 => ?_)
  · have hx : ¬ (gvn x = true ∧ gvn y = true ∧ gvn z = true) := fun q => by have e := bI_eq.mp h4; rw [q.1] at e; exact absurd e (by decide)
    exact j_throwS (text := "a move is out of range") hl9 thr_36 (by decide +kernel) dX9_addPart_21 dX9_addPart_24 dX9_addPart_25 dX9_addPart_27 dX9_addPart_30 (Nat.le_of_ble_eq_true rfl) (Nat.le_of_ble_eq_true rfl) ⟨Or.inl ⟨hx, rfl⟩, rfl⟩
  · refine j_iln dX9_addPart_7 rfl rfl ?_
    refine j_S1d mf_X9_isGiven ml_X9_236 dX9_addPart_8 (Nat.le_of_ble_eq_true rfl) (Nat.le_of_ble_eq_true rfl) (Nat.le_of_ble_eq_true rfl) ⟨(Nat.le_of_ble_eq_true rfl), (Nat.le_of_ble_eq_true rfl)⟩ c_X9_isGiven ?_
    refine j_ifeq (tgt := 21) dX9_addPart_11 (by decide) (fun h11 => ?_) (fun h11 => ?_)
    · have hx : ¬ (gvn x = true ∧ gvn y = true ∧ gvn z = true) := fun q => by have e := bI_eq.mp h11; rw [q.2.1] at e; exact absurd e (by decide)
      exact j_throwS (text := "a move is out of range") hl9 thr_36 (by decide +kernel) dX9_addPart_21 dX9_addPart_24 dX9_addPart_25 dX9_addPart_27 dX9_addPart_30 (Nat.le_of_ble_eq_true rfl) (Nat.le_of_ble_eq_true rfl) ⟨Or.inl ⟨hx, rfl⟩, rfl⟩
    · refine j_iln dX9_addPart_14 rfl rfl ?_
      refine j_S1d mf_X9_isGiven ml_X9_236 dX9_addPart_15 (Nat.le_of_ble_eq_true rfl) (Nat.le_of_ble_eq_true rfl) (Nat.le_of_ble_eq_true rfl) ⟨(Nat.le_of_ble_eq_true rfl), (Nat.le_of_ble_eq_true rfl)⟩ c_X9_isGiven ?_
      refine j_ifne (tgt := 31) dX9_addPart_18 (by decide) (fun h18 => ?_) (fun h18 => ?_)
      · have hk : (gvn x = true ∧ gvn y = true ∧ gvn z = true) := ⟨bI_ne.mp h4, bI_ne.mp h11, bI_ne.mp h18⟩
        refine j_aln dX9_addPart_31 rfl rfl ?_
        refine g_X9_1 dX9_addPart_32 fl_X9_19 ?_
        refine g_X6_2 dX9_addPart_35 fl_X9_241 ?_
        refine j_topi hc ?_
        refine j_biN 6 dX9_addPart_38 rfl ?_
        refine j_icltN (tgt := 53) dX9_addPart_40 (by decide) (by omega) (by omega) (fun h40 => ?_) (fun h40 => ?_)
        · refine j_aln dX9_addPart_53 rfl rfl ?_
          refine g_X9_1 dX9_addPart_54 fl_X9_19 ?_
          refine j_iln dX9_addPart_57 rfl rfl ?_
          refine j_iln dX9_addPart_58 rfl rfl ?_
          refine j_iln dX9_addPart_59 rfl rfl ?_
          refine j_V3d mf_X6_append ml_X9_244 dX9_addPart_60 (Nat.le_of_ble_eq_true rfl) (Nat.le_of_ble_eq_true rfl) (Nat.le_of_ble_eq_true rfl) ⟨(Nat.le_of_ble_eq_true rfl), (Nat.le_of_ble_eq_true rfl)⟩ (by first | assumption | decide | (simp only [nv] at *; omega)) rfl rfl (c_X6_append hc h40) ?_
          exact j_iretX dX9_addPart_63 rfl rfl (Nat.le_of_ble_eq_true rfl) (Nat.le_of_ble_eq_true rfl) ⟨hk, h40, rfl, rfl⟩
        · exact j_throwS (text := "no more parts") hl9 thr_111 (by decide +kernel) dX9_addPart_43 dX9_addPart_46 dX9_addPart_47 dX9_addPart_49 dX9_addPart_52 (Nat.le_of_ble_eq_true rfl) (Nat.le_of_ble_eq_true rfl) ⟨Or.inr ⟨hk, h40, rfl⟩, rfl⟩
      · have hx : ¬ (gvn x = true ∧ gvn y = true ∧ gvn z = true) := fun q => by have e := bI_eq.mp h18; rw [q.2.2] at e; exact absurd e (by decide)
        exact j_throwS (text := "a move is out of range") hl9 thr_36 (by decide +kernel) dX9_addPart_21 dX9_addPart_24 dX9_addPart_25 dX9_addPart_27 dX9_addPart_30 (Nat.le_of_ble_eq_true rfl) (Nat.le_of_ble_eq_true rfl) ⟨Or.inl ⟨hx, rfl⟩, rfl⟩
set_option maxRecDepth 100000 in
set_option maxHeartbeats 4000000 in
theorem c_X9_moved {l : Launch} {E : Ev} {M : Mm} (hl9 : l.stackTraces = false) {cnt : Nat} {x y : Int32} (hc : mI M 5 2 = nI cnt) (hc6 : cnt ≤ 6) : CtX l E yX9_moved cX9_moved 3 (some .int) 6 [.ref (eA E 0 0), .int x, .int y] M (fun v M1 => prX (nI cnt) x = true ∧ axX y = true ∧ v = some (.int (mvX (mI M 34) x (ntX y))) ∧ M1 = M) (fun c M1 => ((prX (nI cnt) x = false ∧ c = "java/lang/IndexOutOfBoundsException") ∨ (prX (nI cnt) x = true ∧ axX y = false ∧ c = "java/lang/IllegalArgumentException")) ∧ M1 = M) := by
  refine CtX.of (own := RX9) rfl [some (.ref (eA E 0 0)), some (.int x), some (.int y)] (by decide) (Nat.le_of_ble_eq_true rfl) rfl ?_
  refine j_aln dX9_moved_0 rfl rfl ?_
  refine g_X9_1 dX9_moved_1 fl_X9_19 ?_
  refine j_iln dX9_moved_4 rfl rfl ?_
  refine j_V1d mf_X6_isPart ml_X9_246 dX9_moved_5 (Nat.le_of_ble_eq_true rfl) (Nat.le_of_ble_eq_true rfl) (Nat.le_of_ble_eq_true rfl) ⟨(Nat.le_of_ble_eq_true rfl), (Nat.le_of_ble_eq_true rfl)⟩ (by first | assumption | decide | (simp only [nv] at *; omega)) rfl rfl c_X6_isPart ?_
  refine j_ifne (tgt := 21) dX9_moved_8 (by decide) (fun h8 => ?_) (fun h8 => ?_)
  · have hp : prX (nI cnt) x = true := by have := bI_ne.mp h8; rwa [hc] at this
    refine j_iln dX9_moved_21 rfl rfl ?_
    refine j_S1d mf_X9_isAxis ml_X9_221 dX9_moved_22 (Nat.le_of_ble_eq_true rfl) (Nat.le_of_ble_eq_true rfl) (Nat.le_of_ble_eq_true rfl) ⟨(Nat.le_of_ble_eq_true rfl), (Nat.le_of_ble_eq_true rfl)⟩ c_X9_isAxis ?_
    refine j_ifne (tgt := 38) dX9_moved_25 (by decide) (fun h25 => ?_) (fun h25 => ?_)
    · have ha := bI_ne.mp h25
      obtain ⟨p, hp6, rfl⟩ := pt_n (by omega) hp
      obtain ⟨a, ha3, rfl⟩ := ax_n ha
      rw [ntX_nI (show a < 2 ^ 31 by omega)]
      refine j_aln dX9_moved_38 rfl rfl ?_
      refine g_X9_1 dX9_moved_39 fl_X9_19 ?_
      refine j_iln dX9_moved_42 rfl rfl ?_
      refine j_iln dX9_moved_43 rfl rfl ?_
      refine j_V2d mf_X6_moveAlong ml_X9_287 dX9_moved_44 (Nat.le_of_ble_eq_true rfl) (Nat.le_of_ble_eq_true rfl) (Nat.le_of_ble_eq_true rfl) ⟨(Nat.le_of_ble_eq_true rfl), (Nat.le_of_ble_eq_true rfl)⟩ (by first | assumption | decide | (simp only [nv] at *; omega)) rfl rfl (c_X6_moveAlong ha3 (isPt_nI (by omega))) ?_
      exact j_iretX dX9_moved_47 rfl rfl (Nat.le_of_ble_eq_true rfl) (Nat.le_of_ble_eq_true rfl) ⟨hp, ha, rfl, rfl⟩
    · have ha : axX y = false := bI_eq.mp h25
      exact j_throwS (text := "no such axis") hl9 thr_36 (by decide +kernel) dX9_moved_28 dX9_moved_31 dX9_moved_32 dX9_moved_34 dX9_moved_37 (Nat.le_of_ble_eq_true rfl) (Nat.le_of_ble_eq_true rfl) ⟨Or.inr ⟨hp, ha, rfl⟩, rfl⟩
  · have hp : prX (nI cnt) x = false := by have := bI_eq.mp h8; rwa [hc] at this
    exact j_throwS (text := "no such part") hl9 thr_143 (by decide +kernel) dX9_moved_11 dX9_moved_14 dX9_moved_15 dX9_moved_17 dX9_moved_20 (Nat.le_of_ble_eq_true rfl) (Nat.le_of_ble_eq_true rfl) ⟨Or.inl ⟨hp, rfl⟩, rfl⟩
set_option maxRecDepth 100000 in
set_option maxHeartbeats 4000000 in
theorem c_X9_drag {l : Launch} {E : Ev} {M : Mm} (hl9 : l.stackTraces = false) {cnt mc : Nat} {x y w : Int32} (hc : mI M 5 2 = nI cnt) (hc6 : cnt ≤ 6) (hmc : mI M 5 3 = nI mc) (hmc12 : mc ≤ 12) : CtX l E yX9_drag cX9_drag 4 (some .int) 6 [.ref (eA E 0 0), .int x, .int y, .int w] M (fun v M1 => prX (nI cnt) x = true ∧ (axX y = true ∧ gvn w = true) ∧ tdX M mc y x (-1) = false ∧ v = some (.int (nI (if w = 0 then 0 else slN (grp M mc y x) cnt))) ∧ M1 = sI M 34 (slM (mI M 34) (ntX y) (grp M mc y x) w cnt)) (fun c M1 => ((prX (nI cnt) x = false ∧ c = "java/lang/IndexOutOfBoundsException") ∨ (prX (nI cnt) x = true ∧ ¬ (axX y = true ∧ gvn w = true) ∧ c = "java/lang/IllegalArgumentException") ∨ (prX (nI cnt) x = true ∧ (axX y = true ∧ gvn w = true) ∧ tdX M mc y x (-1) = true ∧ c = "java/lang/UnsupportedOperationException")) ∧ M1 = M) := by
  refine CtX.of (own := RX9) rfl [some (.ref (eA E 0 0)), some (.int x), some (.int y), some (.int w)] (by decide) (Nat.le_of_ble_eq_true rfl) rfl ?_
  refine j_aln dX9_drag_0 rfl rfl ?_
  refine g_X9_1 dX9_drag_1 fl_X9_19 ?_
  refine j_iln dX9_drag_4 rfl rfl ?_
  refine j_V1d mf_X6_isPart ml_X9_246 dX9_drag_5 (Nat.le_of_ble_eq_true rfl) (Nat.le_of_ble_eq_true rfl) (Nat.le_of_ble_eq_true rfl) ⟨(Nat.le_of_ble_eq_true rfl), (Nat.le_of_ble_eq_true rfl)⟩ (by first | assumption | decide | (simp only [nv] at *; omega)) rfl rfl c_X6_isPart ?_
  refine j_ifne (tgt := 21) dX9_drag_8 (by decide) (fun h8 => ?_) (fun h8 => ?_)
  · have hp : prX (nI cnt) x = true := by have := bI_ne.mp h8; rwa [hc] at this
    refine j_iln dX9_drag_21 rfl rfl ?_
    refine j_S1d mf_X9_isAxis ml_X9_221 dX9_drag_22 (Nat.le_of_ble_eq_true rfl) (Nat.le_of_ble_eq_true rfl) (Nat.le_of_ble_eq_true rfl) ⟨(Nat.le_of_ble_eq_true rfl), (Nat.le_of_ble_eq_true rfl)⟩ c_X9_isAxis ?_
    refine j_ifeq (tgt := 35) dX9_drag_25 (by decide) (fun h25 => ?_) (fun h25 => ?_)
    · have hx : ¬ (axX y = true ∧ gvn w = true) := fun q => by have e := bI_eq.mp h25; rw [q.1] at e; exact absurd e (by decide)
      exact j_throwSW (text := "no such axis or number") hl9 thr_36 (by decide +kernel) dX9_drag_35 dX9_drag_38 dX9_drag_39 dX9_drag_42 dX9_drag_45 (Nat.le_of_ble_eq_true rfl) (Nat.le_of_ble_eq_true rfl) ⟨Or.inr (Or.inl ⟨hp, hx, rfl⟩), rfl⟩
    · refine j_iln dX9_drag_28 rfl rfl ?_
      refine j_S1d mf_X9_isGiven ml_X9_236 dX9_drag_29 (Nat.le_of_ble_eq_true rfl) (Nat.le_of_ble_eq_true rfl) (Nat.le_of_ble_eq_true rfl) ⟨(Nat.le_of_ble_eq_true rfl), (Nat.le_of_ble_eq_true rfl)⟩ c_X9_isGiven ?_
      refine j_ifne (tgt := 46) dX9_drag_32 (by decide) (fun h32 => ?_) (fun h32 => ?_)
      · have hk : (axX y = true ∧ gvn w = true) := ⟨bI_ne.mp h25, bI_ne.mp h32⟩
        refine j_aln dX9_drag_46 rfl rfl ?_
        refine g_X9_1 dX9_drag_47 fl_X9_19 ?_
        refine j_iln dX9_drag_50 rfl rfl ?_
        refine j_iln dX9_drag_51 rfl rfl ?_
        refine j_ic (v := (-1)) dX9_drag_52 (by decide) ?_
        refine j_V3d mf_X6_areTied ml_X9_264 dX9_drag_53 (Nat.le_of_ble_eq_true rfl) (Nat.le_of_ble_eq_true rfl) (Nat.le_of_ble_eq_true rfl) ⟨(Nat.le_of_ble_eq_true rfl), (Nat.le_of_ble_eq_true rfl)⟩ (by first | assumption | decide | (simp only [nv] at *; omega)) rfl rfl (c_X6_areTied hmc hmc12) ?_
        refine j_ifeq (tgt := 70) dX9_drag_56 (by decide) (fun h56 => ?_) (fun h56 => ?_)
        · have ht := bI_eq.mp h56
          obtain ⟨a, ha3, rfl⟩ := ax_n hk.1
          rw [ntX_nI (show a < 2 ^ 31 by omega)]
          refine j_aln dX9_drag_70 rfl rfl ?_
          refine g_X9_1 dX9_drag_71 fl_X9_19 ?_
          refine j_iln dX9_drag_74 rfl rfl ?_
          refine j_aln dX9_drag_75 rfl rfl ?_
          refine g_X9_1 dX9_drag_76 fl_X9_19 ?_
          refine j_iln dX9_drag_79 rfl rfl ?_
          refine j_iln dX9_drag_80 rfl rfl ?_
          refine j_V2d mf_X6_groupOf ml_X9_281 dX9_drag_81 (Nat.le_of_ble_eq_true rfl) (Nat.le_of_ble_eq_true rfl) (Nat.le_of_ble_eq_true rfl) ⟨(Nat.le_of_ble_eq_true rfl), (Nat.le_of_ble_eq_true rfl)⟩ (by first | assumption | decide | (simp only [nv] at *; omega)) rfl rfl (c_X6_groupOf hmc hmc12) ?_
          refine j_iln dX9_drag_84 rfl rfl ?_
          refine j_V3d mf_X6_slideGroup ml_X9_284 dX9_drag_85 (Nat.le_of_ble_eq_true rfl) (Nat.le_of_ble_eq_true rfl) (Nat.le_of_ble_eq_true rfl) ⟨(Nat.le_of_ble_eq_true rfl), (Nat.le_of_ble_eq_true rfl)⟩ (by first | assumption | decide | (simp only [nv] at *; omega)) rfl rfl (c_X6_slideGroup hc hc6 ha3) ?_
          exact j_iretX dX9_drag_88 rfl rfl (Nat.le_of_ble_eq_true rfl) (Nat.le_of_ble_eq_true rfl) ⟨hp, hk, ht, rfl, rfl⟩
        · have ht := bI_ne.mp h56
          exact j_throwSW (text := "tied to the ground along the axis") hl9 thr_57 (by decide +kernel) dX9_drag_59 dX9_drag_62 dX9_drag_63 dX9_drag_66 dX9_drag_69 (Nat.le_of_ble_eq_true rfl) (Nat.le_of_ble_eq_true rfl) ⟨Or.inr (Or.inr ⟨hp, hk, ht, rfl⟩), rfl⟩
      · have hx : ¬ (axX y = true ∧ gvn w = true) := fun q => by have e := bI_eq.mp h32; rw [q.2] at e; exact absurd e (by decide)
        exact j_throwSW (text := "no such axis or number") hl9 thr_36 (by decide +kernel) dX9_drag_35 dX9_drag_38 dX9_drag_39 dX9_drag_42 dX9_drag_45 (Nat.le_of_ble_eq_true rfl) (Nat.le_of_ble_eq_true rfl) ⟨Or.inr (Or.inl ⟨hp, hx, rfl⟩), rfl⟩
  · have hp : prX (nI cnt) x = false := by have := bI_eq.mp h8; rwa [hc] at this
    exact j_throwS (text := "no such part") hl9 thr_143 (by decide +kernel) dX9_drag_11 dX9_drag_14 dX9_drag_15 dX9_drag_17 dX9_drag_20 (Nat.le_of_ble_eq_true rfl) (Nat.le_of_ble_eq_true rfl) ⟨Or.inl ⟨hp, rfl⟩, rfl⟩
set_option maxRecDepth 100000 in
set_option maxHeartbeats 4000000 in
theorem c_X9_freeze {l : Launch} {E : Ev} {M : Mm} (hl9 : l.stackTraces = false) {cnt bar : Nat} {x : Int32} {b : Bool} (hc : mI M 5 2 = nI cnt) (hc6 : cnt ≤ 6) (hbar : mI M 2 7 = nI bar) (hb12 : bar ≤ 12) (hz33 : ∀ p, p < 6 → narrow .boolean (.int (mI M 33 p)) = .int (mI M 33 p)) : CtX l E yX9_freeze cX9_freeze 4 (some .boolean) 6 [.ref (eA E 0 0), .int x, .int (bI b)] M (fun v M1 => prX (nI cnt) x = true ∧ v = some (.int (mI M 33 (ntX x))) ∧ M1 = if b = true then sL (sI M 33 (upd (mI M 33) (ntX x) (bI b))) (19 + ntX x) (mL M bar) else sI M 33 (upd (mI M 33) (ntX x) (bI b))) (fun c M1 => (prX (nI cnt) x = false ∧ c = "java/lang/IndexOutOfBoundsException") ∧ M1 = M) := by
  refine CtX.of (own := RX9) rfl [some (.ref (eA E 0 0)), some (.int x), some (.int (bI b)), none] (by decide) (Nat.le_of_ble_eq_true rfl) rfl ?_
  refine j_aln dX9_freeze_0 rfl rfl ?_
  refine g_X9_1 dX9_freeze_1 fl_X9_19 ?_
  refine j_iln dX9_freeze_4 rfl rfl ?_
  refine j_V1d mf_X6_isPart ml_X9_246 dX9_freeze_5 (Nat.le_of_ble_eq_true rfl) (Nat.le_of_ble_eq_true rfl) (Nat.le_of_ble_eq_true rfl) ⟨(Nat.le_of_ble_eq_true rfl), (Nat.le_of_ble_eq_true rfl)⟩ (by first | assumption | decide | (simp only [nv] at *; omega)) rfl rfl c_X6_isPart ?_
  refine j_ifne (tgt := 21) dX9_freeze_8 (by decide) (fun h8 => ?_) (fun h8 => ?_)
  · have hp : prX (nI cnt) x = true := by have := bI_ne.mp h8; rwa [hc] at this
    obtain ⟨p, hp6, rfl⟩ := pt_n (by omega) hp
    rw [ntX_nI (show p < 2 ^ 31 by omega)]
    refine j_aln dX9_freeze_21 rfl rfl ?_
    refine g_X9_1 dX9_freeze_22 fl_X9_19 ?_
    refine g_X6_0 dX9_freeze_25 fl_X9_251 ?_
    refine j_iln dX9_freeze_28 rfl rfl ?_
    refine j_azldN dX9_freeze_29 rfl rfl rfl (by decide) (by omega) ?_
    refine j_ist_3 dX9_freeze_30 (by decide) rfl ?_
    refine j_aln dX9_freeze_31 rfl rfl ?_
    refine g_X9_1 dX9_freeze_32 fl_X9_19 ?_
    refine g_X6_0 dX9_freeze_35 fl_X9_251 ?_
    refine j_iln dX9_freeze_38 rfl rfl ?_
    refine j_iln dX9_freeze_39 rfl rfl ?_
    refine j_azstN dX9_freeze_40 rfl (fun _ => rfl) rfl (by decide) (by omega) (bI_vp b) ?_
    refine j_iln dX9_freeze_41 rfl rfl ?_
    refine j_ifeq (tgt := 67) dX9_freeze_42 (by decide) (fun h42 => ?_) (fun h42 => ?_)
    · have hb := bI_eq.mp h42
      refine j_iln dX9_freeze_67 rfl rfl ?_
      exact j_iretX dX9_freeze_68 rfl (hz33 p (by omega)) (Nat.le_of_ble_eq_true rfl) (Nat.le_of_ble_eq_true rfl) ⟨hp, rfl, by subst hb; rfl⟩
    · have hb := bI_ne.mp h42
      refine j_aln dX9_freeze_45 rfl rfl ?_
      refine g_X9_1 dX9_freeze_46 fl_X9_19 ?_
      refine g_X6_1 dX9_freeze_49 fl_X9_254 ?_
      refine j_iln dX9_freeze_52 rfl rfl ?_
      refine j_aldCN dX9_freeze_53 (by omega) ?_
      refine j_aln dX9_freeze_54 rfl rfl ?_
      refine g_X9_0 dX9_freeze_55 fl_X9_10 ?_
      refine j_V0d mf_X3_body ml_X9_173 dX9_freeze_58 (Nat.le_of_ble_eq_true rfl) (Nat.le_of_ble_eq_true rfl) (Nat.le_of_ble_eq_true rfl) ⟨(Nat.le_of_ble_eq_true rfl), (Nat.le_of_ble_eq_true rfl)⟩ (by first | assumption | decide | (simp only [nv] at *; omega)) rfl rfl (c_X3_body hbar hb12) ?_
      refine g_X0_0 dX9_freeze_61 fl_X9_177 (show bar < 15 by omega) ?_
      refine j_V1n mf_X1_copyFrom ml_X9_258 dX9_freeze_64 (Nat.le_of_ble_eq_true rfl) (Nat.le_of_ble_eq_true rfl) (Nat.le_of_ble_eq_true rfl) ⟨(Nat.le_of_ble_eq_true rfl), (Nat.le_of_ble_eq_true rfl)⟩ (by first | assumption | decide | (simp only [nv] at *; omega)) rfl rfl (c_X1_copyFrom (show 19 + p < 25 by omega) (show bar < 25 by omega)) ?_
      refine j_iln dX9_freeze_67 rfl rfl ?_
      exact j_iretX dX9_freeze_68 rfl (hz33 p (by omega)) (Nat.le_of_ble_eq_true rfl) (Nat.le_of_ble_eq_true rfl) ⟨hp, rfl, by subst hb; rfl⟩
  · have hp : prX (nI cnt) x = false := by have := bI_eq.mp h8; rwa [hc] at this
    exact j_throwS (text := "no such part") hl9 thr_143 (by decide +kernel) dX9_freeze_11 dX9_freeze_14 dX9_freeze_15 dX9_freeze_17 dX9_freeze_20 (Nat.le_of_ble_eq_true rfl) (Nat.le_of_ble_eq_true rfl) ⟨⟨hp, rfl⟩, rfl⟩
set_option maxRecDepth 100000 in
set_option maxHeartbeats 4000000 in
theorem c_X9_mate {l : Launch} {E : Ev} {M : Mm} (hl9 : l.stackTraces = false) {cnt mc : Nat} {ax x y d : Int32} (hc : mI M 5 2 = nI cnt) (hc6 : cnt ≤ 6) (hmc : mI M 5 3 = nI mc) (hmc12 : mc ≤ 12) : CtX l E yX9_mate cX9_mate 5 (some .int) 6 [.ref (eA E 0 0), .int ax, .int x, .int y, .int d] M (fun v M1 => (prX (nI cnt) x = true ∧ (prX (nI cnt) y = true ∨ y = -1)) ∧ (axX ax = true ∧ ¬ x = y ∧ gvn d = true) ∧ tdX M mc ax x y = false ∧ mc < 12 ∧ v = some (.int (nI (if tieB M (ntX ax) x y d (tdX M mc ax x (-1)) = 0 then 0 else slN (tieG M mc (ntX ax) x y (tdX M mc ax x (-1))) cnt))) ∧ M1 = tieM M cnt mc (ntX ax) x y d (tdX M mc ax x (-1))) (fun c M1 => ((¬ (prX (nI cnt) x = true ∧ (prX (nI cnt) y = true ∨ y = -1)) ∧ c = "java/lang/IndexOutOfBoundsException") ∨ ((prX (nI cnt) x = true ∧ (prX (nI cnt) y = true ∨ y = -1)) ∧ ¬ (axX ax = true ∧ ¬ x = y ∧ gvn d = true) ∧ c = "java/lang/IllegalArgumentException") ∨ ((prX (nI cnt) x = true ∧ (prX (nI cnt) y = true ∨ y = -1)) ∧ (axX ax = true ∧ ¬ x = y ∧ gvn d = true) ∧ tdX M mc ax x y = true ∧ c = "java/lang/UnsupportedOperationException") ∨ ((prX (nI cnt) x = true ∧ (prX (nI cnt) y = true ∨ y = -1)) ∧ (axX ax = true ∧ ¬ x = y ∧ gvn d = true) ∧ tdX M mc ax x y = false ∧ ¬ mc < 12 ∧ c = "java/lang/IllegalStateException")) ∧ M1 = M) := by
  refine CtX.of (own := RX9) rfl [some (.ref (eA E 0 0)), some (.int ax), some (.int x), some (.int y), some (.int d)] (by decide) (Nat.le_of_ble_eq_true rfl) rfl ?_
  refine j_aln dX9_mate_0 rfl rfl ?_
  refine g_X9_1 dX9_mate_1 fl_X9_19 ?_
  refine j_iln dX9_mate_4 rfl rfl ?_
  refine j_V1d mf_X6_isPart ml_X9_246 dX9_mate_5 (Nat.le_of_ble_eq_true rfl) (Nat.le_of_ble_eq_true rfl) (Nat.le_of_ble_eq_true rfl) ⟨(Nat.le_of_ble_eq_true rfl), (Nat.le_of_ble_eq_true rfl)⟩ (by first | assumption | decide | (simp only [nv] at *; omega)) rfl rfl c_X6_isPart ?_
  refine j_ifeq (tgt := 27) dX9_mate_8 (by decide) (fun h8 => ?_) (fun h8 => ?_)
  · have hp : prX (nI cnt) x = false := by have := bI_eq.mp h8; rwa [hc] at this
    have hx1 : ¬ (prX (nI cnt) x = true ∧ (prX (nI cnt) y = true ∨ y = -1)) := fun q => by rw [q.1] at hp; exact absurd hp (by decide)
    exact j_throwS (text := "no such part") hl9 thr_143 (by decide +kernel) dX9_mate_27 dX9_mate_30 dX9_mate_31 dX9_mate_33 dX9_mate_36 (Nat.le_of_ble_eq_true rfl) (Nat.le_of_ble_eq_true rfl) ⟨Or.inl ⟨hx1, rfl⟩, rfl⟩
  · have hp : prX (nI cnt) x = true := by have := bI_ne.mp h8; rwa [hc] at this
    have hX : isPt x := by obtain ⟨p, hp6, rfl⟩ := pt_n (by omega) hp; exact isPt_nI (by omega)
    refine j_aln dX9_mate_11 rfl rfl ?_
    refine g_X9_1 dX9_mate_12 fl_X9_19 ?_
    refine j_iln dX9_mate_15 rfl rfl ?_
    refine j_V1d mf_X6_isPart ml_X9_246 dX9_mate_16 (Nat.le_of_ble_eq_true rfl) (Nat.le_of_ble_eq_true rfl) (Nat.le_of_ble_eq_true rfl) ⟨(Nat.le_of_ble_eq_true rfl), (Nat.le_of_ble_eq_true rfl)⟩ (by first | assumption | decide | (simp only [nv] at *; omega)) rfl rfl c_X6_isPart ?_
    refine j_ifne (tgt := 37) dX9_mate_19 (by decide) (fun h19 => ?_) (fun h19 => ?_)
    · have hq : prX (nI cnt) y = true := by have := bI_ne.mp h19; rwa [hc] at this
      have k1 : (prX (nI cnt) x = true ∧ (prX (nI cnt) y = true ∨ y = -1)) := ⟨hp, Or.inl hq⟩
      have hY : isPt y := by obtain ⟨p, hp6, rfl⟩ := pt_n (by omega) hq; exact isPt_nI (by omega)
      refine j_iln dX9_mate_37 rfl rfl ?_
      refine j_S1d mf_X9_isAxis ml_X9_221 dX9_mate_38 (Nat.le_of_ble_eq_true rfl) (Nat.le_of_ble_eq_true rfl) (Nat.le_of_ble_eq_true rfl) ⟨(Nat.le_of_ble_eq_true rfl), (Nat.le_of_ble_eq_true rfl)⟩ c_X9_isAxis ?_
      refine j_ifeq (tgt := 57) dX9_mate_41 (by decide) (fun h41 => ?_) (fun h41 => ?_)
      · have hx2 : ¬ (axX ax = true ∧ ¬ x = y ∧ gvn d = true) := fun q => by have e := bI_eq.mp h41; rw [q.1] at e; exact absurd e (by decide)
        exact j_throwSW (text := "no such axis, the same part or no such distance") hl9 thr_36 (by decide +kernel) dX9_mate_57 dX9_mate_60 dX9_mate_61 dX9_mate_64 dX9_mate_67 (Nat.le_of_ble_eq_true rfl) (Nat.le_of_ble_eq_true rfl) ⟨Or.inr (Or.inl ⟨k1, hx2, rfl⟩), rfl⟩
      · refine j_iln dX9_mate_44 rfl rfl ?_
        refine j_iln dX9_mate_45 rfl rfl ?_
        refine j_iceq (tgt := 57) dX9_mate_46 (by decide) (fun h46 => ?_) (fun h46 => ?_)
        · have hx2 : ¬ (axX ax = true ∧ ¬ x = y ∧ gvn d = true) := fun q => q.2.1 h46
          exact j_throwSW (text := "no such axis, the same part or no such distance") hl9 thr_36 (by decide +kernel) dX9_mate_57 dX9_mate_60 dX9_mate_61 dX9_mate_64 dX9_mate_67 (Nat.le_of_ble_eq_true rfl) (Nat.le_of_ble_eq_true rfl) ⟨Or.inr (Or.inl ⟨k1, hx2, rfl⟩), rfl⟩
        · refine j_il dX9_mate_49 rfl ?_
          refine j_S1d mf_X9_isGiven ml_X9_236 dX9_mate_51 (Nat.le_of_ble_eq_true rfl) (Nat.le_of_ble_eq_true rfl) (Nat.le_of_ble_eq_true rfl) ⟨(Nat.le_of_ble_eq_true rfl), (Nat.le_of_ble_eq_true rfl)⟩ c_X9_isGiven ?_
          refine j_ifne (tgt := 68) dX9_mate_54 (by decide) (fun h54 => ?_) (fun h54 => ?_)
          · have k2 : (axX ax = true ∧ ¬ x = y ∧ gvn d = true) := ⟨bI_ne.mp h41, h46, bI_ne.mp h54⟩
            refine j_aln dX9_mate_68 rfl rfl ?_
            refine g_X9_1 dX9_mate_69 fl_X9_19 ?_
            refine j_iln dX9_mate_72 rfl rfl ?_
            refine j_iln dX9_mate_73 rfl rfl ?_
            refine j_iln dX9_mate_74 rfl rfl ?_
            refine j_V3d mf_X6_areTied ml_X9_264 dX9_mate_75 (Nat.le_of_ble_eq_true rfl) (Nat.le_of_ble_eq_true rfl) (Nat.le_of_ble_eq_true rfl) ⟨(Nat.le_of_ble_eq_true rfl), (Nat.le_of_ble_eq_true rfl)⟩ (by first | assumption | decide | (simp only [nv] at *; omega)) rfl rfl (c_X6_areTied hmc hmc12) ?_
            refine j_ifeq (tgt := 92) dX9_mate_78 (by decide) (fun h78 => ?_) (fun h78 => ?_)
            · have ht := bI_eq.mp h78
              refine j_aln dX9_mate_92 rfl rfl ?_
              refine g_X9_1 dX9_mate_93 fl_X9_19 ?_
              refine g_X6_3 dX9_mate_96 fl_X9_269 ?_
              refine j_topi hmc ?_
              refine j_biN 12 dX9_mate_99 rfl ?_
              refine j_icltN (tgt := 115) dX9_mate_101 (by decide) (by omega) (by omega) (fun h101 => ?_) (fun h101 => ?_)
              · obtain ⟨a, ha3, rfl⟩ := ax_n k2.1
                rw [ntX_nI (show a < 2 ^ 31 by omega)]
                refine j_aln dX9_mate_115 rfl rfl ?_
                refine g_X9_1 dX9_mate_116 fl_X9_19 ?_
                refine j_iln dX9_mate_119 rfl rfl ?_
                refine j_iln dX9_mate_120 rfl rfl ?_
                refine j_iln dX9_mate_121 rfl rfl ?_
                refine j_il dX9_mate_122 rfl ?_
                refine j_V4d mf_X6_tie ml_X9_274 dX9_mate_124 (Nat.le_of_ble_eq_true rfl) (Nat.le_of_ble_eq_true rfl) (Nat.le_of_ble_eq_true rfl) ⟨(Nat.le_of_ble_eq_true rfl), (Nat.le_of_ble_eq_true rfl)⟩ (by first | assumption | decide | (simp only [nv] at *; omega)) rfl rfl (c_X6_tie hc hc6 hmc hmc12 h101 ha3 hX hY rfl) ?_
                exact j_iretX dX9_mate_127 rfl rfl (Nat.le_of_ble_eq_true rfl) (Nat.le_of_ble_eq_true rfl) ⟨k1, k2, ht, h101, rfl, rfl⟩
              · exact j_throwSW (text := "no more mates") hl9 thr_111 (by decide +kernel) dX9_mate_104 dX9_mate_107 dX9_mate_108 dX9_mate_111 dX9_mate_114 (Nat.le_of_ble_eq_true rfl) (Nat.le_of_ble_eq_true rfl) ⟨Or.inr (Or.inr (Or.inr ⟨k1, k2, ht, h101, rfl⟩)), rfl⟩
            · have ht := bI_ne.mp h78
              exact j_throwSW (text := "tied along the axis already") hl9 thr_57 (by decide +kernel) dX9_mate_81 dX9_mate_84 dX9_mate_85 dX9_mate_88 dX9_mate_91 (Nat.le_of_ble_eq_true rfl) (Nat.le_of_ble_eq_true rfl) ⟨Or.inr (Or.inr (Or.inl ⟨k1, k2, ht, rfl⟩)), rfl⟩
          · have hx2 : ¬ (axX ax = true ∧ ¬ x = y ∧ gvn d = true) := fun q => by have e := bI_eq.mp h54; rw [q.2.2] at e; exact absurd e (by decide)
            exact j_throwSW (text := "no such axis, the same part or no such distance") hl9 thr_36 (by decide +kernel) dX9_mate_57 dX9_mate_60 dX9_mate_61 dX9_mate_64 dX9_mate_67 (Nat.le_of_ble_eq_true rfl) (Nat.le_of_ble_eq_true rfl) ⟨Or.inr (Or.inl ⟨k1, hx2, rfl⟩), rfl⟩
    · have hq : prX (nI cnt) y = false := by have := bI_eq.mp h19; rwa [hc] at this
      refine j_iln dX9_mate_22 rfl rfl ?_
      refine j_ic (v := (-1)) dX9_mate_23 (by decide) ?_
      refine j_iceq (tgt := 37) dX9_mate_24 (by decide) (fun h24 => ?_) (fun h24 => ?_)
      · have k1 : (prX (nI cnt) x = true ∧ (prX (nI cnt) y = true ∨ y = -1)) := ⟨hp, Or.inr h24⟩
        have hY : isPt y := Or.inl h24
        refine j_iln dX9_mate_37 rfl rfl ?_
        refine j_S1d mf_X9_isAxis ml_X9_221 dX9_mate_38 (Nat.le_of_ble_eq_true rfl) (Nat.le_of_ble_eq_true rfl) (Nat.le_of_ble_eq_true rfl) ⟨(Nat.le_of_ble_eq_true rfl), (Nat.le_of_ble_eq_true rfl)⟩ c_X9_isAxis ?_
        refine j_ifeq (tgt := 57) dX9_mate_41 (by decide) (fun h41 => ?_) (fun h41 => ?_)
        · have hx2 : ¬ (axX ax = true ∧ ¬ x = y ∧ gvn d = true) := fun q => by have e := bI_eq.mp h41; rw [q.1] at e; exact absurd e (by decide)
          exact j_throwSW (text := "no such axis, the same part or no such distance") hl9 thr_36 (by decide +kernel) dX9_mate_57 dX9_mate_60 dX9_mate_61 dX9_mate_64 dX9_mate_67 (Nat.le_of_ble_eq_true rfl) (Nat.le_of_ble_eq_true rfl) ⟨Or.inr (Or.inl ⟨k1, hx2, rfl⟩), rfl⟩
        · refine j_iln dX9_mate_44 rfl rfl ?_
          refine j_iln dX9_mate_45 rfl rfl ?_
          refine j_iceq (tgt := 57) dX9_mate_46 (by decide) (fun h46 => ?_) (fun h46 => ?_)
          · have hx2 : ¬ (axX ax = true ∧ ¬ x = y ∧ gvn d = true) := fun q => q.2.1 h46
            exact j_throwSW (text := "no such axis, the same part or no such distance") hl9 thr_36 (by decide +kernel) dX9_mate_57 dX9_mate_60 dX9_mate_61 dX9_mate_64 dX9_mate_67 (Nat.le_of_ble_eq_true rfl) (Nat.le_of_ble_eq_true rfl) ⟨Or.inr (Or.inl ⟨k1, hx2, rfl⟩), rfl⟩
          · refine j_il dX9_mate_49 rfl ?_
            refine j_S1d mf_X9_isGiven ml_X9_236 dX9_mate_51 (Nat.le_of_ble_eq_true rfl) (Nat.le_of_ble_eq_true rfl) (Nat.le_of_ble_eq_true rfl) ⟨(Nat.le_of_ble_eq_true rfl), (Nat.le_of_ble_eq_true rfl)⟩ c_X9_isGiven ?_
            refine j_ifne (tgt := 68) dX9_mate_54 (by decide) (fun h54 => ?_) (fun h54 => ?_)
            · have k2 : (axX ax = true ∧ ¬ x = y ∧ gvn d = true) := ⟨bI_ne.mp h41, h46, bI_ne.mp h54⟩
              refine j_aln dX9_mate_68 rfl rfl ?_
              refine g_X9_1 dX9_mate_69 fl_X9_19 ?_
              refine j_iln dX9_mate_72 rfl rfl ?_
              refine j_iln dX9_mate_73 rfl rfl ?_
              refine j_iln dX9_mate_74 rfl rfl ?_
              refine j_V3d mf_X6_areTied ml_X9_264 dX9_mate_75 (Nat.le_of_ble_eq_true rfl) (Nat.le_of_ble_eq_true rfl) (Nat.le_of_ble_eq_true rfl) ⟨(Nat.le_of_ble_eq_true rfl), (Nat.le_of_ble_eq_true rfl)⟩ (by first | assumption | decide | (simp only [nv] at *; omega)) rfl rfl (c_X6_areTied hmc hmc12) ?_
              refine j_ifeq (tgt := 92) dX9_mate_78 (by decide) (fun h78 => ?_) (fun h78 => ?_)
              · have ht := bI_eq.mp h78
                refine j_aln dX9_mate_92 rfl rfl ?_
                refine g_X9_1 dX9_mate_93 fl_X9_19 ?_
                refine g_X6_3 dX9_mate_96 fl_X9_269 ?_
                refine j_topi hmc ?_
                refine j_biN 12 dX9_mate_99 rfl ?_
                refine j_icltN (tgt := 115) dX9_mate_101 (by decide) (by omega) (by omega) (fun h101 => ?_) (fun h101 => ?_)
                · obtain ⟨a, ha3, rfl⟩ := ax_n k2.1
                  rw [ntX_nI (show a < 2 ^ 31 by omega)]
                  refine j_aln dX9_mate_115 rfl rfl ?_
                  refine g_X9_1 dX9_mate_116 fl_X9_19 ?_
                  refine j_iln dX9_mate_119 rfl rfl ?_
                  refine j_iln dX9_mate_120 rfl rfl ?_
                  refine j_iln dX9_mate_121 rfl rfl ?_
                  refine j_il dX9_mate_122 rfl ?_
                  refine j_V4d mf_X6_tie ml_X9_274 dX9_mate_124 (Nat.le_of_ble_eq_true rfl) (Nat.le_of_ble_eq_true rfl) (Nat.le_of_ble_eq_true rfl) ⟨(Nat.le_of_ble_eq_true rfl), (Nat.le_of_ble_eq_true rfl)⟩ (by first | assumption | decide | (simp only [nv] at *; omega)) rfl rfl (c_X6_tie hc hc6 hmc hmc12 h101 ha3 hX hY rfl) ?_
                  exact j_iretX dX9_mate_127 rfl rfl (Nat.le_of_ble_eq_true rfl) (Nat.le_of_ble_eq_true rfl) ⟨k1, k2, ht, h101, rfl, rfl⟩
                · exact j_throwSW (text := "no more mates") hl9 thr_111 (by decide +kernel) dX9_mate_104 dX9_mate_107 dX9_mate_108 dX9_mate_111 dX9_mate_114 (Nat.le_of_ble_eq_true rfl) (Nat.le_of_ble_eq_true rfl) ⟨Or.inr (Or.inr (Or.inr ⟨k1, k2, ht, h101, rfl⟩)), rfl⟩
              · have ht := bI_ne.mp h78
                exact j_throwSW (text := "tied along the axis already") hl9 thr_57 (by decide +kernel) dX9_mate_81 dX9_mate_84 dX9_mate_85 dX9_mate_88 dX9_mate_91 (Nat.le_of_ble_eq_true rfl) (Nat.le_of_ble_eq_true rfl) ⟨Or.inr (Or.inr (Or.inl ⟨k1, k2, ht, rfl⟩)), rfl⟩
            · have hx2 : ¬ (axX ax = true ∧ ¬ x = y ∧ gvn d = true) := fun q => by have e := bI_eq.mp h54; rw [q.2.2] at e; exact absurd e (by decide)
              exact j_throwSW (text := "no such axis, the same part or no such distance") hl9 thr_36 (by decide +kernel) dX9_mate_57 dX9_mate_60 dX9_mate_61 dX9_mate_64 dX9_mate_67 (Nat.le_of_ble_eq_true rfl) (Nat.le_of_ble_eq_true rfl) ⟨Or.inr (Or.inl ⟨k1, hx2, rfl⟩), rfl⟩
      · have hx1 : ¬ (prX (nI cnt) x = true ∧ (prX (nI cnt) y = true ∨ y = -1)) := fun q => q.2.elim (fun q => by rw [q] at hq; exact absurd hq (by decide)) h24
        exact j_throwS (text := "no such part") hl9 thr_143 (by decide +kernel) dX9_mate_27 dX9_mate_30 dX9_mate_31 dX9_mate_33 dX9_mate_36 (Nat.le_of_ble_eq_true rfl) (Nat.le_of_ble_eq_true rfl) ⟨Or.inl ⟨hx1, rfl⟩, rfl⟩
set_option maxRecDepth 100000 in
set_option maxHeartbeats 4000000 in
theorem c_X9_clashes {l : Launch} {E : Ev} {M : Mm} (hl9 : l.stackTraces = false) {cnt bar : Nat} {x y : Int32} (hc : mI M 5 2 = nI cnt) (hc6 : cnt ≤ 6) (hbar : mI M 2 7 = nI bar) (hb12 : bar ≤ 12) : CtX l E yX9_clashes cX9_clashes 3 (some .int) 6 [.ref (eA E 0 0), .int x, .int y] M (fun v M1 => (prX (nI cnt) x = true ∧ prX (nI cnt) y = true) ∧ ¬ x = y ∧ v = some (.int (csX (mL M (if mI M 33 (ntX x) = 0 then bar else 19 + ntX x)) (mL M (if mI M 33 (ntX y) = 0 then bar else 19 + ntX y)) (apX (mI M 34) 0 x y) (apX (mI M 34) 1 x y) (apX (mI M 34) 2 x y))) ∧ M1 = M) (fun c M1 => ((¬ (prX (nI cnt) x = true ∧ prX (nI cnt) y = true) ∧ c = "java/lang/IndexOutOfBoundsException") ∨ ((prX (nI cnt) x = true ∧ prX (nI cnt) y = true) ∧ x = y ∧ c = "java/lang/IllegalArgumentException")) ∧ M1 = M) := by
  refine CtX.of (own := RX9) rfl [some (.ref (eA E 0 0)), some (.int x), some (.int y)] (by decide) (Nat.le_of_ble_eq_true rfl) rfl ?_
  refine j_aln dX9_clashes_0 rfl rfl ?_
  refine g_X9_1 dX9_clashes_1 fl_X9_19 ?_
  refine j_iln dX9_clashes_4 rfl rfl ?_
  refine j_V1d mf_X6_isPart ml_X9_246 dX9_clashes_5 (Nat.le_of_ble_eq_true rfl) (Nat.le_of_ble_eq_true rfl) (Nat.le_of_ble_eq_true rfl) ⟨(Nat.le_of_ble_eq_true rfl), (Nat.le_of_ble_eq_true rfl)⟩ (by first | assumption | decide | (simp only [nv] at *; omega)) rfl rfl c_X6_isPart ?_
  refine j_ifeq (tgt := 22) dX9_clashes_8 (by decide) (fun h8 => ?_) (fun h8 => ?_)
  · have hx1 : ¬ (prX (nI cnt) x = true ∧ prX (nI cnt) y = true) := fun q => by have e := bI_eq.mp h8; rw [hc, q.1] at e; exact absurd e (by decide)
    exact j_throwS (text := "no such part") hl9 thr_143 (by decide +kernel) dX9_clashes_22 dX9_clashes_25 dX9_clashes_26 dX9_clashes_28 dX9_clashes_31 (Nat.le_of_ble_eq_true rfl) (Nat.le_of_ble_eq_true rfl) ⟨Or.inl ⟨hx1, rfl⟩, rfl⟩
  · have hp : prX (nI cnt) x = true := by have := bI_ne.mp h8; rwa [hc] at this
    refine j_aln dX9_clashes_11 rfl rfl ?_
    refine g_X9_1 dX9_clashes_12 fl_X9_19 ?_
    refine j_iln dX9_clashes_15 rfl rfl ?_
    refine j_V1d mf_X6_isPart ml_X9_246 dX9_clashes_16 (Nat.le_of_ble_eq_true rfl) (Nat.le_of_ble_eq_true rfl) (Nat.le_of_ble_eq_true rfl) ⟨(Nat.le_of_ble_eq_true rfl), (Nat.le_of_ble_eq_true rfl)⟩ (by first | assumption | decide | (simp only [nv] at *; omega)) rfl rfl c_X6_isPart ?_
    refine j_ifne (tgt := 32) dX9_clashes_19 (by decide) (fun h19 => ?_) (fun h19 => ?_)
    · have hq : prX (nI cnt) y = true := by have := bI_ne.mp h19; rwa [hc] at this
      have k1 : (prX (nI cnt) x = true ∧ prX (nI cnt) y = true) := ⟨hp, hq⟩
      refine j_iln dX9_clashes_32 rfl rfl ?_
      refine j_iln dX9_clashes_33 rfl rfl ?_
      refine j_icne (tgt := 48) dX9_clashes_34 (by decide) (fun h34 => ?_) (fun h34 => ?_)
      · obtain ⟨p, hp6, rfl⟩ := pt_n (by omega) hp
        obtain ⟨q, hq6, rfl⟩ := pt_n (by omega) hq
        rw [ntX_nI (show p < 2 ^ 31 by omega), ntX_nI (show q < 2 ^ 31 by omega)]
        refine j_aln dX9_clashes_48 rfl rfl ?_
        refine g_X9_1 dX9_clashes_49 fl_X9_19 ?_
        refine j_iln dX9_clashes_52 rfl rfl ?_
        refine j_iln dX9_clashes_53 rfl rfl ?_
        refine j_aln dX9_clashes_54 rfl rfl ?_
        refine g_X9_0 dX9_clashes_55 fl_X9_10 ?_
        refine j_V0d mf_X3_body ml_X9_173 dX9_clashes_58 (Nat.le_of_ble_eq_true rfl) (Nat.le_of_ble_eq_true rfl) (Nat.le_of_ble_eq_true rfl) ⟨(Nat.le_of_ble_eq_true rfl), (Nat.le_of_ble_eq_true rfl)⟩ (by first | assumption | decide | (simp only [nv] at *; omega)) rfl rfl (c_X3_body hbar hb12) ?_
        refine g_X0_0 dX9_clashes_61 fl_X9_177 (show bar < 15 by omega) ?_
        refine j_V3d mf_X6_countShared ml_X9_292 dX9_clashes_64 (Nat.le_of_ble_eq_true rfl) (Nat.le_of_ble_eq_true rfl) (Nat.le_of_ble_eq_true rfl) ⟨(Nat.le_of_ble_eq_true rfl), (Nat.le_of_ble_eq_true rfl)⟩ (by first | assumption | decide | (simp only [nv] at *; omega)) rfl rfl (c_X6_countShared (s := if mI M 33 p = 0 then bar else 19 + p) (t := if mI M 33 q = 0 then bar else 19 + q) (show p < 6 by omega) (show q < 6 by omega) (by show _ < 25; split <;> omega) (by show _ < 25; split <;> omega) (fun h => if_pos h) (fun h => if_neg h) (fun h => if_pos h) (fun h => if_neg h)) ?_
        exact j_iretX dX9_clashes_67 rfl rfl (Nat.le_of_ble_eq_true rfl) (Nat.le_of_ble_eq_true rfl) ⟨k1, h34, rfl, rfl⟩
      · exact j_throwSW (text := "the same part") hl9 thr_36 (by decide +kernel) dX9_clashes_37 dX9_clashes_40 dX9_clashes_41 dX9_clashes_44 dX9_clashes_47 (Nat.le_of_ble_eq_true rfl) (Nat.le_of_ble_eq_true rfl) ⟨Or.inr ⟨k1, h34, rfl⟩, rfl⟩
    · have hx1 : ¬ (prX (nI cnt) x = true ∧ prX (nI cnt) y = true) := fun q => by have e := bI_eq.mp h19; rw [hc, q.2] at e; exact absurd e (by decide)
      exact j_throwS (text := "no such part") hl9 thr_143 (by decide +kernel) dX9_clashes_22 dX9_clashes_25 dX9_clashes_26 dX9_clashes_28 dX9_clashes_31 (Nat.le_of_ble_eq_true rfl) (Nat.le_of_ble_eq_true rfl) ⟨Or.inl ⟨hx1, rfl⟩, rfl⟩
set_option maxRecDepth 100000 in
set_option maxHeartbeats 4000000 in
theorem c_X9_isSound {l : Launch} {E : Ev} {M : Mm} {cf bar mc : Nat} {fr : Nat → Nat} (hcnt : mI M 2 5 = nI cf) (hbar : mI M 2 7 = nI bar) (hbc : bar ≤ cf) (hc12 : cf ≤ 12) (hrow : ∀ k, k < cf → mI M 24 k = nI (fr k) ∧ fr k < 40) (hkd : ∀ k, k < cf → seven (mI M 25 (fr k))) (hmc : mI M 5 3 = nI mc) (hmc12 : mc ≤ 12) (hm : ∀ k, k < mc → (∃ a, a < 3 ∧ mI M 35 k = nI a) ∧ isPt (mI M 36 k) ∧ isPt (mI M 37 k)) : Ct l E yX9_isSound cX9_isSound 2 (some .boolean) 7 0 0 [.ref (eA E 0 0)] M (fun v M1 => bfF M M1 ∧ SR M fr bar (mL M1 13) (mK M1 13) ∧ v = some (.int (bI (sameL (mL M1 bar) (mL M1 13) && balN (mL M1 bar) && sbN M1 cf fr && fitX M1 mc)))) := by
  refine Ct.of (own := RX9) rfl [some (.ref (eA E 0 0)), none] (by decide) (Nat.le_of_ble_eq_true rfl) rfl ?_
  refine j_aln dX9_isSound_0 rfl rfl ?_
  refine g_X9_0 dX9_isSound_1 fl_X9_10 ?_
  refine j_V0d mf_X3_body ml_X9_173 dX9_isSound_4 (Nat.le_of_ble_eq_true rfl) (Nat.le_of_ble_eq_true rfl) (Nat.le_of_ble_eq_true rfl) ⟨(Nat.le_of_ble_eq_true rfl), (Nat.le_of_ble_eq_true rfl)⟩ (by first | assumption | decide | (simp only [nv] at *; omega)) rfl rfl (c_X3_body hbar (by omega)) ?_
  refine g_X0_0 dX9_isSound_7 fl_X9_177 (show bar < 15 by omega) ?_
  refine j_ast_1 dX9_isSound_10 (by decide) rfl ?_
  refine j_aln dX9_isSound_11 rfl rfl ?_
  refine j_aln dX9_isSound_12 rfl rfl ?_
  refine g_X9_0 dX9_isSound_13 fl_X9_10 ?_
  refine j_V0g mf_X3_bodyFromNothing ml_X9_186 dX9_isSound_16 (Nat.le_of_ble_eq_true rfl) (Nat.le_of_ble_eq_true rfl) (Nat.le_of_ble_eq_true rfl) ⟨(Nat.le_of_ble_eq_true rfl), (Nat.le_of_ble_eq_true rfl)⟩ (by first | assumption | decide | (simp only [nv] at *; omega)) rfl rfl (c_X3_bodyFromNothing hbar hbc hc12 hrow hkd) ?_
  intro v M9 h9
  obtain ⟨rfl, hb9, hs9⟩ := h9
  have g1 := hb9.1
  refine g_X0_0 dX9_isSound_19 fl_X9_177 (show 13 < 15 by decide) ?_
  refine j_V1d mf_X1_isSameAs ml_X9_308 dX9_isSound_22 (Nat.le_of_ble_eq_true rfl) (Nat.le_of_ble_eq_true rfl) (Nat.le_of_ble_eq_true rfl) ⟨(Nat.le_of_ble_eq_true rfl), (Nat.le_of_ble_eq_true rfl)⟩ (by first | assumption | decide | (simp only [nv] at *; omega)) rfl rfl (c_X1_isSameAs (show bar < 25 by omega) (show 13 < 25 by decide)) ?_
  refine j_ifeq (tgt := 62) dX9_isSound_25 (by decide) (fun h25 => ?_) (fun h25 => ?_)
  · have hr : (sameL (mL M9 bar) (mL M9 13) && balN (mL M9 bar) && sbN M9 cf fr && fitX M9 mc) = false := by rw [bI_eq.mp h25]; simp only [Bool.false_and]
    refine j_icN 0 dX9_isSound_62 rfl ?_
    exact j_iret dX9_isSound_63 rfl (by decide) (Nat.le_of_ble_eq_true rfl) (Nat.le_of_ble_eq_true rfl) ⟨hb9, hs9, by rw [hr]; rfl⟩
  · refine j_aln dX9_isSound_28 rfl rfl ?_
    refine j_S1d mf_X4_isBalanced ml_X9_312 dX9_isSound_29 (Nat.le_of_ble_eq_true rfl) (Nat.le_of_ble_eq_true rfl) (Nat.le_of_ble_eq_true rfl) ⟨(Nat.le_of_ble_eq_true rfl), (Nat.le_of_ble_eq_true rfl)⟩ (c_X4_isBalanced (show bar < 25 by omega)) ?_
    refine j_ifeq (tgt := 62) dX9_isSound_32 (by decide) (fun h32 => ?_) (fun h32 => ?_)
    · have hr : (sameL (mL M9 bar) (mL M9 13) && balN (mL M9 bar) && sbN M9 cf fr && fitX M9 mc) = false := by rw [bI_eq.mp h32]; simp only [Bool.false_and, Bool.and_false]
      refine j_icN 0 dX9_isSound_62 rfl ?_
      exact j_iret dX9_isSound_63 rfl (by decide) (Nat.le_of_ble_eq_true rfl) (Nat.le_of_ble_eq_true rfl) ⟨hb9, hs9, by rw [hr]; rfl⟩
    · refine j_aln dX9_isSound_35 rfl rfl ?_
      refine g_X9_0 dX9_isSound_36 fl_X9_10 ?_
      refine g_X3_0 dX9_isSound_39 fl_X9_43 ?_
      refine j_V0d mf_X2_standBehindNeeded ml_X9_77 dX9_isSound_42 (Nat.le_of_ble_eq_true rfl) (Nat.le_of_ble_eq_true rfl) (Nat.le_of_ble_eq_true rfl) ⟨(Nat.le_of_ble_eq_true rfl), (Nat.le_of_ble_eq_true rfl)⟩ (by first | assumption | decide | (simp only [nv] at *; omega)) rfl rfl (c_X2_standBehindNeeded ((congrFun (g1 2 (by decide)) 5).trans hcnt) hc12 (fun k hk => by rw [g1 24 (by decide)]; exact hrow k hk)) ?_
      refine j_ifeq (tgt := 62) dX9_isSound_45 (by decide) (fun h45 => ?_) (fun h45 => ?_)
      · have hr : (sameL (mL M9 bar) (mL M9 13) && balN (mL M9 bar) && sbN M9 cf fr && fitX M9 mc) = false := by rw [bI_eq.mp h45]; simp only [Bool.false_and, Bool.and_false]
        refine j_icN 0 dX9_isSound_62 rfl ?_
        exact j_iret dX9_isSound_63 rfl (by decide) (Nat.le_of_ble_eq_true rfl) (Nat.le_of_ble_eq_true rfl) ⟨hb9, hs9, by rw [hr]; rfl⟩
      · refine j_aln dX9_isSound_48 rfl rfl ?_
        refine g_X9_1 dX9_isSound_49 fl_X9_19 ?_
        refine j_V0d mf_X6_doMatesFit ml_X9_315 dX9_isSound_52 (Nat.le_of_ble_eq_true rfl) (Nat.le_of_ble_eq_true rfl) (Nat.le_of_ble_eq_true rfl) ⟨(Nat.le_of_ble_eq_true rfl), (Nat.le_of_ble_eq_true rfl)⟩ (by first | assumption | decide | (simp only [nv] at *; omega)) rfl rfl (c_X6_doMatesFit ((congrFun (g1 5 (by decide)) 3).trans hmc) hmc12 (fun k hk => by rw [g1 35 (by decide), g1 36 (by decide), g1 37 (by decide)]; exact hm k hk)) ?_
        refine j_ifeq (tgt := 62) dX9_isSound_55 (by decide) (fun h55 => ?_) (fun h55 => ?_)
        · have hr : (sameL (mL M9 bar) (mL M9 13) && balN (mL M9 bar) && sbN M9 cf fr && fitX M9 mc) = false := by rw [bI_eq.mp h55]; exact Bool.and_false _
          refine j_icN 0 dX9_isSound_62 rfl ?_
          exact j_iret dX9_isSound_63 rfl (by decide) (Nat.le_of_ble_eq_true rfl) (Nat.le_of_ble_eq_true rfl) ⟨hb9, hs9, by rw [hr]; rfl⟩
        · have hr : (sameL (mL M9 bar) (mL M9 13) && balN (mL M9 bar) && sbN M9 cf fr && fitX M9 mc) = true := by rw [bI_ne.mp h25, bI_ne.mp h32, bI_ne.mp h45, bI_ne.mp h55]; rfl
          refine j_icN 1 dX9_isSound_58 rfl ?_
          refine j_goto (tgt := 63) dX9_isSound_59 (by decide) ?_
          exact j_iret dX9_isSound_63 rfl (by decide) (Nat.le_of_ble_eq_true rfl) (Nat.le_of_ble_eq_true rfl) ⟨hb9, hs9, by rw [hr]; rfl⟩
