/-! the model: names and squares -/
def in5 (x : Int32) : Bool := inX x (nI 0) (nI 5)
theorem in5_n {x : Int32} (h : in5 x = true) : ∃ n, n < 6 ∧ x = nI n := by
  have h2 := inX_i.mp h
  obtain ⟨w, hw, rfl⟩ := nn_le (n := 5) (by decide) h2.1 (Int32.not_lt.mp h2.2)
  exact ⟨w, by omega, rfl⟩
abbrev c0 (M : Mm) : Mm := cdM M (nI 0)
set_option maxRecDepth 100000 in
set_option maxHeartbeats 4000000 in
theorem c_X10_nameOf {l : Launch} {E : Ev} {M : Mm} {x y z s : Int32}  : Ct l E yX10_nameOf cX10_nameOf 6 (some .int) 3 0 0 [.ref (eA E 12 0), .int x, .int y, .int z, .int s] M (fun v M1 => (clX x y z = -1 ∧ v = some (.int (nI 0)) ∧ M1 = cdM (c0 M) (nI 1)) ∨ (¬ clX x y z = -1 ∧ in5 s = false ∧ v = some (.int (nI 0)) ∧ M1 = cdM (c0 M) (nI 2)) ∨ (¬ clX x y z = -1 ∧ in5 s = true ∧ mI M 56 (6 * ntX (clX x y z) + ntX s) = -1 ∧ v = some (.int (nI 0)) ∧ M1 = cdM (c0 M) (nI 3)) ∨ (¬ clX x y z = -1 ∧ in5 s = true ∧ ¬ mI M 56 (6 * ntX (clX x y z) + ntX s) = -1 ∧ v = some (.int (mI M 56 (6 * ntX (clX x y z) + ntX s))) ∧ M1 = c0 M)) := by
  refine Ct.of (own := RX10) rfl [some (.ref (eA E 12 0)), some (.int x), some (.int y), some (.int z), some (.int s), none] (by decide) (Nat.le_of_ble_eq_true rfl) rfl ?_
  refine j_aln dX10_nameOf_0 rfl rfl ?_
  refine j_icN 0 dX10_nameOf_1 rfl ?_
  refine p_X10_0 dX10_nameOf_2 fl_X10_96 ?_
  refine j_iln dX10_nameOf_5 rfl rfl ?_
  refine j_iln dX10_nameOf_6 rfl rfl ?_
  refine j_iln dX10_nameOf_7 rfl rfl ?_
  refine j_S3d mf_X10_cell ml_X10_180 dX10_nameOf_8 (Nat.le_of_ble_eq_true rfl) (Nat.le_of_ble_eq_true rfl) (Nat.le_of_ble_eq_true rfl) ⟨(Nat.le_of_ble_eq_true rfl), (Nat.le_of_ble_eq_true rfl)⟩ c_X10_cell ?_
  refine j_ist_5 dX10_nameOf_11 (by decide) rfl ?_
  refine j_il dX10_nameOf_13 rfl ?_
  refine j_ic (v := (-1)) dX10_nameOf_15 (by decide) ?_
  refine j_icne (tgt := 25) dX10_nameOf_16 (by decide) (fun h16 => ?_) (fun h16 => ?_)
  · refine j_il dX10_nameOf_25 rfl ?_
    refine j_icN 0 dX10_nameOf_27 rfl ?_
    refine j_icN 5 dX10_nameOf_28 rfl ?_
    refine j_S3d mf_X10_in ml_X10_100 dX10_nameOf_29 (Nat.le_of_ble_eq_true rfl) (Nat.le_of_ble_eq_true rfl) (Nat.le_of_ble_eq_true rfl) ⟨(Nat.le_of_ble_eq_true rfl), (Nat.le_of_ble_eq_true rfl)⟩ c_X10_in ?_
    refine j_ifne (tgt := 41) dX10_nameOf_32 (by decide) (fun h32 => ?_) (fun h32 => ?_)
    · have hs : in5 s = true := bI_ne.mp h32
      obtain ⟨t, ht, hte⟩ := clX_n h16
      obtain ⟨u, hu, rfl⟩ := in5_n hs
      have hE : mI M 56 (6 * ntX (clX x y z) + ntX (nI u)) = mI M 56 (6 * t + u) := by rw [hte, ntX_nI (by omega), ntX_nI (by omega)]
      refine j_eq (congrArg (fun q => [_, _, _, _, _, some (Value.int q)]) hte) rfl rfl ?_
      refine j_aln dX10_nameOf_41 rfl rfl ?_
      refine g_X10_23 dX10_nameOf_42 fl_X10_60 ?_
      refine j_biN 6 dX10_nameOf_45 rfl ?_
      refine j_il dX10_nameOf_47 rfl ?_
      refine j_imulN dX10_nameOf_49 ?_
      refine j_il dX10_nameOf_50 rfl ?_
      refine j_iaddN dX10_nameOf_52 ?_
      refine j_aildN dX10_nameOf_53 rfl rfl rfl (by decide) (by omega) ?_
      refine j_ic (v := (-1)) dX10_nameOf_54 (by decide) ?_
      refine j_icne (tgt := 66) dX10_nameOf_55 (by decide) (fun h55 => ?_) (fun h55 => ?_)
      · have hm : ¬ mI M 56 (6 * t + u) = -1 := h55
        refine j_aln dX10_nameOf_66 rfl rfl ?_
        refine g_X10_23 dX10_nameOf_67 fl_X10_60 ?_
        refine j_biN 6 dX10_nameOf_70 rfl ?_
        refine j_il dX10_nameOf_72 rfl ?_
        refine j_imulN dX10_nameOf_74 ?_
        refine j_il dX10_nameOf_75 rfl ?_
        refine j_iaddN dX10_nameOf_77 ?_
        refine j_aildN dX10_nameOf_78 rfl rfl rfl (by decide) (by omega) ?_
        exact j_iret dX10_nameOf_79 rfl rfl (Nat.le_of_ble_eq_true rfl) (Nat.le_of_ble_eq_true rfl) (by first | exact Or.inr (Or.inr (Or.inl ⟨h16, hs, hE.trans hm, rfl, rfl⟩)) | exact Or.inr (Or.inr (Or.inr ⟨h16, hs, fun q => hm (hE.symm.trans q), by rw [hE]; rfl, rfl⟩)))
      · have hm : mI M 56 (6 * t + u) = -1 := h55
        refine j_aln dX10_nameOf_58 rfl rfl ?_
        refine j_icN 3 dX10_nameOf_59 rfl ?_
        refine j_V1d mf_X10_fails ml_X10_112 dX10_nameOf_60 (Nat.le_of_ble_eq_true rfl) (Nat.le_of_ble_eq_true rfl) (Nat.le_of_ble_eq_true rfl) ⟨(Nat.le_of_ble_eq_true rfl), (Nat.le_of_ble_eq_true rfl)⟩ (by first | assumption | decide | (simp only [nv] at *; omega)) rfl rfl c_X10_fails ?_
        refine j_goto (tgt := 79) dX10_nameOf_63 (by decide) ?_
        exact j_iret dX10_nameOf_79 rfl rfl (Nat.le_of_ble_eq_true rfl) (Nat.le_of_ble_eq_true rfl) (by first | exact Or.inr (Or.inr (Or.inl ⟨h16, hs, hE.trans hm, rfl, rfl⟩)) | exact Or.inr (Or.inr (Or.inr ⟨h16, hs, fun q => hm (hE.symm.trans q), by rw [hE]; rfl, rfl⟩)))
    · have hs : in5 s = false := bI_eq.mp h32
      refine j_aln dX10_nameOf_35 rfl rfl ?_
      refine j_icN 2 dX10_nameOf_36 rfl ?_
      refine j_V1d mf_X10_fails ml_X10_112 dX10_nameOf_37 (Nat.le_of_ble_eq_true rfl) (Nat.le_of_ble_eq_true rfl) (Nat.le_of_ble_eq_true rfl) ⟨(Nat.le_of_ble_eq_true rfl), (Nat.le_of_ble_eq_true rfl)⟩ (by first | assumption | decide | (simp only [nv] at *; omega)) rfl rfl c_X10_fails ?_
      exact j_iret dX10_nameOf_40 rfl rfl (Nat.le_of_ble_eq_true rfl) (Nat.le_of_ble_eq_true rfl) (Or.inr (Or.inl ⟨h16, hs, rfl, rfl⟩))
  · refine j_aln dX10_nameOf_19 rfl rfl ?_
    refine j_icN 1 dX10_nameOf_20 rfl ?_
    refine j_V1d mf_X10_fails ml_X10_112 dX10_nameOf_21 (Nat.le_of_ble_eq_true rfl) (Nat.le_of_ble_eq_true rfl) (Nat.le_of_ble_eq_true rfl) ⟨(Nat.le_of_ble_eq_true rfl), (Nat.le_of_ble_eq_true rfl)⟩ (by first | assumption | decide | (simp only [nv] at *; omega)) rfl rfl c_X10_fails ?_
    exact j_iret dX10_nameOf_24 rfl rfl (Nat.le_of_ble_eq_true rfl) (Nat.le_of_ble_eq_true rfl) (Or.inl ⟨h16, rfl, rfl⟩)
set_option maxRecDepth 100000 in
set_option maxHeartbeats 4000000 in
theorem c_X10_squares {l : Launch} {E : Ev} {M : Mm} {x s : Int32}  : Ct l E yX10_squares cX10_squares 5 (some .int) 2 0 0 [.ref (eA E 12 0), .int x, .int s] M (fun v M1 => (¬ (inX x (nI 0) (nI 39) = true ∧ in5 s = true) ∧ v = some (.int (nI 0)) ∧ M1 = cdM (c0 M) (nI 1)) ∨ (inX x (nI 0) (nI 39) = true ∧ in5 s = true ∧ v = some (.int (ctK (fun i => ¬ mI M 56 (6 * i + ntX s) = x) 512)) ∧ M1 = c0 M)) := by
  refine Ct.of (own := RX10) rfl [some (.ref (eA E 12 0)), some (.int x), some (.int s), none, none] (by decide) (Nat.le_of_ble_eq_true rfl) rfl ?_
  refine j_aln dX10_squares_0 rfl rfl ?_
  refine j_icN 0 dX10_squares_1 rfl ?_
  refine p_X10_0 dX10_squares_2 fl_X10_96 ?_
  refine j_iln dX10_squares_5 rfl rfl ?_
  refine j_icN 0 dX10_squares_6 rfl ?_
  refine j_biN 39 dX10_squares_7 rfl ?_
  refine j_S3d mf_X10_in ml_X10_100 dX10_squares_9 (Nat.le_of_ble_eq_true rfl) (Nat.le_of_ble_eq_true rfl) (Nat.le_of_ble_eq_true rfl) ⟨(Nat.le_of_ble_eq_true rfl), (Nat.le_of_ble_eq_true rfl)⟩ c_X10_in ?_
  refine j_ifeq (tgt := 24) dX10_squares_12 (by decide) (fun h12 => ?_) (fun h12 => ?_)
  · have hx : ¬ (inX x (nI 0) (nI 39) = true ∧ in5 s = true) := fun q => by have e := bI_eq.mp h12; rw [q.1] at e; exact absurd e (by decide)
    refine j_aln dX10_squares_24 rfl rfl ?_
    refine j_icN 1 dX10_squares_25 rfl ?_
    refine j_V1d mf_X10_fails ml_X10_112 dX10_squares_26 (Nat.le_of_ble_eq_true rfl) (Nat.le_of_ble_eq_true rfl) (Nat.le_of_ble_eq_true rfl) ⟨(Nat.le_of_ble_eq_true rfl), (Nat.le_of_ble_eq_true rfl)⟩ (by first | assumption | decide | (simp only [nv] at *; omega)) rfl rfl c_X10_fails ?_
    exact j_iret dX10_squares_29 rfl rfl (Nat.le_of_ble_eq_true rfl) (Nat.le_of_ble_eq_true rfl) (Or.inl ⟨hx, rfl, rfl⟩)
  · have h12 : inX x (nI 0) (nI 39) = true := bI_ne.mp h12
    refine j_iln dX10_squares_15 rfl rfl ?_
    refine j_icN 0 dX10_squares_16 rfl ?_
    refine j_icN 5 dX10_squares_17 rfl ?_
    refine j_S3d mf_X10_in ml_X10_100 dX10_squares_18 (Nat.le_of_ble_eq_true rfl) (Nat.le_of_ble_eq_true rfl) (Nat.le_of_ble_eq_true rfl) ⟨(Nat.le_of_ble_eq_true rfl), (Nat.le_of_ble_eq_true rfl)⟩ c_X10_in ?_
    refine j_ifne (tgt := 30) dX10_squares_21 (by decide) (fun h21 => ?_) (fun h21 => ?_)
    · have h21 : in5 s = true := bI_ne.mp h21
      obtain ⟨u, hu, rfl⟩ := in5_n h21
      obtain ⟨w, hw, ht⟩ : ∃ w, w = 512 ∧ ctK (fun i => ¬ mI M 56 (6 * i + u) = x) 512 = ctK (fun i => ¬ mI M 56 (6 * i + u) = x) w := ⟨512, rfl, rfl⟩
      have hC : ctK (fun i => ¬ mI M 56 (6 * i + ntX (nI u)) = x) 512 = ctK (fun i => ¬ mI M 56 (6 * i + u) = x) 512 := by rw [ntX_nI (show u < 2 ^ 31 by omega)]
      have K : ∀ i, i ≤ w → Jd l E RX10 cX10_squares 5 (some .int) [] (rmm 2 0 0) (QfN E (fun v M1 => (¬ (inX x (nI 0) (nI 39) = true ∧ in5 (nI u) = true) ∧ v = some (.int (nI 0)) ∧ M1 = cdM (c0 M) (nI 1)) ∨ (inX x (nI 0) (nI 39) = true ∧ in5 (nI u) = true ∧ v = some (.int (ctK (fun i => ¬ mI M 56 (6 * i + ntX (nI u)) = x) 512)) ∧ M1 = c0 M)) 0 0) 0 0 35 [some (.ref (eA E 12 0)), some (.int x), some (.int (nI u)), some (.int (ctK (fun i => ¬ mI M 56 (6 * i + u) = x) i)), some (.int (nI i))] [] (c0 M) := by
        refine up_to w _ ?_ (fun i hi ih => ?_)
        · skip
          refine j_il dX10_squares_35 rfl ?_
          refine j_siN 512 dX10_squares_37 rfl ?_
          refine j_icgeN (tgt := 73) dX10_squares_40 (by decide) (by omega) (by omega) (fun h40 => ?_) (fun h40 => ?_)
          · refine j_iln dX10_squares_73 rfl rfl ?_
            exact j_iret dX10_squares_74 rfl rfl (Nat.le_of_ble_eq_true rfl) (Nat.le_of_ble_eq_true rfl) (Or.inr ⟨h12, h21, by rw [hC, ← ht], rfl⟩)
          · exact absurd (Nat.le_of_eq hw.symm) h40
        · skip
          refine j_il dX10_squares_35 rfl ?_
          refine j_siN 512 dX10_squares_37 rfl ?_
          refine j_icgeN (tgt := 73) dX10_squares_40 (by decide) (by omega) (by omega) (fun h40 => ?_) (fun h40 => ?_)
          · exact absurd h40 (by omega)
          · refine j_iln dX10_squares_43 rfl rfl ?_
            refine j_aln dX10_squares_44 rfl rfl ?_
            refine g_X10_23 dX10_squares_45 fl_X10_60 ?_
            refine j_biN 6 dX10_squares_48 rfl ?_
            refine j_il dX10_squares_50 rfl ?_
            refine j_imulN dX10_squares_52 ?_
            refine j_iln dX10_squares_53 rfl rfl ?_
            refine j_iaddN dX10_squares_54 ?_
            refine j_aildN dX10_squares_55 rfl rfl rfl (by decide) (by omega) ?_
            refine j_iln dX10_squares_56 rfl rfl ?_
            refine j_icne (tgt := 64) dX10_squares_57 (by decide) (fun h57 => ?_) (fun h57 => ?_)
            · have hg : ctK (fun i => ¬ mI M 56 (6 * i + u) = x) (i + 1) = ctK (fun i => ¬ mI M 56 (6 * i + u) = x) i + nI 0 := ctK_t (P := (fun i => ¬ mI M 56 (6 * i + u) = x)) h57
              refine j_icN 0 dX10_squares_64 rfl ?_
              refine j_iadd dX10_squares_65 ?_
              refine j_ist_3 dX10_squares_66 (by decide) rfl ?_
              refine j_incN_4 1 dX10_squares_67 rfl (by decide) rfl ?_
              refine j_goto (tgt := 35) dX10_squares_70 (by decide) ?_
              rw [hg] at ih
              exact ih
            · have hg : ctK (fun i => ¬ mI M 56 (6 * i + u) = x) (i + 1) = ctK (fun i => ¬ mI M 56 (6 * i + u) = x) i + nI 1 := ctK_f (P := (fun i => ¬ mI M 56 (6 * i + u) = x)) (fun q => q h57)
              refine j_icN 1 dX10_squares_60 rfl ?_
              refine j_goto (tgt := 65) dX10_squares_61 (by decide) ?_
              refine j_iadd dX10_squares_65 ?_
              refine j_ist_3 dX10_squares_66 (by decide) rfl ?_
              refine j_incN_4 1 dX10_squares_67 rfl (by decide) rfl ?_
              refine j_goto (tgt := 35) dX10_squares_70 (by decide) ?_
              rw [hg] at ih
              exact ih
      refine j_icN 0 dX10_squares_30 rfl ?_
      refine j_ist_3 dX10_squares_31 (by decide) rfl ?_
      refine j_icN 0 dX10_squares_32 rfl ?_
      refine j_ist_4 dX10_squares_33 (by decide) rfl ?_
      have K0 := K 0 (by omega)
      rw [ctK_0] at K0
      exact K0
    · have hx : ¬ (inX x (nI 0) (nI 39) = true ∧ in5 s = true) := fun q => by have e : in5 s = false := bI_eq.mp h21; rw [q.2] at e; exact absurd e (by decide)
      refine j_aln dX10_squares_24 rfl rfl ?_
      refine j_icN 1 dX10_squares_25 rfl ?_
      refine j_V1d mf_X10_fails ml_X10_112 dX10_squares_26 (Nat.le_of_ble_eq_true rfl) (Nat.le_of_ble_eq_true rfl) (Nat.le_of_ble_eq_true rfl) ⟨(Nat.le_of_ble_eq_true rfl), (Nat.le_of_ble_eq_true rfl)⟩ (by first | assumption | decide | (simp only [nv] at *; omega)) rfl rfl c_X10_fails ?_
      exact j_iret dX10_squares_29 rfl rfl (Nat.le_of_ble_eq_true rfl) (Nat.le_of_ble_eq_true rfl) (Or.inl ⟨hx, rfl, rfl⟩)
set_option maxRecDepth 100000 in
set_option maxHeartbeats 4000000 in
theorem c_X10_adds {l : Launch} {E : Ev} {M : Mm} {q9 : Int32} (hq : ¬ q9 = -1 → ∃ t, t < 512 ∧ q9 = nI t) : Ct l E yX10_adds cX10_adds 2 none 1 0 0 [.ref (eA E 12 0), .int q9] M (dn (if q9 = -1 then M else sI M 55 (upd (mI M 55) (ntX q9) (nI 1)))) := by
  refine Ct.of (own := RX10) rfl [some (.ref (eA E 12 0)), some (.int q9)] (by decide) (Nat.le_of_ble_eq_true rfl) rfl ?_
  refine j_iln dX10_adds_0 rfl rfl ?_
  refine j_ic (v := (-1)) dX10_adds_1 (by decide) ?_
  refine j_iceq (tgt := 12) dX10_adds_2 (by decide) (fun h2 => ?_) (fun h2 => ?_)
  · have hr : (if q9 = -1 then M else sI M 55 (upd (mI M 55) (ntX q9) (nI 1))) = M := if_pos h2
    exact j_vret dX10_adds_12 rfl (Nat.le_of_ble_eq_true rfl) (Nat.le_of_ble_eq_true rfl) ⟨rfl, by rw [hr]⟩
  · obtain ⟨t, ht, rfl⟩ := hq h2
    have hr : (if nI t = -1 then M else sI M 55 (upd (mI M 55) (ntX (nI t)) (nI 1))) = sI M 55 (upd (mI M 55) t (nI 1)) := by rw [if_neg h2, ntX_nI (by omega)]
    refine j_aln dX10_adds_5 rfl rfl ?_
    refine g_X10_22 dX10_adds_6 fl_X10_57 ?_
    refine j_iln dX10_adds_9 rfl rfl ?_
    refine j_icN 1 dX10_adds_10 rfl ?_
    refine j_azstN dX10_adds_11 rfl (fun _ => rfl) rfl (by decide) (by omega) (by decide) ?_
    exact j_vret dX10_adds_12 rfl (Nat.le_of_ble_eq_true rfl) (Nat.le_of_ble_eq_true rfl) ⟨rfl, by rw [hr]⟩
