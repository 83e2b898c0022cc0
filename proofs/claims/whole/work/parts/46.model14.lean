/-! the model: depth -/
def in2 (x : Int32) : Bool := inX x (nI 0) (nI 2)
theorem in2_n {x : Int32} (h : in2 x = true) : ∃ n, n < 3 ∧ x = nI n := by
  have h2 := inX_i.mp h
  obtain ⟨w, hw, rfl⟩ := nn_le (n := 2) (by decide) h2.1 (Int32.not_lt.mp h2.2)
  exact ⟨w, by omega, rfl⟩
set_option maxRecDepth 100000 in
set_option maxHeartbeats 4000000 in
theorem c_X10_depth {l : Launch} {E : Ev} {M : Mm} {x u v9 : Int32} {up : Bool}  : Ct l E yX10_depth cX10_depth 5 (some .int) 4 0 0 [.ref (eA E 12 0), .int x, .int (bI up), .int u, .int v9] M (fun v M1 => (in2 x = false ∧ v = some (.int (nI 0)) ∧ M1 = cdM (c0 M) (nI 1)) ∨ (in2 x = true ∧ ¬ (in7 u = true ∧ in7 v9 = true) ∧ v = some (.int (nI 0)) ∧ M1 = cdM (c0 M) (nI 2)) ∨ (in2 x = true ∧ in7 u = true ∧ in7 v9 = true ∧ v = some (.int (nI (fst8 (dmp M (ntX x) up (ntX u) (ntX v9))))) ∧ M1 = c0 M)) := by
  refine Ct.of (own := RX10) rfl [some (.ref (eA E 12 0)), some (.int x), some (.int (bI up)), some (.int u), some (.int v9)] (by decide) (Nat.le_of_ble_eq_true rfl) rfl ?_
  refine j_aln dX10_depth_0 rfl rfl ?_
  refine j_icN 0 dX10_depth_1 rfl ?_
  refine p_X10_0 dX10_depth_2 fl_X10_96 ?_
  refine j_iln dX10_depth_5 rfl rfl ?_
  refine j_icN 0 dX10_depth_6 rfl ?_
  refine j_icN 2 dX10_depth_7 rfl ?_
  refine j_S3d mf_X10_in ml_X10_100 dX10_depth_8 (Nat.le_of_ble_eq_true rfl) (Nat.le_of_ble_eq_true rfl) (Nat.le_of_ble_eq_true rfl) ⟨(Nat.le_of_ble_eq_true rfl), (Nat.le_of_ble_eq_true rfl)⟩ c_X10_in ?_
  refine j_ifne (tgt := 20) dX10_depth_11 (by decide) (fun h11 => ?_) (fun h11 => ?_)
  · have hk : in2 x = true := bI_ne.mp h11
    refine j_iln dX10_depth_20 rfl rfl ?_
    refine j_icN 0 dX10_depth_21 rfl ?_
    refine j_biN 7 dX10_depth_22 rfl ?_
    refine j_S3d mf_X10_in ml_X10_100 dX10_depth_24 (Nat.le_of_ble_eq_true rfl) (Nat.le_of_ble_eq_true rfl) (Nat.le_of_ble_eq_true rfl) ⟨(Nat.le_of_ble_eq_true rfl), (Nat.le_of_ble_eq_true rfl)⟩ c_X10_in ?_
    refine j_ifeq (tgt := 53) dX10_depth_27 (by decide) (fun h27 => ?_) (fun h27 => ?_)
    · have hx : ¬ (in7 u = true ∧ in7 v9 = true) := fun q => by have e : in7 u = false := bI_eq.mp h27; rw [q.1] at e; exact absurd e (by decide)
      refine j_aln dX10_depth_53 rfl rfl ?_
      refine j_icN 2 dX10_depth_54 rfl ?_
      refine j_V1d mf_X10_fails ml_X10_112 dX10_depth_55 (Nat.le_of_ble_eq_true rfl) (Nat.le_of_ble_eq_true rfl) (Nat.le_of_ble_eq_true rfl) ⟨(Nat.le_of_ble_eq_true rfl), (Nat.le_of_ble_eq_true rfl)⟩ (by first | assumption | decide | (simp only [nv] at *; omega)) rfl rfl c_X10_fails ?_
      exact j_iret dX10_depth_58 rfl rfl (Nat.le_of_ble_eq_true rfl) (Nat.le_of_ble_eq_true rfl) (by first | exact Or.inr (Or.inl ⟨hk, hx, rfl, rfl⟩) | exact Or.inr (Or.inr ⟨hk, hu, hv, by rw [ntX_nI (show a < 2 ^ 31 by omega), ntX_nI (show b < 2 ^ 31 by omega), ntX_nI (show d < 2 ^ 31 by omega)]; rfl, rfl⟩))
    · have hu : in7 u = true := bI_ne.mp h27
      refine j_il dX10_depth_30 rfl ?_
      refine j_icN 0 dX10_depth_32 rfl ?_
      refine j_biN 7 dX10_depth_33 rfl ?_
      refine j_S3d mf_X10_in ml_X10_100 dX10_depth_35 (Nat.le_of_ble_eq_true rfl) (Nat.le_of_ble_eq_true rfl) (Nat.le_of_ble_eq_true rfl) ⟨(Nat.le_of_ble_eq_true rfl), (Nat.le_of_ble_eq_true rfl)⟩ c_X10_in ?_
      refine j_ifeq (tgt := 53) dX10_depth_38 (by decide) (fun h38 => ?_) (fun h38 => ?_)
      · have hx : ¬ (in7 u = true ∧ in7 v9 = true) := fun q => by have e : in7 v9 = false := bI_eq.mp h38; rw [q.2] at e; exact absurd e (by decide)
        refine j_aln dX10_depth_53 rfl rfl ?_
        refine j_icN 2 dX10_depth_54 rfl ?_
        refine j_V1d mf_X10_fails ml_X10_112 dX10_depth_55 (Nat.le_of_ble_eq_true rfl) (Nat.le_of_ble_eq_true rfl) (Nat.le_of_ble_eq_true rfl) ⟨(Nat.le_of_ble_eq_true rfl), (Nat.le_of_ble_eq_true rfl)⟩ (by first | assumption | decide | (simp only [nv] at *; omega)) rfl rfl c_X10_fails ?_
        exact j_iret dX10_depth_58 rfl rfl (Nat.le_of_ble_eq_true rfl) (Nat.le_of_ble_eq_true rfl) (by first | exact Or.inr (Or.inl ⟨hk, hx, rfl, rfl⟩) | exact Or.inr (Or.inr ⟨hk, hu, hv, by rw [ntX_nI (show a < 2 ^ 31 by omega), ntX_nI (show b < 2 ^ 31 by omega), ntX_nI (show d < 2 ^ 31 by omega)]; rfl, rfl⟩))
      · have hv : in7 v9 = true := bI_ne.mp h38
        obtain ⟨a, ha, rfl⟩ := in2_n hk
        obtain ⟨b, hb, rfl⟩ := in7_n hu
        obtain ⟨d, hd, rfl⟩ := in7_n hv
        refine j_aln dX10_depth_41 rfl rfl ?_
        refine j_iln dX10_depth_42 rfl rfl ?_
        refine j_iln dX10_depth_43 rfl rfl ?_
        refine j_iln dX10_depth_44 rfl rfl ?_
        refine j_il dX10_depth_45 rfl ?_
        refine j_V4d mf_X10_depthAt ml_X10_249 dX10_depth_47 (Nat.le_of_ble_eq_true rfl) (Nat.le_of_ble_eq_true rfl) (Nat.le_of_ble_eq_true rfl) ⟨(Nat.le_of_ble_eq_true rfl), (Nat.le_of_ble_eq_true rfl)⟩ (by first | assumption | decide | (simp only [nv] at *; omega)) rfl rfl (c_X10_depthAt (M := c0 M) ha hb hd) ?_
        refine j_goto (tgt := 58) dX10_depth_50 (by decide) ?_
        exact j_iret dX10_depth_58 rfl rfl (Nat.le_of_ble_eq_true rfl) (Nat.le_of_ble_eq_true rfl) (by first | exact Or.inr (Or.inl ⟨hk, hx, rfl, rfl⟩) | exact Or.inr (Or.inr ⟨hk, hu, hv, by rw [ntX_nI (show a < 2 ^ 31 by omega), ntX_nI (show b < 2 ^ 31 by omega), ntX_nI (show d < 2 ^ 31 by omega)]; rfl, rfl⟩))
  · have hk : in2 x = false := bI_eq.mp h11
    refine j_aln dX10_depth_14 rfl rfl ?_
    refine j_icN 1 dX10_depth_15 rfl ?_
    refine j_V1d mf_X10_fails ml_X10_112 dX10_depth_16 (Nat.le_of_ble_eq_true rfl) (Nat.le_of_ble_eq_true rfl) (Nat.le_of_ble_eq_true rfl) ⟨(Nat.le_of_ble_eq_true rfl), (Nat.le_of_ble_eq_true rfl)⟩ (by first | assumption | decide | (simp only [nv] at *; omega)) rfl rfl c_X10_fails ?_
    exact j_iret dX10_depth_19 rfl rfl (Nat.le_of_ble_eq_true rfl) (Nat.le_of_ble_eq_true rfl) (Or.inl ⟨hk, rfl, rfl⟩)
