/-! the model: inner cells, parts added, shifts -/
def inM (M : Mm) (n : Nat) : Nat → Bool
  | 0 => true
  | k + 1 => inM M n k && (decide (¬ awX n k (nI 1) = -1) && decide (¬ mI M 54 (ntX (awX n k (nI 1))) = 0))
theorem inM_0 (M : Mm) (n : Nat) : inM M n 0 = true := by rw [inM]
theorem inM_s (M : Mm) (n k : Nat) : inM M n (k + 1) = (inM M n k && (decide (¬ awX n k (nI 1) = -1) && decide (¬ mI M 54 (ntX (awX n k (nI 1))) = 0))) := by rw [inM]
set_option maxRecDepth 100000 in
set_option maxHeartbeats 4000000 in
theorem c_X10_isInside {l : Launch} {E : Ev} {M : Mm} {n : Nat} (hn : n < 512) : Ct l E yX10_isInside cX10_isInside 5 (some .boolean) 4 0 0 [.ref (eA E 12 0), .int (nI n)] M (dv (.int (bI (inM M n 6))) M) := by
  refine Ct.of (own := RX10) rfl [some (.ref (eA E 12 0)), some (.int (nI n)), none, none, none] (by decide) (Nat.le_of_ble_eq_true rfl) rfl ?_
  have K : ∀ k, k ≤ 6 → ∀ (o4 : Option Value), Jd l E RX10 cX10_isInside 5 (some .boolean) [] (rmm 4 0 0) (QfN E (dv (.int (bI (inM M n 6))) M) 0 0) 0 0 4 [some (.ref (eA E 12 0)), some (.int (nI n)), some (.int (bI (inM M n k))), some (.int (nI k)), o4] [] M := by
    refine up_to 6 _ ?_ (fun k hk ih => ?_)
    · intro o4
      refine j_iln dX10_isInside_4 rfl rfl ?_
      refine j_biN 6 dX10_isInside_5 rfl ?_
      refine j_icgeN (tgt := 50) dX10_isInside_7 (by decide) (by omega) (by omega) (fun h7 => ?_) (fun h7 => ?_)
      · refine j_iln dX10_isInside_50 rfl rfl ?_
        exact j_iret dX10_isInside_51 rfl (bI_nar _) (Nat.le_of_ble_eq_true rfl) (Nat.le_of_ble_eq_true rfl) ⟨rfl, rfl⟩
      · exact absurd (Nat.le_refl 6) h7
    · intro o4
      refine j_iln dX10_isInside_4 rfl rfl ?_
      refine j_biN 6 dX10_isInside_5 rfl ?_
      refine j_icgeN (tgt := 50) dX10_isInside_7 (by decide) (by omega) (by omega) (fun h7 => ?_) (fun h7 => ?_)
      · exact absurd h7 (by omega)
      · refine j_iln dX10_isInside_10 rfl rfl ?_
        refine j_iln dX10_isInside_11 rfl rfl ?_
        refine j_icN 1 dX10_isInside_12 rfl ?_
        refine j_S3d mf_X10_away ml_X10_184 dX10_isInside_13 (Nat.le_of_ble_eq_true rfl) (Nat.le_of_ble_eq_true rfl) (Nat.le_of_ble_eq_true rfl) ⟨(Nat.le_of_ble_eq_true rfl), (Nat.le_of_ble_eq_true rfl)⟩ (c_X10_away hn (show k < 6 by omega)) ?_
        refine j_ist_4 dX10_isInside_16 (by decide) rfl ?_
        refine j_iln dX10_isInside_18 rfl rfl ?_
        refine j_ifeq (tgt := 42) dX10_isInside_19 (by decide) (fun h19 => ?_) (fun h19 => ?_)
        · have hg : inM M n (k + 1) = false := by rw [inM_s, bI_eq.mp h19]; rfl
          refine j_icN 0 dX10_isInside_42 rfl ?_
          refine j_ist_2 dX10_isInside_43 (by decide) rfl ?_
          refine j_incN_3 1 dX10_isInside_44 rfl (by decide) rfl ?_
          refine j_goto (tgt := 4) dX10_isInside_47 (by decide) ?_
          rw [hg] at ih
          exact ih _
        · refine j_il dX10_isInside_22 rfl ?_
          refine j_ic (v := (-1)) dX10_isInside_24 (by decide) ?_
          refine j_iceq (tgt := 42) dX10_isInside_25 (by decide) (fun h25 => ?_) (fun h25 => ?_)
          · have hg : inM M n (k + 1) = false := by rw [inM_s, decide_eq_false (p := ¬ awX n k (nI 1) = -1) (fun q => q h25)]; exact Bool.and_false _
            refine j_icN 0 dX10_isInside_42 rfl ?_
            refine j_ist_2 dX10_isInside_43 (by decide) rfl ?_
            refine j_incN_3 1 dX10_isInside_44 rfl (by decide) rfl ?_
            refine j_goto (tgt := 4) dX10_isInside_47 (by decide) ?_
            rw [hg] at ih
            exact ih _
          · obtain ⟨t, ht, hte⟩ := clX_n h25
            have hte : awX n k (nI 1) = nI t := hte
            refine j_aln dX10_isInside_28 rfl rfl ?_
            refine g_X10_21 dX10_isInside_29 fl_X10_54 ?_
            refine j_il dX10_isInside_32 rfl ?_
            refine j_azld t dX10_isInside_34 rfl rfl rfl hte (by omega) (by decide) ?_
            refine j_ifeq (tgt := 42) dX10_isInside_35 (by decide) (fun h35 => ?_) (fun h35 => ?_)
            · have hg : inM M n (k + 1) = false := by rw [inM_s, hte, ntX_nI (show t < 2 ^ 31 by omega), decide_eq_false (p := ¬ mI M 54 t = 0) (fun q => q h35), Bool.and_false]; exact Bool.and_false _
              refine j_icN 0 dX10_isInside_42 rfl ?_
              refine j_ist_2 dX10_isInside_43 (by decide) rfl ?_
              refine j_incN_3 1 dX10_isInside_44 rfl (by decide) rfl ?_
              refine j_goto (tgt := 4) dX10_isInside_47 (by decide) ?_
              rw [hg] at ih
              exact ih _
            · have hg : inM M n (k + 1) = true := by rw [inM_s, bI_ne.mp h19, decide_eq_true (p := ¬ awX n k (nI 1) = -1) h25, hte, ntX_nI (show t < 2 ^ 31 by omega), decide_eq_true (p := ¬ mI M 54 t = 0) h35]; rfl
              refine j_icN 1 dX10_isInside_38 rfl ?_
              refine j_goto (tgt := 43) dX10_isInside_39 (by decide) ?_
              refine j_ist_2 dX10_isInside_43 (by decide) rfl ?_
              refine j_incN_3 1 dX10_isInside_44 rfl (by decide) rfl ?_
              refine j_goto (tgt := 4) dX10_isInside_47 (by decide) ?_
              rw [hg] at ih
              exact ih _
  refine j_icN 1 dX10_isInside_0 rfl ?_
  refine j_ist_2 dX10_isInside_1 (by decide) rfl ?_
  refine j_icN 0 dX10_isInside_2 rfl ?_
  refine j_ist_3 dX10_isInside_3 (by decide) rfl ?_
  have K0 := K 0 (by omega) none
  rw [inM_0] at K0
  exact K0
set_option maxRecDepth 100000 in
set_option maxHeartbeats 4000000 in
theorem c_X10_addPart {l : Launch} {E : Ev} {M : Mm} {cnt : Nat} {x y z : Int32} (hc : mI M 12 27 = nI cnt) (hc6 : cnt ≤ 6) : Ct l E yX10_addPart cX10_addPart 4 (some .int) 2 0 0 [.ref (eA E 12 0), .int x, .int y, .int z] M (fun v M1 => (¬ (inX x (-20) (nI 20) = true ∧ inX y (-20) (nI 20) = true ∧ inX z (-20) (nI 20) = true) ∧ v = some (.int (nI 0)) ∧ M1 = cdM (c0 M) (nI 1)) ∨ ((inX x (-20) (nI 20) = true ∧ inX y (-20) (nI 20) = true ∧ inX z (-20) (nI 20) = true) ∧ cnt = 6 ∧ v = some (.int (nI 0)) ∧ M1 = cdM (c0 M) (nI 2)) ∨ ((inX x (-20) (nI 20) = true ∧ inX y (-20) (nI 20) = true ∧ inX z (-20) (nI 20) = true) ∧ ¬ cnt = 6 ∧ v = some (.int (nI cnt)) ∧ M1 = (sI (sI (sI (c0 M) 60 (upd (upd (upd (mI M 60) (3 * cnt) x) (3 * cnt + 1) y) (3 * cnt + 2) z)) 61 (upd (mI M 61) cnt (nI 0))) 12 (upd (mI (c0 M) 12) 27 (nI (cnt + 1)))))) := by
  refine Ct.of (own := RX10) rfl [some (.ref (eA E 12 0)), some (.int x), some (.int y), some (.int z)] (by decide) (Nat.le_of_ble_eq_true rfl) rfl ?_
  refine j_aln dX10_addPart_0 rfl rfl ?_
  refine j_icN 0 dX10_addPart_1 rfl ?_
  refine p_X10_0 dX10_addPart_2 fl_X10_96 ?_
  refine j_iln dX10_addPart_5 rfl rfl ?_
  refine j_bi (v := (-20)) dX10_addPart_6 (by decide) ?_
  refine j_biN 20 dX10_addPart_8 rfl ?_
  refine j_S3d mf_X10_in ml_X10_100 dX10_addPart_10 (Nat.le_of_ble_eq_true rfl) (Nat.le_of_ble_eq_true rfl) (Nat.le_of_ble_eq_true rfl) ⟨(Nat.le_of_ble_eq_true rfl), (Nat.le_of_ble_eq_true rfl)⟩ c_X10_in ?_
  refine j_ifeq (tgt := 38) dX10_addPart_13 (by decide) (fun h13 => ?_) (fun h13 => ?_)
  · have hx : ¬ (inX x (-20) (nI 20) = true ∧ inX y (-20) (nI 20) = true ∧ inX z (-20) (nI 20) = true) := fun q => by have e := bI_eq.mp h13; rw [q.1] at e; exact absurd e (by decide)
    refine j_aln dX10_addPart_38 rfl rfl ?_
    refine j_icN 1 dX10_addPart_39 rfl ?_
    refine j_V1d mf_X10_fails ml_X10_112 dX10_addPart_40 (Nat.le_of_ble_eq_true rfl) (Nat.le_of_ble_eq_true rfl) (Nat.le_of_ble_eq_true rfl) ⟨(Nat.le_of_ble_eq_true rfl), (Nat.le_of_ble_eq_true rfl)⟩ (by first | assumption | decide | (simp only [nv] at *; omega)) rfl rfl c_X10_fails ?_
    exact j_iret dX10_addPart_43 rfl rfl (Nat.le_of_ble_eq_true rfl) (Nat.le_of_ble_eq_true rfl) (Or.inl ⟨hx, rfl, rfl⟩)
  · refine j_iln dX10_addPart_16 rfl rfl ?_
    refine j_bi (v := (-20)) dX10_addPart_17 (by decide) ?_
    refine j_biN 20 dX10_addPart_19 rfl ?_
    refine j_S3d mf_X10_in ml_X10_100 dX10_addPart_21 (Nat.le_of_ble_eq_true rfl) (Nat.le_of_ble_eq_true rfl) (Nat.le_of_ble_eq_true rfl) ⟨(Nat.le_of_ble_eq_true rfl), (Nat.le_of_ble_eq_true rfl)⟩ c_X10_in ?_
    refine j_ifeq (tgt := 38) dX10_addPart_24 (by decide) (fun h24 => ?_) (fun h24 => ?_)
    · have hx : ¬ (inX x (-20) (nI 20) = true ∧ inX y (-20) (nI 20) = true ∧ inX z (-20) (nI 20) = true) := fun q => by have e := bI_eq.mp h24; rw [q.2.1] at e; exact absurd e (by decide)
      refine j_aln dX10_addPart_38 rfl rfl ?_
      refine j_icN 1 dX10_addPart_39 rfl ?_
      refine j_V1d mf_X10_fails ml_X10_112 dX10_addPart_40 (Nat.le_of_ble_eq_true rfl) (Nat.le_of_ble_eq_true rfl) (Nat.le_of_ble_eq_true rfl) ⟨(Nat.le_of_ble_eq_true rfl), (Nat.le_of_ble_eq_true rfl)⟩ (by first | assumption | decide | (simp only [nv] at *; omega)) rfl rfl c_X10_fails ?_
      exact j_iret dX10_addPart_43 rfl rfl (Nat.le_of_ble_eq_true rfl) (Nat.le_of_ble_eq_true rfl) (Or.inl ⟨hx, rfl, rfl⟩)
    · refine j_iln dX10_addPart_27 rfl rfl ?_
      refine j_bi (v := (-20)) dX10_addPart_28 (by decide) ?_
      refine j_biN 20 dX10_addPart_30 rfl ?_
      refine j_S3d mf_X10_in ml_X10_100 dX10_addPart_32 (Nat.le_of_ble_eq_true rfl) (Nat.le_of_ble_eq_true rfl) (Nat.le_of_ble_eq_true rfl) ⟨(Nat.le_of_ble_eq_true rfl), (Nat.le_of_ble_eq_true rfl)⟩ c_X10_in ?_
      refine j_ifne (tgt := 44) dX10_addPart_35 (by decide) (fun h35 => ?_) (fun h35 => ?_)
      · have hk : (inX x (-20) (nI 20) = true ∧ inX y (-20) (nI 20) = true ∧ inX z (-20) (nI 20) = true) := ⟨bI_ne.mp h13, bI_ne.mp h24, bI_ne.mp h35⟩
        refine j_aln dX10_addPart_44 rfl rfl ?_
        refine g_X10_27 dX10_addPart_45 fl_X10_231 ?_
        refine j_topi hc ?_
        refine j_biN 6 dX10_addPart_48 rfl ?_
        refine j_icneN (tgt := 59) dX10_addPart_50 (by decide) (by omega) (by omega) (fun h50 => ?_) (fun h50 => ?_)
        · refine j_aln dX10_addPart_59 rfl rfl ?_
          refine g_X10_28 dX10_addPart_60 fl_X10_72 ?_
          refine j_icN 3 dX10_addPart_63 rfl ?_
          refine j_aln dX10_addPart_64 rfl rfl ?_
          refine g_X10_27 dX10_addPart_65 fl_X10_231 ?_
          refine j_topi hc ?_
          refine j_imulN dX10_addPart_68 ?_
          refine j_iln dX10_addPart_69 rfl rfl ?_
          refine j_aistN dX10_addPart_70 rfl (fun _ => rfl) rfl (by decide) (by omega) ?_
          refine j_aln dX10_addPart_71 rfl rfl ?_
          refine g_X10_28 dX10_addPart_72 fl_X10_72 ?_
          refine j_icN 3 dX10_addPart_75 rfl ?_
          refine j_aln dX10_addPart_76 rfl rfl ?_
          refine g_X10_27 dX10_addPart_77 fl_X10_231 ?_
          refine j_topi hc ?_
          refine j_imulN dX10_addPart_80 ?_
          refine j_icN 1 dX10_addPart_81 rfl ?_
          refine j_iaddN dX10_addPart_82 ?_
          refine j_iln dX10_addPart_83 rfl rfl ?_
          refine j_aistN dX10_addPart_84 rfl (fun _ => rfl) rfl (by decide) (by omega) ?_
          refine j_aln dX10_addPart_85 rfl rfl ?_
          refine g_X10_28 dX10_addPart_86 fl_X10_72 ?_
          refine j_icN 3 dX10_addPart_89 rfl ?_
          refine j_aln dX10_addPart_90 rfl rfl ?_
          refine g_X10_27 dX10_addPart_91 fl_X10_231 ?_
          refine j_topi hc ?_
          refine j_imulN dX10_addPart_94 ?_
          refine j_icN 2 dX10_addPart_95 rfl ?_
          refine j_iaddN dX10_addPart_96 ?_
          refine j_iln dX10_addPart_97 rfl rfl ?_
          refine j_aistN dX10_addPart_98 rfl (fun _ => rfl) rfl (by decide) (by omega) ?_
          refine j_aln dX10_addPart_99 rfl rfl ?_
          refine g_X10_29 dX10_addPart_100 fl_X10_75 ?_
          refine j_aln dX10_addPart_103 rfl rfl ?_
          refine g_X10_27 dX10_addPart_104 fl_X10_231 ?_
          refine j_topi hc ?_
          refine j_icN 0 dX10_addPart_107 rfl ?_
          refine j_azstN dX10_addPart_108 rfl (fun _ => rfl) rfl (by decide) (by omega) (by decide) ?_
          refine j_aln dX10_addPart_109 rfl rfl ?_
          refine j_dup dX10_addPart_110 rfl ?_
          refine g_X10_27 dX10_addPart_111 fl_X10_231 ?_
          refine j_topi hc ?_
          refine j_icN 1 dX10_addPart_114 rfl ?_
          refine j_iaddN dX10_addPart_115 ?_
          refine p_X10_27 dX10_addPart_116 fl_X10_231 ?_
          refine j_aln dX10_addPart_119 rfl rfl ?_
          refine g_X10_27 dX10_addPart_120 fl_X10_231 ?_
          refine j_topi (show _ = nI (cnt + 1) from rfl) ?_
          refine j_icN 1 dX10_addPart_123 rfl ?_
          refine j_isubN dX10_addPart_124 (by omega) ?_
          exact j_iret dX10_addPart_125 rfl rfl (Nat.le_of_ble_eq_true rfl) (Nat.le_of_ble_eq_true rfl) (Or.inr (Or.inr ⟨hk, h50, rfl, by rw [sI_sI, sI_sI]; rfl⟩))
        · refine j_aln dX10_addPart_53 rfl rfl ?_
          refine j_icN 2 dX10_addPart_54 rfl ?_
          refine j_V1d mf_X10_fails ml_X10_112 dX10_addPart_55 (Nat.le_of_ble_eq_true rfl) (Nat.le_of_ble_eq_true rfl) (Nat.le_of_ble_eq_true rfl) ⟨(Nat.le_of_ble_eq_true rfl), (Nat.le_of_ble_eq_true rfl)⟩ (by first | assumption | decide | (simp only [nv] at *; omega)) rfl rfl c_X10_fails ?_
          exact j_iret dX10_addPart_58 rfl rfl (Nat.le_of_ble_eq_true rfl) (Nat.le_of_ble_eq_true rfl) (Or.inr (Or.inl ⟨hk, h50, rfl, rfl⟩))
      · have hx : ¬ (inX x (-20) (nI 20) = true ∧ inX y (-20) (nI 20) = true ∧ inX z (-20) (nI 20) = true) := fun q => by have e := bI_eq.mp h35; rw [q.2.2] at e; exact absurd e (by decide)
        refine j_aln dX10_addPart_38 rfl rfl ?_
        refine j_icN 1 dX10_addPart_39 rfl ?_
        refine j_V1d mf_X10_fails ml_X10_112 dX10_addPart_40 (Nat.le_of_ble_eq_true rfl) (Nat.le_of_ble_eq_true rfl) (Nat.le_of_ble_eq_true rfl) ⟨(Nat.le_of_ble_eq_true rfl), (Nat.le_of_ble_eq_true rfl)⟩ (by first | assumption | decide | (simp only [nv] at *; omega)) rfl rfl c_X10_fails ?_
        exact j_iret dX10_addPart_43 rfl rfl (Nat.le_of_ble_eq_true rfl) (Nat.le_of_ble_eq_true rfl) (Or.inl ⟨hx, rfl, rfl⟩)
