/-! the model: freeze -/
def fzv (B : Nat → Int32) (b : Bool) (i : Nat) : Int32 := if b = true ∧ ¬ B i = 0 then nI 1 else nI 0
def fzR (r B : Nat → Int32) (b : Bool) (p k : Nat) : Nat → Int32 := fun j => if 512 * p ≤ j ∧ j < 512 * p + k then fzv B b (j - 512 * p) else r j
theorem fzR_0 (r B : Nat → Int32) (b : Bool) (p : Nat) : fzR r B b p 0 = r := by
  funext j
  exact if_neg (by omega)
theorem fzR_s (r B : Nat → Int32) (b : Bool) (p i : Nat) : fzR r B b p (i + 1) = upd (fzR r B b p i) (512 * p + i) (fzv B b i) := by
  funext j
  unfold upd fzR
  by_cases e : j = 512 * p + i
  · subst e
    rw [if_pos (by omega), if_pos rfl, show 512 * p + i - 512 * p = i by omega]
  · rw [if_neg e]
    have e3 : (512 * p ≤ j ∧ j < 512 * p + (i + 1)) ↔ (512 * p ≤ j ∧ j < 512 * p + i) := by omega
    simp only [e3]
abbrev fzB (M : Mm) (p : Nat) (b : Bool) : Mm := sI (cdM M (nI 0)) 61 (upd (mI M 61) p (bI b))
def fzS (M : Mm) (p : Nat) (b : Bool) (k : Nat) : Mm := sI (fzB M p b) 62 (fzR (mI M 62) (mI M 54) b p k)
theorem fzS_0 (M : Mm) (p : Nat) (b : Bool) : fzS M p b 0 = fzB M p b := by
  unfold fzS
  rw [fzR_0]
  exact sI_id (fzB M p b) 62
theorem fzS_s (M : Mm) (p : Nat) (b : Bool) (i : Nat) : fzS M p b (i + 1) = sI (fzS M p b i) 62 (upd (mI (fzS M p b i) 62) (512 * p + i) (fzv (mI M 54) b i)) := by
  unfold fzS
  rw [fzR_s, sI_sI]
  rfl
set_option maxRecDepth 100000 in
set_option maxHeartbeats 4000000 in
theorem c_X10_freeze {l : Launch} {E : Ev} {M : Mm} {cnt : Nat} {x : Int32} {b : Bool} (hc : mI M 12 27 = nI cnt) (hc6 : cnt ≤ 6) (hz61 : ∀ p, p < 6 → narrow .boolean (.int (mI M 61 p)) = .int (mI M 61 p)) : Ct l E yX10_freeze cX10_freeze 5 (some .boolean) 3 0 0 [.ref (eA E 12 0), .int x, .int (bI b)] M (fun v M1 => (inX x (nI 0) (mI M 12 27 - nI 1) = false ∧ v = some (.int (nI 0)) ∧ M1 = cdM M (nI 1)) ∨ (inX x (nI 0) (mI M 12 27 - nI 1) = true ∧ v = some (.int (mI M 61 (ntX x))) ∧ M1 = fzS M (ntX x) b 512)) := by
  refine Ct.of (own := RX10) rfl [some (.ref (eA E 12 0)), some (.int x), some (.int (bI b)), none, none] (by decide) (Nat.le_of_ble_eq_true rfl) rfl ?_
  refine j_aln dX10_freeze_0 rfl rfl ?_
  refine j_aln dX10_freeze_1 rfl rfl ?_
  refine j_iln dX10_freeze_2 rfl rfl ?_
  refine j_V1d mf_X10_isPart ml_X10_234 dX10_freeze_3 (Nat.le_of_ble_eq_true rfl) (Nat.le_of_ble_eq_true rfl) (Nat.le_of_ble_eq_true rfl) ⟨(Nat.le_of_ble_eq_true rfl), (Nat.le_of_ble_eq_true rfl)⟩ (by first | assumption | decide | (simp only [nv] at *; omega)) rfl rfl c_X10_isPart ?_
  refine j_ifeq (tgt := 13) dX10_freeze_6 (by decide) (fun h6 => ?_) (fun h6 => ?_)
  · have hk := bI_eq.mp h6
    refine j_icN 1 dX10_freeze_13 rfl ?_
    refine p_X10_0 dX10_freeze_14 fl_X10_96 ?_
    refine j_aln dX10_freeze_17 rfl rfl ?_
    refine g_X10_0 dX10_freeze_18 fl_X10_96 ?_
    refine j_ifle (tgt := 26) dX10_freeze_21 (by decide) (fun h21 => ?_) (fun h21 => ?_)
    · exact absurd (show (nI 1 : Int32) ≤ 0 from h21) (by decide)
    · refine j_icN 0 dX10_freeze_24 rfl ?_
      exact j_iret dX10_freeze_25 rfl rfl (Nat.le_of_ble_eq_true rfl) (Nat.le_of_ble_eq_true rfl) (Or.inl ⟨hk, rfl, rfl⟩)
  · have hk := bI_ne.mp h6
    refine j_icN 0 dX10_freeze_9 rfl ?_
    refine j_goto (tgt := 14) dX10_freeze_10 (by decide) ?_
    obtain ⟨p, hpp, rfl⟩ := le_gv (by omega) (show inX x (nI 0) (nI cnt - nI 1) = true by have := hk; rwa [hc] at this)
    rw [ntX_nI (show p < 2 ^ 31 by omega)]
    obtain ⟨w, hw, ht⟩ : ∃ w, w = 512 ∧ fzS M p b 512 = fzS M p b w := ⟨512, rfl, rfl⟩
    rw [ht]
    have K : ∀ i, i ≤ w → Jd l E RX10 cX10_freeze 5 (some .boolean) [] (rmm 3 0 0) (QfN E (fun v M1 => (inX (nI p) (nI 0) (mI M 12 27 - nI 1) = false ∧ v = some (.int (nI 0)) ∧ M1 = cdM M (nI 1)) ∨ (inX (nI p) (nI 0) (mI M 12 27 - nI 1) = true ∧ v = some (.int (mI M 61 p)) ∧ M1 = fzS M p b w)) 0 0) 0 0 43 [some (.ref (eA E 12 0)), some (.int (nI p)), some (.int (bI b)), some (.int (mI M 61 p)), some (.int (nI i))] [] (fzS M p b i) := by
      refine up_to w _ ?_ (fun i hi ih => ?_)
      · skip
        refine j_il dX10_freeze_43 rfl ?_
        refine j_siN 512 dX10_freeze_45 rfl ?_
        refine j_icgeN (tgt := 89) dX10_freeze_48 (by decide) (by omega) (by omega) (fun h48 => ?_) (fun h48 => ?_)
        · refine j_iln dX10_freeze_89 rfl rfl ?_
          exact j_iret dX10_freeze_90 rfl (hz61 p (by omega)) (Nat.le_of_ble_eq_true rfl) (Nat.le_of_ble_eq_true rfl) (Or.inr ⟨hk, rfl, rfl⟩)
        · exact absurd (Nat.le_of_eq hw.symm) h48
      · skip
        refine j_il dX10_freeze_43 rfl ?_
        refine j_siN 512 dX10_freeze_45 rfl ?_
        refine j_icgeN (tgt := 89) dX10_freeze_48 (by decide) (by omega) (by omega) (fun h48 => ?_) (fun h48 => ?_)
        · exact absurd h48 (by omega)
        · refine j_aln dX10_freeze_51 rfl rfl ?_
          refine g_X10_30 dX10_freeze_52 fl_X10_78 ?_
          refine j_siN 512 dX10_freeze_55 rfl ?_
          refine j_iln dX10_freeze_58 rfl rfl ?_
          refine j_imulN dX10_freeze_59 ?_
          refine j_il dX10_freeze_60 rfl ?_
          refine j_iaddN dX10_freeze_62 ?_
          refine j_iln dX10_freeze_63 rfl rfl ?_
          refine j_ifeq (tgt := 81) dX10_freeze_64 (by decide) (fun h64 => ?_) (fun h64 => ?_)
          · have hg : fzv (mI M 54) b i = nI 0 := if_neg (fun q => by have e := bI_eq.mp h64; rw [q.1] at e; exact absurd e (by decide))
            refine j_icN 0 dX10_freeze_81 rfl ?_
            refine j_azstN dX10_freeze_82 rfl (fun _ => rfl) rfl (by decide) (by omega) (by decide) ?_
            refine j_incN_4 1 dX10_freeze_83 rfl (by decide) rfl ?_
            refine j_goto (tgt := 43) dX10_freeze_86 (by decide) ?_
            refine j_mem ?_ ih
            rw [fzS_s M p b i, hg]
          · refine j_aln dX10_freeze_67 rfl rfl ?_
            refine g_X10_21 dX10_freeze_68 fl_X10_54 ?_
            refine j_il dX10_freeze_71 rfl ?_
            refine j_azldN dX10_freeze_73 rfl rfl rfl (by decide) (by omega) ?_
            refine j_ifeq (tgt := 81) dX10_freeze_74 (by decide) (fun h74 => ?_) (fun h74 => ?_)
            · have hg : fzv (mI M 54) b i = nI 0 := if_neg (fun q => q.2 h74)
              refine j_icN 0 dX10_freeze_81 rfl ?_
              refine j_azstN dX10_freeze_82 rfl (fun _ => rfl) rfl (by decide) (by omega) (by decide) ?_
              refine j_incN_4 1 dX10_freeze_83 rfl (by decide) rfl ?_
              refine j_goto (tgt := 43) dX10_freeze_86 (by decide) ?_
              refine j_mem ?_ ih
              rw [fzS_s M p b i, hg]
            · have hg : fzv (mI M 54) b i = nI 1 := if_pos ⟨bI_ne.mp h64, h74⟩
              refine j_icN 1 dX10_freeze_77 rfl ?_
              refine j_goto (tgt := 82) dX10_freeze_78 (by decide) ?_
              refine j_azstN dX10_freeze_82 rfl (fun _ => rfl) rfl (by decide) (by omega) (by decide) ?_
              refine j_incN_4 1 dX10_freeze_83 rfl (by decide) rfl ?_
              refine j_goto (tgt := 43) dX10_freeze_86 (by decide) ?_
              refine j_mem ?_ ih
              rw [fzS_s M p b i, hg]
    refine p_X10_0 dX10_freeze_14 fl_X10_96 ?_
    refine j_aln dX10_freeze_17 rfl rfl ?_
    refine g_X10_0 dX10_freeze_18 fl_X10_96 ?_
    refine j_ifle (tgt := 26) dX10_freeze_21 (by decide) (fun h21 => ?_) (fun h21 => ?_)
    · refine j_aln dX10_freeze_26 rfl rfl ?_
      refine g_X10_29 dX10_freeze_27 fl_X10_75 ?_
      refine j_iln dX10_freeze_30 rfl rfl ?_
      refine j_azldN dX10_freeze_31 rfl rfl rfl (by decide) (by omega) ?_
      refine j_ist_3 dX10_freeze_32 (by decide) rfl ?_
      refine j_aln dX10_freeze_33 rfl rfl ?_
      refine g_X10_29 dX10_freeze_34 fl_X10_75 ?_
      refine j_iln dX10_freeze_37 rfl rfl ?_
      refine j_iln dX10_freeze_38 rfl rfl ?_
      refine j_azstN dX10_freeze_39 rfl (fun _ => rfl) rfl (by decide) (by omega) (bI_vp b) ?_
      refine j_icN 0 dX10_freeze_40 rfl ?_
      refine j_ist_4 dX10_freeze_41 (by decide) rfl ?_
      have K0 := K 0 (by omega)
      rw [fzS_0] at K0
      exact K0
    · exact absurd (show (nI 0 : Int32) ≤ 0 by decide) h21
