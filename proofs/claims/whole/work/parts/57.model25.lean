/-! the model: setSize, remove, move -/
def mfV (M : Mm) (f w : Nat) (a : Int32) : Int32 := if mTm (mI M 43) a = dmX M f w then nI 0 else nI 1
theorem mfV_t {M : Mm} {f w : Nat} {a : Int32} (h : mTm (mI M 43) a = dmX M f w) : mfV M f w a = nI 0 := if_pos h
theorem mfV_f {M : Mm} {f w : Nat} {a : Int32} (h : ¬ mTm (mI M 43) a = dmX M f w) : mfV M f w a = nI 1 := if_neg h
def mset3 (r : Nat → Int32) (g : Nat) (a b c : Int32) : Nat → Int32 := upd (upd (upd r (6 * g + 3) a) (6 * g + 4) b) (6 * g + 5) c
theorem mset3_T {r : Nat → Int32} {g : Nat} {a b c : Int32} (h : ∀ k, k < 240 → mT (r k) = true) (h1 : mT a = true ∧ mT b = true ∧ mT c = true) : ∀ k, k < 240 → mT (mset3 r g a b c k) = true := by
  intro k hk
  unfold mset3 upd
  by_cases q1 : k = 6 * g + 5
  · rw [if_pos q1]; exact h1.2.2
  · rw [if_neg q1]
    by_cases q2 : k = 6 * g + 4
    · rw [if_pos q2]; exact h1.2.1
    · rw [if_neg q2]
      by_cases q3 : k = 6 * g + 3
      · rw [if_pos q3]; exact h1.1
      · rw [if_neg q3]; exact h k hk
theorem re_dm (M : Mm) (f : Nat) : dmX (reM M) f = dmX M f := dmX_c (re_t (by omega)) (re_t (by omega)) f
set_option maxRecDepth 100000 in
set_option maxHeartbeats 4000000 in
theorem c_X10_setSize {l : Launch} {E : Ev} {M : Mm} {gv cnt bar : Nat} {fr : Nat → Nat} {x a b c : Int32} (hMV : MV M gv cnt bar fr) : Ct l E yX10_setSize cX10_setSize 6 (some .int) 9 0 0 [.ref (eA E 12 0), .int x, .int a, .int b, .int c] M (fun v M1 => (mF M x = false ∧ v = some (.int (nI 0)) ∧ M1 = cdM (c0 M) (nI 1)) ∨ (mF M x = true ∧ mT3 a b c = false ∧ v = some (.int (nI 0)) ∧ M1 = cdM (c0 M) (nI 2)) ∨ (mF M x = true ∧ mT3 a b c = true ∧ ∃ g, g < gv ∧ x = nI g ∧ v = some (.int (mfV M g 3 a + mfV M g 4 b + mfV M g 5 c)) ∧ ∃ M2, mI M2 46 = mset3 (mI M 46) g a b c ∧ rmP M M2 (fun t => t = 46) ∧ MV M2 gv cnt bar fr ∧ coM M2 cnt bar bar fr M1)) := by
  refine Ct.of (own := RX10) rfl [some (.ref (eA E 12 0)), some (.int x), some (.int a), some (.int b), some (.int c), none] (by decide) (Nat.le_of_ble_eq_true rfl) rfl ?_
  refine j_aln dX10_setSize_0 rfl rfl ?_
  refine j_icN 0 dX10_setSize_1 rfl ?_
  refine p_X10_0 dX10_setSize_2 fl_X10_96 ?_
  refine j_aln dX10_setSize_5 rfl rfl ?_
  refine j_iln dX10_setSize_6 rfl rfl ?_
  refine j_V1d mf_X10_isFeature ml_X10_150 dX10_setSize_7 (Nat.le_of_ble_eq_true rfl) (Nat.le_of_ble_eq_true rfl) (Nat.le_of_ble_eq_true rfl) ⟨(Nat.le_of_ble_eq_true rfl), (Nat.le_of_ble_eq_true rfl)⟩ (by first | assumption | decide | (simp only [nv] at *; omega)) rfl rfl (c_X10_isFeature (M := c0 M) hMV.1.1 hMV.1.2) ?_
  refine j_ifne (tgt := 19) dX10_setSize_10 (by decide) (fun h10 => ?_) (fun h10 => ?_)
  · have hi : mF M x = true := bI_ne.mp h10
    obtain ⟨g, hg, hxg⟩ := mF_n hMV.1.1 hMV.1.2 hi
    subst hxg
    have hg40 := hMV.1.2
    refine j_aln dX10_setSize_19 rfl rfl ?_
    refine j_iln dX10_setSize_20 rfl rfl ?_
    refine j_iln dX10_setSize_21 rfl rfl ?_
    refine j_il dX10_setSize_22 rfl ?_
    refine j_V3d mf_X10_isDimension ml_X10_167 dX10_setSize_24 (Nat.le_of_ble_eq_true rfl) (Nat.le_of_ble_eq_true rfl) (Nat.le_of_ble_eq_true rfl) ⟨(Nat.le_of_ble_eq_true rfl), (Nat.le_of_ble_eq_true rfl)⟩ (by first | assumption | decide | (simp only [nv] at *; omega)) rfl rfl c_X10_isDimension ?_
    refine j_ifne (tgt := 36) dX10_setSize_27 (by decide) (fun h27 => ?_) (fun h27 => ?_)
    · have h3 : mT3 a b c = true := bI_ne.mp h27
      have h3a : mT a = true ∧ mT b = true ∧ mT c = true := by have q := h3; unfold mT3 at q; simp only [Bool.and_eq_true] at q; exact ⟨q.1.1, q.1.2, q.2⟩
      refine j_aln dX10_setSize_36 rfl rfl ?_
      refine j_V0n mf_X10_remembers ml_X10_115 dX10_setSize_37 (Nat.le_of_ble_eq_true rfl) (Nat.le_of_ble_eq_true rfl) (Nat.le_of_ble_eq_true rfl) ⟨(Nat.le_of_ble_eq_true rfl), (Nat.le_of_ble_eq_true rfl)⟩ (by first | assumption | decide | (simp only [nv] at *; omega)) rfl rfl (c_reV hMV) ?_
      refine j_aln dX10_setSize_40 rfl rfl ?_
      refine j_iln dX10_setSize_41 rfl rfl ?_
      refine j_V1d mf_X10_term ml_X10_104 dX10_setSize_42 (Nat.le_of_ble_eq_true rfl) (Nat.le_of_ble_eq_true rfl) (Nat.le_of_ble_eq_true rfl) ⟨(Nat.le_of_ble_eq_true rfl), (Nat.le_of_ble_eq_true rfl)⟩ (by first | assumption | decide | (simp only [nv] at *; omega)) rfl rfl (c_X10_term (M := (reM M)) h3a.1) ?_
      refine j_aln dX10_setSize_45 rfl rfl ?_
      refine j_iln dX10_setSize_46 rfl rfl ?_
      refine j_icN 3 dX10_setSize_47 rfl ?_
      refine j_V2d mf_X10_dimension ml_X10_146 dX10_setSize_48 (Nat.le_of_ble_eq_true rfl) (Nat.le_of_ble_eq_true rfl) (Nat.le_of_ble_eq_true rfl) ⟨(Nat.le_of_ble_eq_true rfl), (Nat.le_of_ble_eq_true rfl)⟩ (by first | assumption | decide | (simp only [nv] at *; omega)) rfl rfl (c_X10_dimension (M := (reM M)) (w := 3) (show g < 40 by omega) (by decide) (by rw [re_t (by omega)]; exact hMV.2.2.2.2.2.2.1 _ (by omega))) ?_
      refine j_icne (tgt := 58) dX10_setSize_51 (by decide) (fun h51 => ?_) (fun h51 => ?_)
      · have e3 : mfV M g 3 a = nI 1 := mfV_f (fun q => h51 (by rw [re_t (by omega), re_t (by omega)]; exact q))
        refine j_icN 1 dX10_setSize_58 rfl ?_
        refine j_ist_5 dX10_setSize_59 (by decide) rfl ?_
        refine j_il dX10_setSize_61 rfl ?_
        refine j_aln dX10_setSize_63 rfl rfl ?_
        refine j_iln dX10_setSize_64 rfl rfl ?_
        refine j_V1d mf_X10_term ml_X10_104 dX10_setSize_65 (Nat.le_of_ble_eq_true rfl) (Nat.le_of_ble_eq_true rfl) (Nat.le_of_ble_eq_true rfl) ⟨(Nat.le_of_ble_eq_true rfl), (Nat.le_of_ble_eq_true rfl)⟩ (by first | assumption | decide | (simp only [nv] at *; omega)) rfl rfl (c_X10_term (M := (reM M)) h3a.2.1) ?_
        refine j_aln dX10_setSize_68 rfl rfl ?_
        refine j_iln dX10_setSize_69 rfl rfl ?_
        refine j_icN 4 dX10_setSize_70 rfl ?_
        refine j_V2d mf_X10_dimension ml_X10_146 dX10_setSize_71 (Nat.le_of_ble_eq_true rfl) (Nat.le_of_ble_eq_true rfl) (Nat.le_of_ble_eq_true rfl) ⟨(Nat.le_of_ble_eq_true rfl), (Nat.le_of_ble_eq_true rfl)⟩ (by first | assumption | decide | (simp only [nv] at *; omega)) rfl rfl (c_X10_dimension (M := (reM M)) (w := 4) (show g < 40 by omega) (by decide) (by rw [re_t (by omega)]; exact hMV.2.2.2.2.2.2.1 _ (by omega))) ?_
        refine j_icne (tgt := 81) dX10_setSize_74 (by decide) (fun h74 => ?_) (fun h74 => ?_)
        · have e4 : mfV M g 4 b = nI 1 := mfV_f (fun q => h74 (by rw [re_t (by omega), re_t (by omega)]; exact q))
          refine j_icN 1 dX10_setSize_81 rfl ?_
          refine j_iaddN dX10_setSize_82 ?_
          refine j_ist_5 dX10_setSize_83 (by decide) rfl ?_
          refine j_il dX10_setSize_85 rfl ?_
          refine j_aln dX10_setSize_87 rfl rfl ?_
          refine j_il dX10_setSize_88 rfl ?_
          refine j_V1d mf_X10_term ml_X10_104 dX10_setSize_90 (Nat.le_of_ble_eq_true rfl) (Nat.le_of_ble_eq_true rfl) (Nat.le_of_ble_eq_true rfl) ⟨(Nat.le_of_ble_eq_true rfl), (Nat.le_of_ble_eq_true rfl)⟩ (by first | assumption | decide | (simp only [nv] at *; omega)) rfl rfl (c_X10_term (M := (reM M)) h3a.2.2) ?_
          refine j_aln dX10_setSize_93 rfl rfl ?_
          refine j_iln dX10_setSize_94 rfl rfl ?_
          refine j_icN 5 dX10_setSize_95 rfl ?_
          refine j_V2d mf_X10_dimension ml_X10_146 dX10_setSize_96 (Nat.le_of_ble_eq_true rfl) (Nat.le_of_ble_eq_true rfl) (Nat.le_of_ble_eq_true rfl) ⟨(Nat.le_of_ble_eq_true rfl), (Nat.le_of_ble_eq_true rfl)⟩ (by first | assumption | decide | (simp only [nv] at *; omega)) rfl rfl (c_X10_dimension (M := (reM M)) (w := 5) (show g < 40 by omega) (by decide) (by rw [re_t (by omega)]; exact hMV.2.2.2.2.2.2.1 _ (by omega))) ?_
          refine j_icne (tgt := 106) dX10_setSize_99 (by decide) (fun h99 => ?_) (fun h99 => ?_)
          · have e5 : mfV M g 5 c = nI 1 := mfV_f (fun q => h99 (by rw [re_t (by omega), re_t (by omega)]; exact q))
            refine j_icN 1 dX10_setSize_106 rfl ?_
            refine j_iaddN dX10_setSize_107 ?_
            refine j_ist_5 dX10_setSize_108 (by decide) rfl ?_
            refine j_aln dX10_setSize_110 rfl rfl ?_
            refine g_X10_10 dX10_setSize_111 fl_X10_29 ?_
            refine j_biN 6 dX10_setSize_114 rfl ?_
            refine j_iln dX10_setSize_116 rfl rfl ?_
            refine j_imulN dX10_setSize_117 ?_
            refine j_icN 3 dX10_setSize_118 rfl ?_
            refine j_iaddN dX10_setSize_119 ?_
            refine j_iln dX10_setSize_120 rfl rfl ?_
            refine j_aistN dX10_setSize_121 rfl (fun _ => rfl) rfl (by decide) (by omega) ?_
            refine j_aln dX10_setSize_122 rfl rfl ?_
            refine g_X10_10 dX10_setSize_123 fl_X10_29 ?_
            refine j_biN 6 dX10_setSize_126 rfl ?_
            refine j_iln dX10_setSize_128 rfl rfl ?_
            refine j_imulN dX10_setSize_129 ?_
            refine j_icN 4 dX10_setSize_130 rfl ?_
            refine j_iaddN dX10_setSize_131 ?_
            refine j_iln dX10_setSize_132 rfl rfl ?_
            refine j_aistN dX10_setSize_133 rfl (fun _ => rfl) rfl (by decide) (by omega) ?_
            refine j_aln dX10_setSize_134 rfl rfl ?_
            refine g_X10_10 dX10_setSize_135 fl_X10_29 ?_
            refine j_biN 6 dX10_setSize_138 rfl ?_
            refine j_iln dX10_setSize_140 rfl rfl ?_
            refine j_imulN dX10_setSize_141 ?_
            refine j_icN 5 dX10_setSize_142 rfl ?_
            refine j_iaddN dX10_setSize_143 ?_
            refine j_il dX10_setSize_144 rfl ?_
            refine j_aistN dX10_setSize_146 rfl (fun _ => rfl) rfl (by decide) (by omega) ?_
            refine j_mem (M' := (sI (reM M) 46 (mset3 (mI M 46) g a b c))) (by rw [sI_sI, sI_sI]; unfold mset3; rw [← re_t (M := M) (t := 46) (by omega)]; rfl) ?_
            have h46 : mI (sI (reM M) 46 (mset3 (mI M 46) g a b c)) 46 = mset3 (mI M 46) g a b c := by rw [mI_sI, if_pos rfl]
            have hr : rmP M (sI (reM M) 46 (mset3 (mI M 46) g a b c)) (fun t => t = 46) := rmP_s (re_P M) (by omega) rfl (fun _ q => q.elim)
            have h9 := re_MV hMV
            have hM : MV (sI (reM M) 46 (mset3 (mI M 46) g a b c)) gv cnt bar fr := ⟨h9.1, h9.2.1, h9.2.2.1, h9.2.2.2.1, h9.2.2.2.2.1, h9.2.2.2.2.2.1, fun k hk => by rw [h46]; exact mset3_T hMV.2.2.2.2.2.2.1 h3a k hk, h9.2.2.2.2.2.2.2⟩
            refine j_aln dX10_setSize_147 rfl rfl ?_
            refine j_V0g mf_X10_carriesOut ml_X10_128 dX10_setSize_148 (Nat.le_of_ble_eq_true rfl) (Nat.le_of_ble_eq_true rfl) (Nat.le_of_ble_eq_true rfl) ⟨(Nat.le_of_ble_eq_true rfl), (Nat.le_of_ble_eq_true rfl)⟩ (by first | assumption | decide | (simp only [nv] at *; omega)) rfl rfl (c_coV hr hM hMV.2.1.1 hMV.2.1.2 hMV.2.2.1.1 (by have := hMV.2.2.1.2; have := hMV.2.1.2; omega)) ?_
            intro v M9 hpp
            obtain ⟨hv, hc⟩ := hpp
            subst hv
            refine j_il dX10_setSize_151 rfl ?_
            exact j_iret dX10_setSize_153 rfl rfl (Nat.le_of_ble_eq_true rfl) (Nat.le_of_ble_eq_true rfl) (Or.inr (Or.inr ⟨hi, h3, g, hg, rfl, by rw [e3, e4, e5]; rfl, _, h46, hr, hM, hc⟩))
          · have e5 : mfV M g 5 c = nI 0 := mfV_t (by have q := h99; rw [re_t (by omega), re_t (by omega)] at q; exact q)
            refine j_icN 0 dX10_setSize_102 rfl ?_
            refine j_goto (tgt := 107) dX10_setSize_103 (by decide) ?_
            refine j_iaddN dX10_setSize_107 ?_
            refine j_ist_5 dX10_setSize_108 (by decide) rfl ?_
            refine j_aln dX10_setSize_110 rfl rfl ?_
            refine g_X10_10 dX10_setSize_111 fl_X10_29 ?_
            refine j_biN 6 dX10_setSize_114 rfl ?_
            refine j_iln dX10_setSize_116 rfl rfl ?_
            refine j_imulN dX10_setSize_117 ?_
            refine j_icN 3 dX10_setSize_118 rfl ?_
            refine j_iaddN dX10_setSize_119 ?_
            refine j_iln dX10_setSize_120 rfl rfl ?_
            refine j_aistN dX10_setSize_121 rfl (fun _ => rfl) rfl (by decide) (by omega) ?_
            refine j_aln dX10_setSize_122 rfl rfl ?_
            refine g_X10_10 dX10_setSize_123 fl_X10_29 ?_
            refine j_biN 6 dX10_setSize_126 rfl ?_
            refine j_iln dX10_setSize_128 rfl rfl ?_
            refine j_imulN dX10_setSize_129 ?_
            refine j_icN 4 dX10_setSize_130 rfl ?_
            refine j_iaddN dX10_setSize_131 ?_
            refine j_iln dX10_setSize_132 rfl rfl ?_
            refine j_aistN dX10_setSize_133 rfl (fun _ => rfl) rfl (by decide) (by omega) ?_
            refine j_aln dX10_setSize_134 rfl rfl ?_
            refine g_X10_10 dX10_setSize_135 fl_X10_29 ?_
            refine j_biN 6 dX10_setSize_138 rfl ?_
            refine j_iln dX10_setSize_140 rfl rfl ?_
            refine j_imulN dX10_setSize_141 ?_
            refine j_icN 5 dX10_setSize_142 rfl ?_
            refine j_iaddN dX10_setSize_143 ?_
            refine j_il dX10_setSize_144 rfl ?_
            refine j_aistN dX10_setSize_146 rfl (fun _ => rfl) rfl (by decide) (by omega) ?_
            refine j_mem (M' := (sI (reM M) 46 (mset3 (mI M 46) g a b c))) (by rw [sI_sI, sI_sI]; unfold mset3; rw [← re_t (M := M) (t := 46) (by omega)]; rfl) ?_
            have h46 : mI (sI (reM M) 46 (mset3 (mI M 46) g a b c)) 46 = mset3 (mI M 46) g a b c := by rw [mI_sI, if_pos rfl]
            have hr : rmP M (sI (reM M) 46 (mset3 (mI M 46) g a b c)) (fun t => t = 46) := rmP_s (re_P M) (by omega) rfl (fun _ q => q.elim)
            have h9 := re_MV hMV
            have hM : MV (sI (reM M) 46 (mset3 (mI M 46) g a b c)) gv cnt bar fr := ⟨h9.1, h9.2.1, h9.2.2.1, h9.2.2.2.1, h9.2.2.2.2.1, h9.2.2.2.2.2.1, fun k hk => by rw [h46]; exact mset3_T hMV.2.2.2.2.2.2.1 h3a k hk, h9.2.2.2.2.2.2.2⟩
            refine j_aln dX10_setSize_147 rfl rfl ?_
            refine j_V0g mf_X10_carriesOut ml_X10_128 dX10_setSize_148 (Nat.le_of_ble_eq_true rfl) (Nat.le_of_ble_eq_true rfl) (Nat.le_of_ble_eq_true rfl) ⟨(Nat.le_of_ble_eq_true rfl), (Nat.le_of_ble_eq_true rfl)⟩ (by first | assumption | decide | (simp only [nv] at *; omega)) rfl rfl (c_coV hr hM hMV.2.1.1 hMV.2.1.2 hMV.2.2.1.1 (by have := hMV.2.2.1.2; have := hMV.2.1.2; omega)) ?_
            intro v M9 hpp
            obtain ⟨hv, hc⟩ := hpp
            subst hv
            refine j_il dX10_setSize_151 rfl ?_
            exact j_iret dX10_setSize_153 rfl rfl (Nat.le_of_ble_eq_true rfl) (Nat.le_of_ble_eq_true rfl) (Or.inr (Or.inr ⟨hi, h3, g, hg, rfl, by rw [e3, e4, e5]; rfl, _, h46, hr, hM, hc⟩))
        · have e4 : mfV M g 4 b = nI 0 := mfV_t (by have q := h74; rw [re_t (by omega), re_t (by omega)] at q; exact q)
          refine j_icN 0 dX10_setSize_77 rfl ?_
          refine j_goto (tgt := 82) dX10_setSize_78 (by decide) ?_
          refine j_iaddN dX10_setSize_82 ?_
          refine j_ist_5 dX10_setSize_83 (by decide) rfl ?_
          refine j_il dX10_setSize_85 rfl ?_
          refine j_aln dX10_setSize_87 rfl rfl ?_
          refine j_il dX10_setSize_88 rfl ?_
          refine j_V1d mf_X10_term ml_X10_104 dX10_setSize_90 (Nat.le_of_ble_eq_true rfl) (Nat.le_of_ble_eq_true rfl) (Nat.le_of_ble_eq_true rfl) ⟨(Nat.le_of_ble_eq_true rfl), (Nat.le_of_ble_eq_true rfl)⟩ (by first | assumption | decide | (simp only [nv] at *; omega)) rfl rfl (c_X10_term (M := (reM M)) h3a.2.2) ?_
          refine j_aln dX10_setSize_93 rfl rfl ?_
          refine j_iln dX10_setSize_94 rfl rfl ?_
          refine j_icN 5 dX10_setSize_95 rfl ?_
          refine j_V2d mf_X10_dimension ml_X10_146 dX10_setSize_96 (Nat.le_of_ble_eq_true rfl) (Nat.le_of_ble_eq_true rfl) (Nat.le_of_ble_eq_true rfl) ⟨(Nat.le_of_ble_eq_true rfl), (Nat.le_of_ble_eq_true rfl)⟩ (by first | assumption | decide | (simp only [nv] at *; omega)) rfl rfl (c_X10_dimension (M := (reM M)) (w := 5) (show g < 40 by omega) (by decide) (by rw [re_t (by omega)]; exact hMV.2.2.2.2.2.2.1 _ (by omega))) ?_
          refine j_icne (tgt := 106) dX10_setSize_99 (by decide) (fun h99 => ?_) (fun h99 => ?_)
          · have e5 : mfV M g 5 c = nI 1 := mfV_f (fun q => h99 (by rw [re_t (by omega), re_t (by omega)]; exact q))
            refine j_icN 1 dX10_setSize_106 rfl ?_
            refine j_iaddN dX10_setSize_107 ?_
            refine j_ist_5 dX10_setSize_108 (by decide) rfl ?_
            refine j_aln dX10_setSize_110 rfl rfl ?_
            refine g_X10_10 dX10_setSize_111 fl_X10_29 ?_
            refine j_biN 6 dX10_setSize_114 rfl ?_
            refine j_iln dX10_setSize_116 rfl rfl ?_
            refine j_imulN dX10_setSize_117 ?_
            refine j_icN 3 dX10_setSize_118 rfl ?_
            refine j_iaddN dX10_setSize_119 ?_
            refine j_iln dX10_setSize_120 rfl rfl ?_
            refine j_aistN dX10_setSize_121 rfl (fun _ => rfl) rfl (by decide) (by omega) ?_
            refine j_aln dX10_setSize_122 rfl rfl ?_
            refine g_X10_10 dX10_setSize_123 fl_X10_29 ?_
            refine j_biN 6 dX10_setSize_126 rfl ?_
            refine j_iln dX10_setSize_128 rfl rfl ?_
            refine j_imulN dX10_setSize_129 ?_
            refine j_icN 4 dX10_setSize_130 rfl ?_
            refine j_iaddN dX10_setSize_131 ?_
            refine j_iln dX10_setSize_132 rfl rfl ?_
            refine j_aistN dX10_setSize_133 rfl (fun _ => rfl) rfl (by decide) (by omega) ?_
            refine j_aln dX10_setSize_134 rfl rfl ?_
            refine g_X10_10 dX10_setSize_135 fl_X10_29 ?_
            refine j_biN 6 dX10_setSize_138 rfl ?_
            refine j_iln dX10_setSize_140 rfl rfl ?_
            refine j_imulN dX10_setSize_141 ?_
            refine j_icN 5 dX10_setSize_142 rfl ?_
            refine j_iaddN dX10_setSize_143 ?_
            refine j_il dX10_setSize_144 rfl ?_
            refine j_aistN dX10_setSize_146 rfl (fun _ => rfl) rfl (by decide) (by omega) ?_
            refine j_mem (M' := (sI (reM M) 46 (mset3 (mI M 46) g a b c))) (by rw [sI_sI, sI_sI]; unfold mset3; rw [← re_t (M := M) (t := 46) (by omega)]; rfl) ?_
            have h46 : mI (sI (reM M) 46 (mset3 (mI M 46) g a b c)) 46 = mset3 (mI M 46) g a b c := by rw [mI_sI, if_pos rfl]
            have hr : rmP M (sI (reM M) 46 (mset3 (mI M 46) g a b c)) (fun t => t = 46) := rmP_s (re_P M) (by omega) rfl (fun _ q => q.elim)
            have h9 := re_MV hMV
            have hM : MV (sI (reM M) 46 (mset3 (mI M 46) g a b c)) gv cnt bar fr := ⟨h9.1, h9.2.1, h9.2.2.1, h9.2.2.2.1, h9.2.2.2.2.1, h9.2.2.2.2.2.1, fun k hk => by rw [h46]; exact mset3_T hMV.2.2.2.2.2.2.1 h3a k hk, h9.2.2.2.2.2.2.2⟩
            refine j_aln dX10_setSize_147 rfl rfl ?_
            refine j_V0g mf_X10_carriesOut ml_X10_128 dX10_setSize_148 (Nat.le_of_ble_eq_true rfl) (Nat.le_of_ble_eq_true rfl) (Nat.le_of_ble_eq_true rfl) ⟨(Nat.le_of_ble_eq_true rfl), (Nat.le_of_ble_eq_true rfl)⟩ (by first | assumption | decide | (simp only [nv] at *; omega)) rfl rfl (c_coV hr hM hMV.2.1.1 hMV.2.1.2 hMV.2.2.1.1 (by have := hMV.2.2.1.2; have := hMV.2.1.2; omega)) ?_
            intro v M9 hpp
            obtain ⟨hv, hc⟩ := hpp
            subst hv
            refine j_il dX10_setSize_151 rfl ?_
            exact j_iret dX10_setSize_153 rfl rfl (Nat.le_of_ble_eq_true rfl) (Nat.le_of_ble_eq_true rfl) (Or.inr (Or.inr ⟨hi, h3, g, hg, rfl, by rw [e3, e4, e5]; rfl, _, h46, hr, hM, hc⟩))
          · have e5 : mfV M g 5 c = nI 0 := mfV_t (by have q := h99; rw [re_t (by omega), re_t (by omega)] at q; exact q)
            refine j_icN 0 dX10_setSize_102 rfl ?_
            refine j_goto (tgt := 107) dX10_setSize_103 (by decide) ?_
            refine j_iaddN dX10_setSize_107 ?_
            refine j_ist_5 dX10_setSize_108 (by decide) rfl ?_
            refine j_aln dX10_setSize_110 rfl rfl ?_
            refine g_X10_10 dX10_setSize_111 fl_X10_29 ?_
            refine j_biN 6 dX10_setSize_114 rfl ?_
            refine j_iln dX10_setSize_116 rfl rfl ?_
            refine j_imulN dX10_setSize_117 ?_
            refine j_icN 3 dX10_setSize_118 rfl ?_
            refine j_iaddN dX10_setSize_119 ?_
            refine j_iln dX10_setSize_120 rfl rfl ?_
            refine j_aistN dX10_setSize_121 rfl (fun _ => rfl) rfl (by decide) (by omega) ?_
            refine j_aln dX10_setSize_122 rfl rfl ?_
            refine g_X10_10 dX10_setSize_123 fl_X10_29 ?_
            refine j_biN 6 dX10_setSize_126 rfl ?_
            refine j_iln dX10_setSize_128 rfl rfl ?_
            refine j_imulN dX10_setSize_129 ?_
            refine j_icN 4 dX10_setSize_130 rfl ?_
            refine j_iaddN dX10_setSize_131 ?_
            refine j_iln dX10_setSize_132 rfl rfl ?_
            refine j_aistN dX10_setSize_133 rfl (fun _ => rfl) rfl (by decide) (by omega) ?_
            refine j_aln dX10_setSize_134 rfl rfl ?_
            refine g_X10_10 dX10_setSize_135 fl_X10_29 ?_
            refine j_biN 6 dX10_setSize_138 rfl ?_
            refine j_iln dX10_setSize_140 rfl rfl ?_
            refine j_imulN dX10_setSize_141 ?_
            refine j_icN 5 dX10_setSize_142 rfl ?_
            refine j_iaddN dX10_setSize_143 ?_
            refine j_il dX10_setSize_144 rfl ?_
            refine j_aistN dX10_setSize_146 rfl (fun _ => rfl) rfl (by decide) (by omega) ?_
            refine j_mem (M' := (sI (reM M) 46 (mset3 (mI M 46) g a b c))) (by rw [sI_sI, sI_sI]; unfold mset3; rw [← re_t (M := M) (t := 46) (by omega)]; rfl) ?_
            have h46 : mI (sI (reM M) 46 (mset3 (mI M 46) g a b c)) 46 = mset3 (mI M 46) g a b c := by rw [mI_sI, if_pos rfl]
            have hr : rmP M (sI (reM M) 46 (mset3 (mI M 46) g a b c)) (fun t => t = 46) := rmP_s (re_P M) (by omega) rfl (fun _ q => q.elim)
            have h9 := re_MV hMV
            have hM : MV (sI (reM M) 46 (mset3 (mI M 46) g a b c)) gv cnt bar fr := ⟨h9.1, h9.2.1, h9.2.2.1, h9.2.2.2.1, h9.2.2.2.2.1, h9.2.2.2.2.2.1, fun k hk => by rw [h46]; exact mset3_T hMV.2.2.2.2.2.2.1 h3a k hk, h9.2.2.2.2.2.2.2⟩
            refine j_aln dX10_setSize_147 rfl rfl ?_
            refine j_V0g mf_X10_carriesOut ml_X10_128 dX10_setSize_148 (Nat.le_of_ble_eq_true rfl) (Nat.le_of_ble_eq_true rfl) (Nat.le_of_ble_eq_true rfl) ⟨(Nat.le_of_ble_eq_true rfl), (Nat.le_of_ble_eq_true rfl)⟩ (by first | assumption | decide | (simp only [nv] at *; omega)) rfl rfl (c_coV hr hM hMV.2.1.1 hMV.2.1.2 hMV.2.2.1.1 (by have := hMV.2.2.1.2; have := hMV.2.1.2; omega)) ?_
            intro v M9 hpp
            obtain ⟨hv, hc⟩ := hpp
            subst hv
            refine j_il dX10_setSize_151 rfl ?_
            exact j_iret dX10_setSize_153 rfl rfl (Nat.le_of_ble_eq_true rfl) (Nat.le_of_ble_eq_true rfl) (Or.inr (Or.inr ⟨hi, h3, g, hg, rfl, by rw [e3, e4, e5]; rfl, _, h46, hr, hM, hc⟩))
      · have e3 : mfV M g 3 a = nI 0 := mfV_t (by have q := h51; rw [re_t (by omega), re_t (by omega)] at q; exact q)
        refine j_icN 0 dX10_setSize_54 rfl ?_
        refine j_goto (tgt := 59) dX10_setSize_55 (by decide) ?_
        refine j_ist_5 dX10_setSize_59 (by decide) rfl ?_
        refine j_il dX10_setSize_61 rfl ?_
        refine j_aln dX10_setSize_63 rfl rfl ?_
        refine j_iln dX10_setSize_64 rfl rfl ?_
        refine j_V1d mf_X10_term ml_X10_104 dX10_setSize_65 (Nat.le_of_ble_eq_true rfl) (Nat.le_of_ble_eq_true rfl) (Nat.le_of_ble_eq_true rfl) ⟨(Nat.le_of_ble_eq_true rfl), (Nat.le_of_ble_eq_true rfl)⟩ (by first | assumption | decide | (simp only [nv] at *; omega)) rfl rfl (c_X10_term (M := (reM M)) h3a.2.1) ?_
        refine j_aln dX10_setSize_68 rfl rfl ?_
        refine j_iln dX10_setSize_69 rfl rfl ?_
        refine j_icN 4 dX10_setSize_70 rfl ?_
        refine j_V2d mf_X10_dimension ml_X10_146 dX10_setSize_71 (Nat.le_of_ble_eq_true rfl) (Nat.le_of_ble_eq_true rfl) (Nat.le_of_ble_eq_true rfl) ⟨(Nat.le_of_ble_eq_true rfl), (Nat.le_of_ble_eq_true rfl)⟩ (by first | assumption | decide | (simp only [nv] at *; omega)) rfl rfl (c_X10_dimension (M := (reM M)) (w := 4) (show g < 40 by omega) (by decide) (by rw [re_t (by omega)]; exact hMV.2.2.2.2.2.2.1 _ (by omega))) ?_
        refine j_icne (tgt := 81) dX10_setSize_74 (by decide) (fun h74 => ?_) (fun h74 => ?_)
        · have e4 : mfV M g 4 b = nI 1 := mfV_f (fun q => h74 (by rw [re_t (by omega), re_t (by omega)]; exact q))
          refine j_icN 1 dX10_setSize_81 rfl ?_
          refine j_iaddN dX10_setSize_82 ?_
          refine j_ist_5 dX10_setSize_83 (by decide) rfl ?_
          refine j_il dX10_setSize_85 rfl ?_
          refine j_aln dX10_setSize_87 rfl rfl ?_
          refine j_il dX10_setSize_88 rfl ?_
          refine j_V1d mf_X10_term ml_X10_104 dX10_setSize_90 (Nat.le_of_ble_eq_true rfl) (Nat.le_of_ble_eq_true rfl) (Nat.le_of_ble_eq_true rfl) ⟨(Nat.le_of_ble_eq_true rfl), (Nat.le_of_ble_eq_true rfl)⟩ (by first | assumption | decide | (simp only [nv] at *; omega)) rfl rfl (c_X10_term (M := (reM M)) h3a.2.2) ?_
          refine j_aln dX10_setSize_93 rfl rfl ?_
          refine j_iln dX10_setSize_94 rfl rfl ?_
          refine j_icN 5 dX10_setSize_95 rfl ?_
          refine j_V2d mf_X10_dimension ml_X10_146 dX10_setSize_96 (Nat.le_of_ble_eq_true rfl) (Nat.le_of_ble_eq_true rfl) (Nat.le_of_ble_eq_true rfl) ⟨(Nat.le_of_ble_eq_true rfl), (Nat.le_of_ble_eq_true rfl)⟩ (by first | assumption | decide | (simp only [nv] at *; omega)) rfl rfl (c_X10_dimension (M := (reM M)) (w := 5) (show g < 40 by omega) (by decide) (by rw [re_t (by omega)]; exact hMV.2.2.2.2.2.2.1 _ (by omega))) ?_
          refine j_icne (tgt := 106) dX10_setSize_99 (by decide) (fun h99 => ?_) (fun h99 => ?_)
          · have e5 : mfV M g 5 c = nI 1 := mfV_f (fun q => h99 (by rw [re_t (by omega), re_t (by omega)]; exact q))
            refine j_icN 1 dX10_setSize_106 rfl ?_
            refine j_iaddN dX10_setSize_107 ?_
            refine j_ist_5 dX10_setSize_108 (by decide) rfl ?_
            refine j_aln dX10_setSize_110 rfl rfl ?_
            refine g_X10_10 dX10_setSize_111 fl_X10_29 ?_
            refine j_biN 6 dX10_setSize_114 rfl ?_
            refine j_iln dX10_setSize_116 rfl rfl ?_
            refine j_imulN dX10_setSize_117 ?_
            refine j_icN 3 dX10_setSize_118 rfl ?_
            refine j_iaddN dX10_setSize_119 ?_
            refine j_iln dX10_setSize_120 rfl rfl ?_
            refine j_aistN dX10_setSize_121 rfl (fun _ => rfl) rfl (by decide) (by omega) ?_
            refine j_aln dX10_setSize_122 rfl rfl ?_
            refine g_X10_10 dX10_setSize_123 fl_X10_29 ?_
            refine j_biN 6 dX10_setSize_126 rfl ?_
            refine j_iln dX10_setSize_128 rfl rfl ?_
            refine j_imulN dX10_setSize_129 ?_
            refine j_icN 4 dX10_setSize_130 rfl ?_
            refine j_iaddN dX10_setSize_131 ?_
            refine j_iln dX10_setSize_132 rfl rfl ?_
            refine j_aistN dX10_setSize_133 rfl (fun _ => rfl) rfl (by decide) (by omega) ?_
            refine j_aln dX10_setSize_134 rfl rfl ?_
            refine g_X10_10 dX10_setSize_135 fl_X10_29 ?_
            refine j_biN 6 dX10_setSize_138 rfl ?_
            refine j_iln dX10_setSize_140 rfl rfl ?_
            refine j_imulN dX10_setSize_141 ?_
            refine j_icN 5 dX10_setSize_142 rfl ?_
            refine j_iaddN dX10_setSize_143 ?_
            refine j_il dX10_setSize_144 rfl ?_
            refine j_aistN dX10_setSize_146 rfl (fun _ => rfl) rfl (by decide) (by omega) ?_
            refine j_mem (M' := (sI (reM M) 46 (mset3 (mI M 46) g a b c))) (by rw [sI_sI, sI_sI]; unfold mset3; rw [← re_t (M := M) (t := 46) (by omega)]; rfl) ?_
            have h46 : mI (sI (reM M) 46 (mset3 (mI M 46) g a b c)) 46 = mset3 (mI M 46) g a b c := by rw [mI_sI, if_pos rfl]
            have hr : rmP M (sI (reM M) 46 (mset3 (mI M 46) g a b c)) (fun t => t = 46) := rmP_s (re_P M) (by omega) rfl (fun _ q => q.elim)
            have h9 := re_MV hMV
            have hM : MV (sI (reM M) 46 (mset3 (mI M 46) g a b c)) gv cnt bar fr := ⟨h9.1, h9.2.1, h9.2.2.1, h9.2.2.2.1, h9.2.2.2.2.1, h9.2.2.2.2.2.1, fun k hk => by rw [h46]; exact mset3_T hMV.2.2.2.2.2.2.1 h3a k hk, h9.2.2.2.2.2.2.2⟩
            refine j_aln dX10_setSize_147 rfl rfl ?_
            refine j_V0g mf_X10_carriesOut ml_X10_128 dX10_setSize_148 (Nat.le_of_ble_eq_true rfl) (Nat.le_of_ble_eq_true rfl) (Nat.le_of_ble_eq_true rfl) ⟨(Nat.le_of_ble_eq_true rfl), (Nat.le_of_ble_eq_true rfl)⟩ (by first | assumption | decide | (simp only [nv] at *; omega)) rfl rfl (c_coV hr hM hMV.2.1.1 hMV.2.1.2 hMV.2.2.1.1 (by have := hMV.2.2.1.2; have := hMV.2.1.2; omega)) ?_
            intro v M9 hpp
            obtain ⟨hv, hc⟩ := hpp
            subst hv
            refine j_il dX10_setSize_151 rfl ?_
            exact j_iret dX10_setSize_153 rfl rfl (Nat.le_of_ble_eq_true rfl) (Nat.le_of_ble_eq_true rfl) (Or.inr (Or.inr ⟨hi, h3, g, hg, rfl, by rw [e3, e4, e5]; rfl, _, h46, hr, hM, hc⟩))
          · have e5 : mfV M g 5 c = nI 0 := mfV_t (by have q := h99; rw [re_t (by omega), re_t (by omega)] at q; exact q)
            refine j_icN 0 dX10_setSize_102 rfl ?_
            refine j_goto (tgt := 107) dX10_setSize_103 (by decide) ?_
            refine j_iaddN dX10_setSize_107 ?_
            refine j_ist_5 dX10_setSize_108 (by decide) rfl ?_
            refine j_aln dX10_setSize_110 rfl rfl ?_
            refine g_X10_10 dX10_setSize_111 fl_X10_29 ?_
            refine j_biN 6 dX10_setSize_114 rfl ?_
            refine j_iln dX10_setSize_116 rfl rfl ?_
            refine j_imulN dX10_setSize_117 ?_
            refine j_icN 3 dX10_setSize_118 rfl ?_
            refine j_iaddN dX10_setSize_119 ?_
            refine j_iln dX10_setSize_120 rfl rfl ?_
            refine j_aistN dX10_setSize_121 rfl (fun _ => rfl) rfl (by decide) (by omega) ?_
            refine j_aln dX10_setSize_122 rfl rfl ?_
            refine g_X10_10 dX10_setSize_123 fl_X10_29 ?_
            refine j_biN 6 dX10_setSize_126 rfl ?_
            refine j_iln dX10_setSize_128 rfl rfl ?_
            refine j_imulN dX10_setSize_129 ?_
            refine j_icN 4 dX10_setSize_130 rfl ?_
            refine j_iaddN dX10_setSize_131 ?_
            refine j_iln dX10_setSize_132 rfl rfl ?_
            refine j_aistN dX10_setSize_133 rfl (fun _ => rfl) rfl (by decide) (by omega) ?_
            refine j_aln dX10_setSize_134 rfl rfl ?_
            refine g_X10_10 dX10_setSize_135 fl_X10_29 ?_
            refine j_biN 6 dX10_setSize_138 rfl ?_
            refine j_iln dX10_setSize_140 rfl rfl ?_
            refine j_imulN dX10_setSize_141 ?_
            refine j_icN 5 dX10_setSize_142 rfl ?_
            refine j_iaddN dX10_setSize_143 ?_
            refine j_il dX10_setSize_144 rfl ?_
            refine j_aistN dX10_setSize_146 rfl (fun _ => rfl) rfl (by decide) (by omega) ?_
            refine j_mem (M' := (sI (reM M) 46 (mset3 (mI M 46) g a b c))) (by rw [sI_sI, sI_sI]; unfold mset3; rw [← re_t (M := M) (t := 46) (by omega)]; rfl) ?_
            have h46 : mI (sI (reM M) 46 (mset3 (mI M 46) g a b c)) 46 = mset3 (mI M 46) g a b c := by rw [mI_sI, if_pos rfl]
            have hr : rmP M (sI (reM M) 46 (mset3 (mI M 46) g a b c)) (fun t => t = 46) := rmP_s (re_P M) (by omega) rfl (fun _ q => q.elim)
            have h9 := re_MV hMV
            have hM : MV (sI (reM M) 46 (mset3 (mI M 46) g a b c)) gv cnt bar fr := ⟨h9.1, h9.2.1, h9.2.2.1, h9.2.2.2.1, h9.2.2.2.2.1, h9.2.2.2.2.2.1, fun k hk => by rw [h46]; exact mset3_T hMV.2.2.2.2.2.2.1 h3a k hk, h9.2.2.2.2.2.2.2⟩
            refine j_aln dX10_setSize_147 rfl rfl ?_
            refine j_V0g mf_X10_carriesOut ml_X10_128 dX10_setSize_148 (Nat.le_of_ble_eq_true rfl) (Nat.le_of_ble_eq_true rfl) (Nat.le_of_ble_eq_true rfl) ⟨(Nat.le_of_ble_eq_true rfl), (Nat.le_of_ble_eq_true rfl)⟩ (by first | assumption | decide | (simp only [nv] at *; omega)) rfl rfl (c_coV hr hM hMV.2.1.1 hMV.2.1.2 hMV.2.2.1.1 (by have := hMV.2.2.1.2; have := hMV.2.1.2; omega)) ?_
            intro v M9 hpp
            obtain ⟨hv, hc⟩ := hpp
            subst hv
            refine j_il dX10_setSize_151 rfl ?_
            exact j_iret dX10_setSize_153 rfl rfl (Nat.le_of_ble_eq_true rfl) (Nat.le_of_ble_eq_true rfl) (Or.inr (Or.inr ⟨hi, h3, g, hg, rfl, by rw [e3, e4, e5]; rfl, _, h46, hr, hM, hc⟩))
        · have e4 : mfV M g 4 b = nI 0 := mfV_t (by have q := h74; rw [re_t (by omega), re_t (by omega)] at q; exact q)
          refine j_icN 0 dX10_setSize_77 rfl ?_
          refine j_goto (tgt := 82) dX10_setSize_78 (by decide) ?_
          refine j_iaddN dX10_setSize_82 ?_
          refine j_ist_5 dX10_setSize_83 (by decide) rfl ?_
          refine j_il dX10_setSize_85 rfl ?_
          refine j_aln dX10_setSize_87 rfl rfl ?_
          refine j_il dX10_setSize_88 rfl ?_
          refine j_V1d mf_X10_term ml_X10_104 dX10_setSize_90 (Nat.le_of_ble_eq_true rfl) (Nat.le_of_ble_eq_true rfl) (Nat.le_of_ble_eq_true rfl) ⟨(Nat.le_of_ble_eq_true rfl), (Nat.le_of_ble_eq_true rfl)⟩ (by first | assumption | decide | (simp only [nv] at *; omega)) rfl rfl (c_X10_term (M := (reM M)) h3a.2.2) ?_
          refine j_aln dX10_setSize_93 rfl rfl ?_
          refine j_iln dX10_setSize_94 rfl rfl ?_
          refine j_icN 5 dX10_setSize_95 rfl ?_
          refine j_V2d mf_X10_dimension ml_X10_146 dX10_setSize_96 (Nat.le_of_ble_eq_true rfl) (Nat.le_of_ble_eq_true rfl) (Nat.le_of_ble_eq_true rfl) ⟨(Nat.le_of_ble_eq_true rfl), (Nat.le_of_ble_eq_true rfl)⟩ (by first | assumption | decide | (simp only [nv] at *; omega)) rfl rfl (c_X10_dimension (M := (reM M)) (w := 5) (show g < 40 by omega) (by decide) (by rw [re_t (by omega)]; exact hMV.2.2.2.2.2.2.1 _ (by omega))) ?_
          refine j_icne (tgt := 106) dX10_setSize_99 (by decide) (fun h99 => ?_) (fun h99 => ?_)
          · have e5 : mfV M g 5 c = nI 1 := mfV_f (fun q => h99 (by rw [re_t (by omega), re_t (by omega)]; exact q))
            refine j_icN 1 dX10_setSize_106 rfl ?_
            refine j_iaddN dX10_setSize_107 ?_
            refine j_ist_5 dX10_setSize_108 (by decide) rfl ?_
            refine j_aln dX10_setSize_110 rfl rfl ?_
            refine g_X10_10 dX10_setSize_111 fl_X10_29 ?_
            refine j_biN 6 dX10_setSize_114 rfl ?_
            refine j_iln dX10_setSize_116 rfl rfl ?_
            refine j_imulN dX10_setSize_117 ?_
            refine j_icN 3 dX10_setSize_118 rfl ?_
            refine j_iaddN dX10_setSize_119 ?_
            refine j_iln dX10_setSize_120 rfl rfl ?_
            refine j_aistN dX10_setSize_121 rfl (fun _ => rfl) rfl (by decide) (by omega) ?_
            refine j_aln dX10_setSize_122 rfl rfl ?_
            refine g_X10_10 dX10_setSize_123 fl_X10_29 ?_
            refine j_biN 6 dX10_setSize_126 rfl ?_
            refine j_iln dX10_setSize_128 rfl rfl ?_
            refine j_imulN dX10_setSize_129 ?_
            refine j_icN 4 dX10_setSize_130 rfl ?_
            refine j_iaddN dX10_setSize_131 ?_
            refine j_iln dX10_setSize_132 rfl rfl ?_
            refine j_aistN dX10_setSize_133 rfl (fun _ => rfl) rfl (by decide) (by omega) ?_
            refine j_aln dX10_setSize_134 rfl rfl ?_
            refine g_X10_10 dX10_setSize_135 fl_X10_29 ?_
            refine j_biN 6 dX10_setSize_138 rfl ?_
            refine j_iln dX10_setSize_140 rfl rfl ?_
            refine j_imulN dX10_setSize_141 ?_
            refine j_icN 5 dX10_setSize_142 rfl ?_
            refine j_iaddN dX10_setSize_143 ?_
            refine j_il dX10_setSize_144 rfl ?_
            refine j_aistN dX10_setSize_146 rfl (fun _ => rfl) rfl (by decide) (by omega) ?_
            refine j_mem (M' := (sI (reM M) 46 (mset3 (mI M 46) g a b c))) (by rw [sI_sI, sI_sI]; unfold mset3; rw [← re_t (M := M) (t := 46) (by omega)]; rfl) ?_
            have h46 : mI (sI (reM M) 46 (mset3 (mI M 46) g a b c)) 46 = mset3 (mI M 46) g a b c := by rw [mI_sI, if_pos rfl]
            have hr : rmP M (sI (reM M) 46 (mset3 (mI M 46) g a b c)) (fun t => t = 46) := rmP_s (re_P M) (by omega) rfl (fun _ q => q.elim)
            have h9 := re_MV hMV
            have hM : MV (sI (reM M) 46 (mset3 (mI M 46) g a b c)) gv cnt bar fr := ⟨h9.1, h9.2.1, h9.2.2.1, h9.2.2.2.1, h9.2.2.2.2.1, h9.2.2.2.2.2.1, fun k hk => by rw [h46]; exact mset3_T hMV.2.2.2.2.2.2.1 h3a k hk, h9.2.2.2.2.2.2.2⟩
            refine j_aln dX10_setSize_147 rfl rfl ?_
            refine j_V0g mf_X10_carriesOut ml_X10_128 dX10_setSize_148 (Nat.le_of_ble_eq_true rfl) (Nat.le_of_ble_eq_true rfl) (Nat.le_of_ble_eq_true rfl) ⟨(Nat.le_of_ble_eq_true rfl), (Nat.le_of_ble_eq_true rfl)⟩ (by first | assumption | decide | (simp only [nv] at *; omega)) rfl rfl (c_coV hr hM hMV.2.1.1 hMV.2.1.2 hMV.2.2.1.1 (by have := hMV.2.2.1.2; have := hMV.2.1.2; omega)) ?_
            intro v M9 hpp
            obtain ⟨hv, hc⟩ := hpp
            subst hv
            refine j_il dX10_setSize_151 rfl ?_
            exact j_iret dX10_setSize_153 rfl rfl (Nat.le_of_ble_eq_true rfl) (Nat.le_of_ble_eq_true rfl) (Or.inr (Or.inr ⟨hi, h3, g, hg, rfl, by rw [e3, e4, e5]; rfl, _, h46, hr, hM, hc⟩))
          · have e5 : mfV M g 5 c = nI 0 := mfV_t (by have q := h99; rw [re_t (by omega), re_t (by omega)] at q; exact q)
            refine j_icN 0 dX10_setSize_102 rfl ?_
            refine j_goto (tgt := 107) dX10_setSize_103 (by decide) ?_
            refine j_iaddN dX10_setSize_107 ?_
            refine j_ist_5 dX10_setSize_108 (by decide) rfl ?_
            refine j_aln dX10_setSize_110 rfl rfl ?_
            refine g_X10_10 dX10_setSize_111 fl_X10_29 ?_
            refine j_biN 6 dX10_setSize_114 rfl ?_
            refine j_iln dX10_setSize_116 rfl rfl ?_
            refine j_imulN dX10_setSize_117 ?_
            refine j_icN 3 dX10_setSize_118 rfl ?_
            refine j_iaddN dX10_setSize_119 ?_
            refine j_iln dX10_setSize_120 rfl rfl ?_
            refine j_aistN dX10_setSize_121 rfl (fun _ => rfl) rfl (by decide) (by omega) ?_
            refine j_aln dX10_setSize_122 rfl rfl ?_
            refine g_X10_10 dX10_setSize_123 fl_X10_29 ?_
            refine j_biN 6 dX10_setSize_126 rfl ?_
            refine j_iln dX10_setSize_128 rfl rfl ?_
            refine j_imulN dX10_setSize_129 ?_
            refine j_icN 4 dX10_setSize_130 rfl ?_
            refine j_iaddN dX10_setSize_131 ?_
            refine j_iln dX10_setSize_132 rfl rfl ?_
            refine j_aistN dX10_setSize_133 rfl (fun _ => rfl) rfl (by decide) (by omega) ?_
            refine j_aln dX10_setSize_134 rfl rfl ?_
            refine g_X10_10 dX10_setSize_135 fl_X10_29 ?_
            refine j_biN 6 dX10_setSize_138 rfl ?_
            refine j_iln dX10_setSize_140 rfl rfl ?_
            refine j_imulN dX10_setSize_141 ?_
            refine j_icN 5 dX10_setSize_142 rfl ?_
            refine j_iaddN dX10_setSize_143 ?_
            refine j_il dX10_setSize_144 rfl ?_
            refine j_aistN dX10_setSize_146 rfl (fun _ => rfl) rfl (by decide) (by omega) ?_
            refine j_mem (M' := (sI (reM M) 46 (mset3 (mI M 46) g a b c))) (by rw [sI_sI, sI_sI]; unfold mset3; rw [← re_t (M := M) (t := 46) (by omega)]; rfl) ?_
            have h46 : mI (sI (reM M) 46 (mset3 (mI M 46) g a b c)) 46 = mset3 (mI M 46) g a b c := by rw [mI_sI, if_pos rfl]
            have hr : rmP M (sI (reM M) 46 (mset3 (mI M 46) g a b c)) (fun t => t = 46) := rmP_s (re_P M) (by omega) rfl (fun _ q => q.elim)
            have h9 := re_MV hMV
            have hM : MV (sI (reM M) 46 (mset3 (mI M 46) g a b c)) gv cnt bar fr := ⟨h9.1, h9.2.1, h9.2.2.1, h9.2.2.2.1, h9.2.2.2.2.1, h9.2.2.2.2.2.1, fun k hk => by rw [h46]; exact mset3_T hMV.2.2.2.2.2.2.1 h3a k hk, h9.2.2.2.2.2.2.2⟩
            refine j_aln dX10_setSize_147 rfl rfl ?_
            refine j_V0g mf_X10_carriesOut ml_X10_128 dX10_setSize_148 (Nat.le_of_ble_eq_true rfl) (Nat.le_of_ble_eq_true rfl) (Nat.le_of_ble_eq_true rfl) ⟨(Nat.le_of_ble_eq_true rfl), (Nat.le_of_ble_eq_true rfl)⟩ (by first | assumption | decide | (simp only [nv] at *; omega)) rfl rfl (c_coV hr hM hMV.2.1.1 hMV.2.1.2 hMV.2.2.1.1 (by have := hMV.2.2.1.2; have := hMV.2.1.2; omega)) ?_
            intro v M9 hpp
            obtain ⟨hv, hc⟩ := hpp
            subst hv
            refine j_il dX10_setSize_151 rfl ?_
            exact j_iret dX10_setSize_153 rfl rfl (Nat.le_of_ble_eq_true rfl) (Nat.le_of_ble_eq_true rfl) (Or.inr (Or.inr ⟨hi, h3, g, hg, rfl, by rw [e3, e4, e5]; rfl, _, h46, hr, hM, hc⟩))
    · have h3 : mT3 a b c = false := bI_eq.mp h27
      refine j_aln dX10_setSize_30 rfl rfl ?_
      refine j_icN 2 dX10_setSize_31 rfl ?_
      refine j_V1d mf_X10_fails ml_X10_112 dX10_setSize_32 (Nat.le_of_ble_eq_true rfl) (Nat.le_of_ble_eq_true rfl) (Nat.le_of_ble_eq_true rfl) ⟨(Nat.le_of_ble_eq_true rfl), (Nat.le_of_ble_eq_true rfl)⟩ (by first | assumption | decide | (simp only [nv] at *; omega)) rfl rfl c_X10_fails ?_
      exact j_iret dX10_setSize_35 rfl rfl (Nat.le_of_ble_eq_true rfl) (Nat.le_of_ble_eq_true rfl) (Or.inr (Or.inl ⟨hi, h3, rfl, rfl⟩))
  · have hi : mF M x = false := bI_eq.mp h10
    refine j_aln dX10_setSize_13 rfl rfl ?_
    refine j_icN 1 dX10_setSize_14 rfl ?_
    refine j_V1d mf_X10_fails ml_X10_112 dX10_setSize_15 (Nat.le_of_ble_eq_true rfl) (Nat.le_of_ble_eq_true rfl) (Nat.le_of_ble_eq_true rfl) ⟨(Nat.le_of_ble_eq_true rfl), (Nat.le_of_ble_eq_true rfl)⟩ (by first | assumption | decide | (simp only [nv] at *; omega)) rfl rfl c_X10_fails ?_
    exact j_iret dX10_setSize_18 rfl rfl (Nat.le_of_ble_eq_true rfl) (Nat.le_of_ble_eq_true rfl) (Or.inl ⟨hi, rfl, rfl⟩)
def tkN (r : Nat → Nat) (p c : Nat) : Nat → Nat := fun j => if p ≤ j ∧ j < c then r (j + 1) else r j
theorem tk_row {M : Mm} {gv cnt bar : Nat} {fr : Nat → Nat} (h : MV M gv cnt bar fr) {p : Nat} (hp : p < cnt) : ∀ k, k < cnt - 1 → tkR (mI M 44) p (cnt - 1) k = nI (tkN fr p (cnt - 1) k) ∧ tkN fr p (cnt - 1) k < gv := by
  intro k hk
  unfold tkR tkN
  split
  · exact h.2.2.2.1 (k + 1) (by omega)
  · exact h.2.2.2.1 k (by omega)
theorem tk_inj {fr : Nat → Nat} {p cnt : Nat} (h : ∀ i j, i < cnt → j < cnt → fr i = fr j → i = j) : ∀ i j, i < cnt - 1 → j < cnt - 1 → tkN fr p (cnt - 1) i = tkN fr p (cnt - 1) j → i = j := by
  intro i j hi hj e
  unfold tkN at e
  by_cases h1 : p ≤ i ∧ i < cnt - 1 <;> by_cases h2 : p ≤ j ∧ j < cnt - 1
  · rw [if_pos h1, if_pos h2] at e; have := h _ _ (by omega) (by omega) e; omega
  · rw [if_pos h1, if_neg h2] at e; have := h _ _ (by omega) (by omega) e; omega
  · rw [if_neg h1, if_pos h2] at e; have := h _ _ (by omega) (by omega) e; omega
  · rw [if_neg h1, if_neg h2] at e; exact h _ _ (by omega) (by omega) e
theorem tk_in {fr : Nat → Nat} {p cnt g : Nat} (hp : p < cnt) (hg : fr p = g) (h : ∀ i j, i < cnt → j < cnt → fr i = fr j → i = j) (u : Nat) : (∃ k, k < cnt - 1 ∧ tkN fr p (cnt - 1) k = u) ↔ (∃ k, k < cnt ∧ fr k = u) ∧ ¬ u = g := by
  constructor
  · rintro ⟨k, hk, e⟩
    unfold tkN at e
    by_cases h1 : p ≤ k ∧ k < cnt - 1
    · rw [if_pos h1] at e
      refine ⟨⟨k + 1, by omega, e⟩, fun q => ?_⟩
      have := h (k + 1) p (by omega) hp (by rw [e, q, hg])
      omega
    · rw [if_neg h1] at e
      refine ⟨⟨k, by omega, e⟩, fun q => ?_⟩
      have := h k p (by omega) hp (by rw [e, q, hg])
      omega
  · rintro ⟨⟨k, hk, e⟩, hn⟩
    have hkp : ¬ k = p := fun q => hn (by rw [← e, q, hg])
    rcases Nat.lt_or_ge k p with q | q
    · exact ⟨k, by omega, by unfold tkN; rw [if_neg (by omega)]; exact e⟩
    · exact ⟨k - 1, by omega, by unfold tkN; rw [if_pos (by omega), show k - 1 + 1 = k by omega]; exact e⟩
set_option maxRecDepth 100000 in
set_option maxHeartbeats 4000000 in
theorem c_X10_remove {l : Launch} {E : Ev} {M : Mm} {gv cnt bar : Nat} {fr : Nat → Nat} {x : Int32} (hMV : MV M gv cnt bar fr) : Ct l E yX10_remove cX10_remove 3 (some .int) 9 0 0 [.ref (eA E 12 0), .int x] M (fun v M1 => (mF M x = false ∧ v = some (.int (nI 0)) ∧ M1 = cdM (c0 M) (nI 1)) ∨ (mF M x = true ∧ (∃ k, k < cnt ∧ neX M (fr k) = x) ∧ v = some (.int (nI 0)) ∧ M1 = cdM (c0 M) (nI 2)) ∨ (mF M x = true ∧ ¬ (∃ k, k < cnt ∧ neX M (fr k) = x) ∧ ∃ p, p < cnt ∧ x = nI (fr p) ∧ v = some (.int (nI (cnt - 1))) ∧ ∃ M2 b2, b2 = (if bar = cnt then cnt - 1 else bar) ∧ mI M2 44 = tkR (mI M 44) p (cnt - 1) ∧ mI M2 47 = upd (mI M 47) (fr p) (nI 0) ∧ rmP M M2 (fun t => t = 44 ∨ t = 47) ∧ MV M2 gv (cnt - 1) b2 (tkN fr p (cnt - 1)) ∧ coM M2 cnt bar b2 (tkN fr p (cnt - 1)) M1)) := by
  refine Ct.of (own := RX10) rfl [some (.ref (eA E 12 0)), some (.int x), none] (by decide) (Nat.le_of_ble_eq_true rfl) rfl ?_
  refine j_aln dX10_remove_0 rfl rfl ?_
  refine j_icN 0 dX10_remove_1 rfl ?_
  refine p_X10_0 dX10_remove_2 fl_X10_96 ?_
  refine j_aln dX10_remove_5 rfl rfl ?_
  refine j_iln dX10_remove_6 rfl rfl ?_
  refine j_V1d mf_X10_isFeature ml_X10_150 dX10_remove_7 (Nat.le_of_ble_eq_true rfl) (Nat.le_of_ble_eq_true rfl) (Nat.le_of_ble_eq_true rfl) ⟨(Nat.le_of_ble_eq_true rfl), (Nat.le_of_ble_eq_true rfl)⟩ (by first | assumption | decide | (simp only [nv] at *; omega)) rfl rfl (c_X10_isFeature (M := c0 M) hMV.1.1 hMV.1.2) ?_
  refine j_ifne (tgt := 19) dX10_remove_10 (by decide) (fun h10 => ?_) (fun h10 => ?_)
  · have hi : mF M x = true := bI_ne.mp h10
    have hg := hi
    have hc12 := hMV.2.1.2
    have T55 : (∀ j, j < cnt → ¬ neX M (fr j) = x) → Jd l E RX10 cX10_remove 3 (some .int) [] (rmm 9 0 0) (QfN E (fun v M1 => (mF M x = false ∧ v = some (.int (nI 0)) ∧ M1 = cdM (c0 M) (nI 1)) ∨ (mF M x = true ∧ (∃ k, k < cnt ∧ neX M (fr k) = x) ∧ v = some (.int (nI 0)) ∧ M1 = cdM (c0 M) (nI 2)) ∨ (mF M x = true ∧ ¬ (∃ k, k < cnt ∧ neX M (fr k) = x) ∧ ∃ p, p < cnt ∧ x = nI (fr p) ∧ v = some (.int (nI (cnt - 1))) ∧ ∃ M2 b2, b2 = (if bar = cnt then cnt - 1 else bar) ∧ mI M2 44 = tkR (mI M 44) p (cnt - 1) ∧ mI M2 47 = upd (mI M 47) (fr p) (nI 0) ∧ rmP M M2 (fun t => t = 44 ∨ t = 47) ∧ MV M2 gv (cnt - 1) b2 (tkN fr p (cnt - 1)) ∧ coM M2 cnt bar b2 (tkN fr p (cnt - 1)) M1)) 0 0) 0 0 55 [some (.ref (eA E 12 0)), some (.int x), some (.int (nI cnt))] [] (c0 M) := by
      intro hall
      have hnb : ¬ (∃ k, k < cnt ∧ neX M (fr k) = x) := fun q => q.elim fun k q => hall k q.1 q.2
      obtain ⟨p, hp, hpx, hbf⟩ := MV_pl hMV x hi
      obtain rfl : x = nI (fr p) := hpx.symm.trans (MV_row hMV hp).1
      clear hg
      have hg40 := (MV_row hMV hp).2
      have hc12 := hMV.2.1.2
      have hb12 := hMV.2.2.1.2
      refine j_aln dX10_remove_55 rfl rfl ?_
      refine j_V0n mf_X10_remembers ml_X10_115 dX10_remove_56 (Nat.le_of_ble_eq_true rfl) (Nat.le_of_ble_eq_true rfl) (Nat.le_of_ble_eq_true rfl) ⟨(Nat.le_of_ble_eq_true rfl), (Nat.le_of_ble_eq_true rfl)⟩ (by first | assumption | decide | (simp only [nv] at *; omega)) rfl rfl (c_reV hMV) ?_
      refine j_aln dX10_remove_59 rfl rfl ?_
      refine g_X10_7 dX10_remove_60 fl_X10_137 ?_
      refine j_topi (show _ = nI bar from by rw [re_12]; exact hMV.2.2.1.1) ?_
      refine j_aln dX10_remove_63 rfl rfl ?_
      refine g_X10_6 dX10_remove_64 fl_X10_131 ?_
      refine j_topi (show _ = nI cnt from by rw [re_12]; exact hMV.2.1.1) ?_
      refine j_icneN (tgt := 74) dX10_remove_67 (by decide) (by omega) (by omega) (fun h67 => ?_) (fun h67 => ?_)
      · have hb : (if bar = cnt then cnt - 1 else bar) = bar := if_neg h67
        refine j_icN 0 dX10_remove_74 rfl ?_
        refine j_ist_2 dX10_remove_75 (by decide) rfl ?_
        refine j_aln dX10_remove_76 rfl rfl ?_
        refine j_aln dX10_remove_77 rfl rfl ?_
        refine j_iln dX10_remove_78 rfl rfl ?_
        refine j_V1d mf_X10_placeOf ml_X10_156 dX10_remove_79 (Nat.le_of_ble_eq_true rfl) (Nat.le_of_ble_eq_true rfl) (Nat.le_of_ble_eq_true rfl) ⟨(Nat.le_of_ble_eq_true rfl), (Nat.le_of_ble_eq_true rfl)⟩ (by first | assumption | decide | (simp only [nv] at *; omega)) rfl rfl (c_X10_placeOf (M := reM M) (p := p) (show p < 13 by have := hMV.2.1.2; omega) (by rw [re_t (by omega)]; exact (MV_row hMV hp).1) (fun j hj => by rw [re_t (by omega)]; exact hbf j hj)) ?_
        refine j_V1n mf_X10_takes ml_X10_170 dX10_remove_82 (Nat.le_of_ble_eq_true rfl) (Nat.le_of_ble_eq_true rfl) (Nat.le_of_ble_eq_true rfl) ⟨(Nat.le_of_ble_eq_true rfl), (Nat.le_of_ble_eq_true rfl)⟩ (by first | assumption | decide | (simp only [nv] at *; omega)) rfl rfl (c_X10_takes (M := reM M) hp (by rw [re_12]; exact hMV.2.1.1) hMV.2.1.2) ?_
        refine j_mem (M' := (sI (sI (reM M) 44 (tkR (mI M 44) p (cnt - 1))) 12 (upd (mI (reM M) 12) 6 (nI (cnt - 1))))) (by rw [← re_t (M := M) (t := 44) (by omega)]; first | done | rfl) ?_
        refine j_aln dX10_remove_85 rfl rfl ?_
        refine g_X10_11 dX10_remove_86 fl_X10_32 ?_
        refine j_iln dX10_remove_89 rfl rfl ?_
        refine j_icN 0 dX10_remove_90 rfl ?_
        skip
        refine j_azstN dX10_remove_91 rfl (fun _ => rfl) rfl (by decide) (by have := (MV_row hMV hp).2; omega) (by decide) ?_
        refine j_aln dX10_remove_92 rfl rfl ?_
        refine j_iln dX10_remove_93 rfl rfl ?_
        refine j_ifeqN (tgt := 104) dX10_remove_94 (by decide) (by omega) (fun h94 => ?_) (fun h94 => ?_)
        · refine j_aln dX10_remove_104 rfl rfl ?_
          refine g_X10_7 dX10_remove_105 fl_X10_137 ?_
          refine j_topi (show _ = nI bar from by show mI (reM M) 12 7 = _; rw [re_12]; exact hMV.2.2.1.1) ?_
          refine p_X10_7 dX10_remove_108 fl_X10_137 ?_
          refine j_mem (M' := (sI (sI (sI (sI (reM M) 44 (tkR (mI M 44) p (cnt - 1))) 12 (upd (mI (reM M) 12) 6 (nI (cnt - 1)))) 47 (upd (mI M 47) (fr p) (nI 0))) 12 (upd (upd (mI (reM M) 12) 6 (nI (cnt - 1))) 7 (nI (if bar = cnt then cnt - 1 else bar))))) (by rw [hb, ← re_t (M := M) (t := 47) (by omega)]; first | done | rfl) ?_
          have h9 := re_MV hMV
          have h44 : mI (sI (sI (sI (sI (reM M) 44 (tkR (mI M 44) p (cnt - 1))) 12 (upd (mI (reM M) 12) 6 (nI (cnt - 1)))) 47 (upd (mI M 47) (fr p) (nI 0))) 12 (upd (upd (mI (reM M) 12) 6 (nI (cnt - 1))) 7 (nI (if bar = cnt then cnt - 1 else bar)))) 44 = tkR (mI M 44) p (cnt - 1) := by rw [mI_sI, if_neg (by decide), mI_sI, if_neg (by decide), mI_sI, if_neg (by decide), mI_sI, if_pos rfl]
          have h47 : mI (sI (sI (sI (sI (reM M) 44 (tkR (mI M 44) p (cnt - 1))) 12 (upd (mI (reM M) 12) 6 (nI (cnt - 1)))) 47 (upd (mI M 47) (fr p) (nI 0))) 12 (upd (upd (mI (reM M) 12) 6 (nI (cnt - 1))) 7 (nI (if bar = cnt then cnt - 1 else bar)))) 47 = upd (mI M 47) (fr p) (nI 0) := by rw [mI_sI, if_neg (by decide), mI_sI, if_pos rfl]
          have hr : rmP M (sI (sI (sI (sI (reM M) 44 (tkR (mI M 44) p (cnt - 1))) 12 (upd (mI (reM M) 12) 6 (nI (cnt - 1)))) 47 (upd (mI M 47) (fr p) (nI 0))) 12 (upd (upd (mI (reM M) 12) 6 (nI (cnt - 1))) 7 (nI (if bar = cnt then cnt - 1 else bar)))) (fun t => t = 44 ∨ t = 47) := rmP_12 (j := 7) (v := nI (if bar = cnt then cnt - 1 else bar)) (rmP_s (S := fun t => t = 44) (t := 47) (rmP_12 (j := 6) (v := nI (cnt - 1)) (rmP_s (S := fun _ => False) (S' := fun t => t = 44) (t := 44) (f := tkR (mI M 44) p (cnt - 1)) (re_P M) (by omega) rfl (fun _ q => q.elim)) (by omega)) (by omega) (Or.inr rfl) (fun _ q => Or.inl q)) (by omega)
          have hM : MV (sI (sI (sI (sI (reM M) 44 (tkR (mI M 44) p (cnt - 1))) 12 (upd (mI (reM M) 12) 6 (nI (cnt - 1)))) 47 (upd (mI M 47) (fr p) (nI 0))) 12 (upd (upd (mI (reM M) 12) 6 (nI (cnt - 1))) 7 (nI (if bar = cnt then cnt - 1 else bar)))) gv (cnt - 1) (if bar = cnt then cnt - 1 else bar) (tkN fr p (cnt - 1)) := ⟨h9.1, ⟨rfl, by have := hMV.2.1.2; omega⟩, ⟨rfl, by have := hMV.2.2.1.2; split <;> omega⟩, fun k hk => by rw [h44]; exact tk_row hMV hp k hk, tk_inj hMV.2.2.2.2.1, fun u hu => by
              rw [h47, tk_in hp rfl hMV.2.2.2.2.1 u, ← hMV.2.2.2.2.2.1 u hu]
              unfold upd
              by_cases q : u = fr p
              · rw [if_pos q]; exact ⟨fun g => absurd rfl g, fun g => absurd q g.2⟩
              · rw [if_neg q]; exact ⟨fun g => ⟨g, q⟩, fun g => g.1⟩, h9.2.2.2.2.2.2⟩
          refine j_aln dX10_remove_111 rfl rfl ?_
          refine j_V0g mf_X10_carriesOut ml_X10_128 dX10_remove_112 (Nat.le_of_ble_eq_true rfl) (Nat.le_of_ble_eq_true rfl) (Nat.le_of_ble_eq_true rfl) ⟨(Nat.le_of_ble_eq_true rfl), (Nat.le_of_ble_eq_true rfl)⟩ (by first | assumption | decide | (simp only [nv] at *; omega)) rfl rfl (c_coV hr hM hMV.2.1.1 hMV.2.1.2 hMV.2.2.1.1 (by have := hMV.2.2.1.2; have := hMV.2.1.2; omega)) ?_
          intro v M9 hpp
          obtain ⟨hv, hc⟩ := hpp
          subst hv
          refine j_aln dX10_remove_115 rfl rfl ?_
          refine g_X10_6 dX10_remove_116 fl_X10_131 ?_
          refine j_topi (show _ = nI (cnt - 1) from (co_MV hc hM).2.1.1) ?_
          exact j_iret dX10_remove_119 rfl rfl (Nat.le_of_ble_eq_true rfl) (Nat.le_of_ble_eq_true rfl) (Or.inr (Or.inr ⟨hi, hnb, p, hp, rfl, rfl, _, _, rfl, h44, h47, hr, hM, hc⟩))
        · exact absurd rfl h94
      · have hb : (if bar = cnt then cnt - 1 else bar) = cnt - 1 := if_pos h67
        refine j_icN 1 dX10_remove_70 rfl ?_
        refine j_goto (tgt := 75) dX10_remove_71 (by decide) ?_
        refine j_ist_2 dX10_remove_75 (by decide) rfl ?_
        refine j_aln dX10_remove_76 rfl rfl ?_
        refine j_aln dX10_remove_77 rfl rfl ?_
        refine j_iln dX10_remove_78 rfl rfl ?_
        refine j_V1d mf_X10_placeOf ml_X10_156 dX10_remove_79 (Nat.le_of_ble_eq_true rfl) (Nat.le_of_ble_eq_true rfl) (Nat.le_of_ble_eq_true rfl) ⟨(Nat.le_of_ble_eq_true rfl), (Nat.le_of_ble_eq_true rfl)⟩ (by first | assumption | decide | (simp only [nv] at *; omega)) rfl rfl (c_X10_placeOf (M := reM M) (p := p) (show p < 13 by have := hMV.2.1.2; omega) (by rw [re_t (by omega)]; exact (MV_row hMV hp).1) (fun j hj => by rw [re_t (by omega)]; exact hbf j hj)) ?_
        refine j_V1n mf_X10_takes ml_X10_170 dX10_remove_82 (Nat.le_of_ble_eq_true rfl) (Nat.le_of_ble_eq_true rfl) (Nat.le_of_ble_eq_true rfl) ⟨(Nat.le_of_ble_eq_true rfl), (Nat.le_of_ble_eq_true rfl)⟩ (by first | assumption | decide | (simp only [nv] at *; omega)) rfl rfl (c_X10_takes (M := reM M) hp (by rw [re_12]; exact hMV.2.1.1) hMV.2.1.2) ?_
        refine j_mem (M' := (sI (sI (reM M) 44 (tkR (mI M 44) p (cnt - 1))) 12 (upd (mI (reM M) 12) 6 (nI (cnt - 1))))) (by rw [← re_t (M := M) (t := 44) (by omega)]; first | done | rfl) ?_
        refine j_aln dX10_remove_85 rfl rfl ?_
        refine g_X10_11 dX10_remove_86 fl_X10_32 ?_
        refine j_iln dX10_remove_89 rfl rfl ?_
        refine j_icN 0 dX10_remove_90 rfl ?_
        skip
        refine j_azstN dX10_remove_91 rfl (fun _ => rfl) rfl (by decide) (by have := (MV_row hMV hp).2; omega) (by decide) ?_
        refine j_aln dX10_remove_92 rfl rfl ?_
        refine j_iln dX10_remove_93 rfl rfl ?_
        refine j_ifeqN (tgt := 104) dX10_remove_94 (by decide) (by omega) (fun h94 => ?_) (fun h94 => ?_)
        · exact absurd h94 (by decide)
        · refine j_aln dX10_remove_97 rfl rfl ?_
          refine g_X10_6 dX10_remove_98 fl_X10_131 ?_
          refine j_topi (show _ = nI (cnt - 1) from rfl) ?_
          refine j_goto (tgt := 108) dX10_remove_101 (by decide) ?_
          refine p_X10_7 dX10_remove_108 fl_X10_137 ?_
          refine j_mem (M' := (sI (sI (sI (sI (reM M) 44 (tkR (mI M 44) p (cnt - 1))) 12 (upd (mI (reM M) 12) 6 (nI (cnt - 1)))) 47 (upd (mI M 47) (fr p) (nI 0))) 12 (upd (upd (mI (reM M) 12) 6 (nI (cnt - 1))) 7 (nI (if bar = cnt then cnt - 1 else bar))))) (by rw [hb, ← re_t (M := M) (t := 47) (by omega)]; first | done | rfl) ?_
          have h9 := re_MV hMV
          have h44 : mI (sI (sI (sI (sI (reM M) 44 (tkR (mI M 44) p (cnt - 1))) 12 (upd (mI (reM M) 12) 6 (nI (cnt - 1)))) 47 (upd (mI M 47) (fr p) (nI 0))) 12 (upd (upd (mI (reM M) 12) 6 (nI (cnt - 1))) 7 (nI (if bar = cnt then cnt - 1 else bar)))) 44 = tkR (mI M 44) p (cnt - 1) := by rw [mI_sI, if_neg (by decide), mI_sI, if_neg (by decide), mI_sI, if_neg (by decide), mI_sI, if_pos rfl]
          have h47 : mI (sI (sI (sI (sI (reM M) 44 (tkR (mI M 44) p (cnt - 1))) 12 (upd (mI (reM M) 12) 6 (nI (cnt - 1)))) 47 (upd (mI M 47) (fr p) (nI 0))) 12 (upd (upd (mI (reM M) 12) 6 (nI (cnt - 1))) 7 (nI (if bar = cnt then cnt - 1 else bar)))) 47 = upd (mI M 47) (fr p) (nI 0) := by rw [mI_sI, if_neg (by decide), mI_sI, if_pos rfl]
          have hr : rmP M (sI (sI (sI (sI (reM M) 44 (tkR (mI M 44) p (cnt - 1))) 12 (upd (mI (reM M) 12) 6 (nI (cnt - 1)))) 47 (upd (mI M 47) (fr p) (nI 0))) 12 (upd (upd (mI (reM M) 12) 6 (nI (cnt - 1))) 7 (nI (if bar = cnt then cnt - 1 else bar)))) (fun t => t = 44 ∨ t = 47) := rmP_12 (j := 7) (v := nI (if bar = cnt then cnt - 1 else bar)) (rmP_s (S := fun t => t = 44) (t := 47) (rmP_12 (j := 6) (v := nI (cnt - 1)) (rmP_s (S := fun _ => False) (S' := fun t => t = 44) (t := 44) (f := tkR (mI M 44) p (cnt - 1)) (re_P M) (by omega) rfl (fun _ q => q.elim)) (by omega)) (by omega) (Or.inr rfl) (fun _ q => Or.inl q)) (by omega)
          have hM : MV (sI (sI (sI (sI (reM M) 44 (tkR (mI M 44) p (cnt - 1))) 12 (upd (mI (reM M) 12) 6 (nI (cnt - 1)))) 47 (upd (mI M 47) (fr p) (nI 0))) 12 (upd (upd (mI (reM M) 12) 6 (nI (cnt - 1))) 7 (nI (if bar = cnt then cnt - 1 else bar)))) gv (cnt - 1) (if bar = cnt then cnt - 1 else bar) (tkN fr p (cnt - 1)) := ⟨h9.1, ⟨rfl, by have := hMV.2.1.2; omega⟩, ⟨rfl, by have := hMV.2.2.1.2; split <;> omega⟩, fun k hk => by rw [h44]; exact tk_row hMV hp k hk, tk_inj hMV.2.2.2.2.1, fun u hu => by
              rw [h47, tk_in hp rfl hMV.2.2.2.2.1 u, ← hMV.2.2.2.2.2.1 u hu]
              unfold upd
              by_cases q : u = fr p
              · rw [if_pos q]; exact ⟨fun g => absurd rfl g, fun g => absurd q g.2⟩
              · rw [if_neg q]; exact ⟨fun g => ⟨g, q⟩, fun g => g.1⟩, h9.2.2.2.2.2.2⟩
          refine j_aln dX10_remove_111 rfl rfl ?_
          refine j_V0g mf_X10_carriesOut ml_X10_128 dX10_remove_112 (Nat.le_of_ble_eq_true rfl) (Nat.le_of_ble_eq_true rfl) (Nat.le_of_ble_eq_true rfl) ⟨(Nat.le_of_ble_eq_true rfl), (Nat.le_of_ble_eq_true rfl)⟩ (by first | assumption | decide | (simp only [nv] at *; omega)) rfl rfl (c_coV hr hM hMV.2.1.1 hMV.2.1.2 hMV.2.2.1.1 (by have := hMV.2.2.1.2; have := hMV.2.1.2; omega)) ?_
          intro v M9 hpp
          obtain ⟨hv, hc⟩ := hpp
          subst hv
          refine j_aln dX10_remove_115 rfl rfl ?_
          refine g_X10_6 dX10_remove_116 fl_X10_131 ?_
          refine j_topi (show _ = nI (cnt - 1) from (co_MV hc hM).2.1.1) ?_
          exact j_iret dX10_remove_119 rfl rfl (Nat.le_of_ble_eq_true rfl) (Nat.le_of_ble_eq_true rfl) (Or.inr (Or.inr ⟨hi, hnb, p, hp, rfl, rfl, _, _, rfl, h44, h47, hr, hM, hc⟩))
    have K : ∀ k, k ≤ cnt → (∀ j, j < k → ¬ neX M (fr j) = x) → Jd l E RX10 cX10_remove 3 (some .int) [] (rmm 9 0 0) (QfN E (fun v M1 => (mF M x = false ∧ v = some (.int (nI 0)) ∧ M1 = cdM (c0 M) (nI 1)) ∨ (mF M x = true ∧ (∃ k, k < cnt ∧ neX M (fr k) = x) ∧ v = some (.int (nI 0)) ∧ M1 = cdM (c0 M) (nI 2)) ∨ (mF M x = true ∧ ¬ (∃ k, k < cnt ∧ neX M (fr k) = x) ∧ ∃ p, p < cnt ∧ x = nI (fr p) ∧ v = some (.int (nI (cnt - 1))) ∧ ∃ M2 b2, b2 = (if bar = cnt then cnt - 1 else bar) ∧ mI M2 44 = tkR (mI M 44) p (cnt - 1) ∧ mI M2 47 = upd (mI M 47) (fr p) (nI 0) ∧ rmP M M2 (fun t => t = 44 ∨ t = 47) ∧ MV M2 gv (cnt - 1) b2 (tkN fr p (cnt - 1)) ∧ coM M2 cnt bar b2 (tkN fr p (cnt - 1)) M1)) 0 0) 0 0 21 [some (.ref (eA E 12 0)), some (.int x), some (.int (nI k))] [] (c0 M) := by
      refine up_to cnt _ ?_ (fun k hk ih => ?_)
      · intro hall
        refine j_iln dX10_remove_21 rfl rfl ?_
        refine j_aln dX10_remove_22 rfl rfl ?_
        refine g_X10_6 dX10_remove_23 fl_X10_131 ?_
        refine j_topi (show _ = nI cnt from hMV.2.1.1) ?_
        refine j_icgeN (tgt := 55) dX10_remove_26 (by decide) (by omega) (by omega) (fun h26 => ?_) (fun h26 => ?_)
        · exact T55 hall
        · exact absurd (Nat.le_refl cnt) h26
      · intro hall
        refine j_iln dX10_remove_21 rfl rfl ?_
        refine j_aln dX10_remove_22 rfl rfl ?_
        refine g_X10_6 dX10_remove_23 fl_X10_131 ?_
        refine j_topi (show _ = nI cnt from hMV.2.1.1) ?_
        refine j_icgeN (tgt := 55) dX10_remove_26 (by decide) (by omega) (by omega) (fun h26 => ?_) (fun h26 => ?_)
        · exact absurd h26 (by omega)
        · refine j_aln dX10_remove_29 rfl rfl ?_
          refine j_aln dX10_remove_30 rfl rfl ?_
          refine g_X10_8 dX10_remove_31 fl_X10_23 ?_
          refine j_iln dX10_remove_34 rfl rfl ?_
          refine j_aildN dX10_remove_35 rfl rfl rfl (by decide) (by omega) ?_
          refine j_topi (show _ = nI (fr k) from (MV_row hMV hk).1) ?_
          refine j_V1d mf_X10_needed ml_X10_153 dX10_remove_36 (Nat.le_of_ble_eq_true rfl) (Nat.le_of_ble_eq_true rfl) (Nat.le_of_ble_eq_true rfl) ⟨(Nat.le_of_ble_eq_true rfl), (Nat.le_of_ble_eq_true rfl)⟩ (by first | assumption | decide | (simp only [nv] at *; omega)) rfl rfl (c_X10_needed (M := c0 M) (MV_row hMV hk).2 hMV.1.1 hMV.1.2 (hMV.2.2.2.2.2.2.1 _ (by have := (MV_row hMV hk).2; omega))) ?_
          refine j_iln dX10_remove_39 rfl rfl ?_
          refine j_icne (tgt := 49) dX10_remove_40 (by decide) (fun h40 => ?_) (fun h40 => ?_)
          · have hn : ¬ neX M (fr k) = x := h40
            refine j_incN_2 1 dX10_remove_49 rfl (by decide) rfl ?_
            refine j_goto (tgt := 21) dX10_remove_52 (by decide) ?_
            exact ih (fun j hj => by
              rcases Nat.lt_or_ge j k with h | h
              · exact hall j h
              · rw [show j = k by omega]; exact hn)
          · have hn : neX M (fr k) = x := h40
            refine j_aln dX10_remove_43 rfl rfl ?_
            refine j_icN 2 dX10_remove_44 rfl ?_
            refine j_V1d mf_X10_fails ml_X10_112 dX10_remove_45 (Nat.le_of_ble_eq_true rfl) (Nat.le_of_ble_eq_true rfl) (Nat.le_of_ble_eq_true rfl) ⟨(Nat.le_of_ble_eq_true rfl), (Nat.le_of_ble_eq_true rfl)⟩ (by first | assumption | decide | (simp only [nv] at *; omega)) rfl rfl c_X10_fails ?_
            exact j_iret dX10_remove_48 rfl rfl (Nat.le_of_ble_eq_true rfl) (Nat.le_of_ble_eq_true rfl) (Or.inr (Or.inl ⟨hi, ⟨k, hk, hn⟩, rfl, rfl⟩))
    refine j_icN 0 dX10_remove_19 rfl ?_
    refine j_ist_2 dX10_remove_20 (by decide) rfl ?_
    exact K 0 (by omega) (fun j hj => absurd hj (by omega))
  · have hi : mF M x = false := bI_eq.mp h10
    refine j_aln dX10_remove_13 rfl rfl ?_
    refine j_icN 1 dX10_remove_14 rfl ?_
    refine j_V1d mf_X10_fails ml_X10_112 dX10_remove_15 (Nat.le_of_ble_eq_true rfl) (Nat.le_of_ble_eq_true rfl) (Nat.le_of_ble_eq_true rfl) ⟨(Nat.le_of_ble_eq_true rfl), (Nat.le_of_ble_eq_true rfl)⟩ (by first | assumption | decide | (simp only [nv] at *; omega)) rfl rfl c_X10_fails ?_
    exact j_iret dX10_remove_18 rfl rfl (Nat.le_of_ble_eq_true rfl) (Nat.le_of_ble_eq_true rfl) (Or.inl ⟨hi, rfl, rfl⟩)
