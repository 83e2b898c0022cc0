/-! the model: clashes, bodies, centre, filled -/
theorem cd_cd (M : Mm) (a b : Int32) : cdM (cdM M a) b = cdM M b := by
  show sI (sI M 12 (upd (mI M 12) 0 a)) 12 (upd (upd (mI M 12) 0 a) 0 b) = sI M 12 (upd (mI M 12) 0 b)
  rw [sI_sI]
  refine congrArg (sI M 12) (funext fun j => ?_)
  unfold upd
  split <;> rfl
def clI (M : Mm) (p q i : Nat) : Int32 := clX (nI (alN i 0) + (mI M 60 (3 * p) - mI M 60 (3 * q))) (nI (alN i 1) + (mI M 60 (3 * p + 1) - mI M 60 (3 * q + 1))) (nI (alN i 2) + (mI M 60 (3 * p + 2) - mI M 60 (3 * q + 2)))
def clP (M : Mm) (p q i : Nat) : Bool := !(hcX M p (nI i) && hcX M q (clI M p q i))
theorem clP_t {M : Mm} {p q i : Nat} (h1 : hcX M p (nI i) = true) (h2 : hcX M q (clI M p q i) = true) : ¬ clP M p q i = true := by unfold clP; rw [h1, h2]; decide
theorem clP_1 {M : Mm} {p q i : Nat} (h1 : hcX M p (nI i) = false) : clP M p q i = true := by unfold clP; rw [h1]; rfl
theorem clP_2 {M : Mm} {p q i : Nat} (h1 : hcX M q (clI M p q i) = false) : clP M p q i = true := by unfold clP; rw [h1, Bool.and_false]; rfl
set_option maxRecDepth 100000 in
set_option maxHeartbeats 4000000 in
theorem c_X10_clashes {l : Launch} {E : Ev} {M : Mm} {cnt : Nat} {x y : Int32} (hc : mI M 12 27 = nI cnt) (hc6 : cnt ≤ 6) : Ct l E yX10_clashes cX10_clashes 9 (some .int) 3 0 0 [.ref (eA E 12 0), .int x, .int y] M (fun v M1 => (¬ (inX x (nI 0) (mI M 12 27 - nI 1) = true ∧ inX y (nI 0) (mI M 12 27 - nI 1) = true) ∧ v = some (.int (nI 0)) ∧ M1 = cdM (c0 M) (nI 1)) ∨ ((inX x (nI 0) (mI M 12 27 - nI 1) = true ∧ inX y (nI 0) (mI M 12 27 - nI 1) = true) ∧ x = y ∧ v = some (.int (nI 0)) ∧ M1 = cdM (c0 M) (nI 2)) ∨ ((inX x (nI 0) (mI M 12 27 - nI 1) = true ∧ inX y (nI 0) (mI M 12 27 - nI 1) = true) ∧ ¬ x = y ∧ ∃ p q, p < cnt ∧ q < cnt ∧ x = nI p ∧ y = nI q ∧ v = some (.int (ctK (fun i => clP M p q i = true) 512)) ∧ M1 = c0 M)) := by
  refine Ct.of (own := RX10) rfl [some (.ref (eA E 12 0)), some (.int x), some (.int y), none, none, none, none, none, none] (by decide) (Nat.le_of_ble_eq_true rfl) rfl ?_
  refine j_aln dX10_clashes_0 rfl rfl ?_
  refine j_icN 0 dX10_clashes_1 rfl ?_
  refine p_X10_0 dX10_clashes_2 fl_X10_96 ?_
  refine j_aln dX10_clashes_5 rfl rfl ?_
  refine j_iln dX10_clashes_6 rfl rfl ?_
  refine j_V1d mf_X10_isPart ml_X10_234 dX10_clashes_7 (Nat.le_of_ble_eq_true rfl) (Nat.le_of_ble_eq_true rfl) (Nat.le_of_ble_eq_true rfl) ⟨(Nat.le_of_ble_eq_true rfl), (Nat.le_of_ble_eq_true rfl)⟩ (by first | assumption | decide | (simp only [nv] at *; omega)) rfl rfl c_X10_isPart ?_
  refine j_ifeq (tgt := 21) dX10_clashes_10 (by decide) (fun h10 => ?_) (fun h10 => ?_)
  · have hno : ¬ (inX x (nI 0) (mI M 12 27 - nI 1) = true ∧ inX y (nI 0) (mI M 12 27 - nI 1) = true) := fun q => by have e : inX x (nI 0) (mI M 12 27 - nI 1) = false := bI_eq.mp h10; rw [q.1] at e; exact absurd e (by decide)
    refine j_aln dX10_clashes_21 rfl rfl ?_
    refine j_icN 1 dX10_clashes_22 rfl ?_
    refine j_V1d mf_X10_fails ml_X10_112 dX10_clashes_23 (Nat.le_of_ble_eq_true rfl) (Nat.le_of_ble_eq_true rfl) (Nat.le_of_ble_eq_true rfl) ⟨(Nat.le_of_ble_eq_true rfl), (Nat.le_of_ble_eq_true rfl)⟩ (by first | assumption | decide | (simp only [nv] at *; omega)) rfl rfl c_X10_fails ?_
    exact j_iret dX10_clashes_26 rfl rfl (Nat.le_of_ble_eq_true rfl) (Nat.le_of_ble_eq_true rfl) (Or.inl ⟨hno, rfl, rfl⟩)
  · have hx : inX x (nI 0) (mI M 12 27 - nI 1) = true := bI_ne.mp h10
    refine j_aln dX10_clashes_13 rfl rfl ?_
    refine j_iln dX10_clashes_14 rfl rfl ?_
    refine j_V1d mf_X10_isPart ml_X10_234 dX10_clashes_15 (Nat.le_of_ble_eq_true rfl) (Nat.le_of_ble_eq_true rfl) (Nat.le_of_ble_eq_true rfl) ⟨(Nat.le_of_ble_eq_true rfl), (Nat.le_of_ble_eq_true rfl)⟩ (by first | assumption | decide | (simp only [nv] at *; omega)) rfl rfl c_X10_isPart ?_
    refine j_ifne (tgt := 27) dX10_clashes_18 (by decide) (fun h18 => ?_) (fun h18 => ?_)
    · have hy : inX y (nI 0) (mI M 12 27 - nI 1) = true := bI_ne.mp h18
      refine j_iln dX10_clashes_27 rfl rfl ?_
      refine j_iln dX10_clashes_28 rfl rfl ?_
      refine j_icne (tgt := 38) dX10_clashes_29 (by decide) (fun h29 => ?_) (fun h29 => ?_)
      · have hb : (inX x (nI 0) (mI M 12 27 - nI 1) = true ∧ inX y (nI 0) (mI M 12 27 - nI 1) = true) := ⟨hx, hy⟩
        have hxy := h29
        obtain ⟨p, hp, hxp⟩ := le_gv (gv := cnt) (by omega) (show inX x (nI 0) (nI cnt - nI 1) = true by rw [← hc]; exact hx)
        subst hxp
        obtain ⟨q, hq, hyq⟩ := le_gv (gv := cnt) (by omega) (show inX y (nI 0) (nI cnt - nI 1) = true by rw [← hc]; exact hy)
        subst hyq
        obtain ⟨w, hw⟩ : ∃ w, w = 512 := ⟨512, rfl⟩
        have K : ∀ i, i ≤ w → ∀ (o8 : Option Value), Jd l E RX10 cX10_clashes 9 (some .int) [] (rmm 3 0 0) (QfN E (fun v M1 => (¬ (inX (nI p) (nI 0) (mI M 12 27 - nI 1) = true ∧ inX (nI q) (nI 0) (mI M 12 27 - nI 1) = true) ∧ v = some (.int (nI 0)) ∧ M1 = cdM (c0 M) (nI 1)) ∨ ((inX (nI p) (nI 0) (mI M 12 27 - nI 1) = true ∧ inX (nI q) (nI 0) (mI M 12 27 - nI 1) = true) ∧ nI p = nI q ∧ v = some (.int (nI 0)) ∧ M1 = cdM (c0 M) (nI 2)) ∨ ((inX (nI p) (nI 0) (mI M 12 27 - nI 1) = true ∧ inX (nI q) (nI 0) (mI M 12 27 - nI 1) = true) ∧ ¬ nI p = nI q ∧ ∃ p2 q2, p2 < cnt ∧ q2 < cnt ∧ nI p = nI p2 ∧ nI q = nI q2 ∧ v = some (.int (ctK (fun i => clP M p2 q2 i = true) 512)) ∧ M1 = c0 M)) 0 0) 0 0 108 [some (.ref (eA E 12 0)), some (.int (nI p)), some (.int (nI q)), some (.int (mI M 60 (3 * p) - mI M 60 (3 * q))), some (.int (mI M 60 (3 * p + 1) - mI M 60 (3 * q + 1))), some (.int (mI M 60 (3 * p + 2) - mI M 60 (3 * q + 2))), some (.int (ctK (fun i => clP M p q i = true) i)), some (.int (nI i)), o8] [] (c0 M) := by
          refine up_to w _ ?_ (fun i hi ih => ?_)
          · intro o8
            refine j_il dX10_clashes_108 rfl ?_
            refine j_siN 512 dX10_clashes_110 rfl ?_
            refine j_icgeN (tgt := 183) dX10_clashes_113 (by decide) (by omega) (by omega) (fun h113 => ?_) (fun h113 => ?_)
            · refine j_il dX10_clashes_183 rfl ?_
              exact j_iret dX10_clashes_185 rfl rfl (Nat.le_of_ble_eq_true rfl) (Nat.le_of_ble_eq_true rfl) (Or.inr (Or.inr ⟨hb, hxy, p, q, hp, hq, rfl, rfl, by rw [hw], rfl⟩))
            · exact absurd (Nat.le_of_eq hw.symm) h113
          · intro o8
            have hi5 : i < 512 := by omega
            refine j_il dX10_clashes_108 rfl ?_
            refine j_siN 512 dX10_clashes_110 rfl ?_
            refine j_icgeN (tgt := 183) dX10_clashes_113 (by decide) (by omega) (by omega) (fun h113 => ?_) (fun h113 => ?_)
            · exact absurd h113 (by omega)
            · refine j_il dX10_clashes_116 rfl ?_
              refine j_icN 0 dX10_clashes_118 rfl ?_
              refine j_S2d mf_X10_along ml_X10_177 dX10_clashes_119 (Nat.le_of_ble_eq_true rfl) (Nat.le_of_ble_eq_true rfl) (Nat.le_of_ble_eq_true rfl) ⟨(Nat.le_of_ble_eq_true rfl), (Nat.le_of_ble_eq_true rfl)⟩ (c_X10_along hi5 (by decide)) ?_
              refine j_iln dX10_clashes_122 rfl rfl ?_
              refine j_iadd dX10_clashes_123 ?_
              refine j_il dX10_clashes_124 rfl ?_
              refine j_icN 1 dX10_clashes_126 rfl ?_
              refine j_S2d mf_X10_along ml_X10_177 dX10_clashes_127 (Nat.le_of_ble_eq_true rfl) (Nat.le_of_ble_eq_true rfl) (Nat.le_of_ble_eq_true rfl) ⟨(Nat.le_of_ble_eq_true rfl), (Nat.le_of_ble_eq_true rfl)⟩ (c_X10_along hi5 (by decide)) ?_
              refine j_il dX10_clashes_130 rfl ?_
              refine j_iadd dX10_clashes_132 ?_
              refine j_il dX10_clashes_133 rfl ?_
              refine j_icN 2 dX10_clashes_135 rfl ?_
              refine j_S2d mf_X10_along ml_X10_177 dX10_clashes_136 (Nat.le_of_ble_eq_true rfl) (Nat.le_of_ble_eq_true rfl) (Nat.le_of_ble_eq_true rfl) ⟨(Nat.le_of_ble_eq_true rfl), (Nat.le_of_ble_eq_true rfl)⟩ (c_X10_along hi5 (by decide)) ?_
              refine j_il dX10_clashes_139 rfl ?_
              refine j_iadd dX10_clashes_141 ?_
              refine j_S3d mf_X10_cell ml_X10_180 dX10_clashes_142 (Nat.le_of_ble_eq_true rfl) (Nat.le_of_ble_eq_true rfl) (Nat.le_of_ble_eq_true rfl) ⟨(Nat.le_of_ble_eq_true rfl), (Nat.le_of_ble_eq_true rfl)⟩ c_X10_cell ?_
              refine j_ist_8 dX10_clashes_145 (by decide) rfl ?_
              refine j_il dX10_clashes_147 rfl ?_
              refine j_aln dX10_clashes_149 rfl rfl ?_
              refine j_iln dX10_clashes_150 rfl rfl ?_
              refine j_il dX10_clashes_151 rfl ?_
              refine j_V2d mf_X10_hasCell ml_X10_246 dX10_clashes_153 (Nat.le_of_ble_eq_true rfl) (Nat.le_of_ble_eq_true rfl) (Nat.le_of_ble_eq_true rfl) ⟨(Nat.le_of_ble_eq_true rfl), (Nat.le_of_ble_eq_true rfl)⟩ (by first | assumption | decide | (simp only [nv] at *; omega)) rfl rfl (c_X10_hasCell (M := c0 M) (show p < 6 by omega) (fun _ => ⟨i, hi5, rfl⟩)) ?_
              refine j_ifeq (tgt := 173) dX10_clashes_156 (by decide) (fun h156 => ?_) (fun h156 => ?_)
              · have hg : ctK (fun i => clP M p q i = true) (i + 1) = ctK (fun i => clP M p q i = true) i + nI 0 := ctK_t (P := fun i => clP M p q i = true) (clP_1 (bI_eq.mp h156))
                refine j_icN 0 dX10_clashes_173 rfl ?_
                refine j_iadd dX10_clashes_174 ?_
                refine j_ist_6 dX10_clashes_175 (by decide) rfl ?_
                refine j_incN_7 1 dX10_clashes_177 rfl (by decide) rfl ?_
                refine j_goto (tgt := 108) dX10_clashes_180 (by decide) ?_
                have ihi := ih (some (.int (clI M p q i)))
                rw [hg] at ihi
                exact ihi
              · refine j_aln dX10_clashes_159 rfl rfl ?_
                refine j_iln dX10_clashes_160 rfl rfl ?_
                refine j_il dX10_clashes_161 rfl ?_
                refine j_V2d mf_X10_hasCell ml_X10_246 dX10_clashes_163 (Nat.le_of_ble_eq_true rfl) (Nat.le_of_ble_eq_true rfl) (Nat.le_of_ble_eq_true rfl) ⟨(Nat.le_of_ble_eq_true rfl), (Nat.le_of_ble_eq_true rfl)⟩ (by first | assumption | decide | (simp only [nv] at *; omega)) rfl rfl (c_X10_hasCell (M := c0 M) (show q < 6 by omega) (fun z => clX_n z)) ?_
                refine j_ifeq (tgt := 173) dX10_clashes_166 (by decide) (fun h166 => ?_) (fun h166 => ?_)
                · have hg : ctK (fun i => clP M p q i = true) (i + 1) = ctK (fun i => clP M p q i = true) i + nI 0 := ctK_t (P := fun i => clP M p q i = true) (clP_2 (bI_eq.mp h166))
                  refine j_icN 0 dX10_clashes_173 rfl ?_
                  refine j_iadd dX10_clashes_174 ?_
                  refine j_ist_6 dX10_clashes_175 (by decide) rfl ?_
                  refine j_incN_7 1 dX10_clashes_177 rfl (by decide) rfl ?_
                  refine j_goto (tgt := 108) dX10_clashes_180 (by decide) ?_
                  have ihi := ih (some (.int (clI M p q i)))
                  rw [hg] at ihi
                  exact ihi
                · have hg : ctK (fun i => clP M p q i = true) (i + 1) = ctK (fun i => clP M p q i = true) i + nI 1 := ctK_f (P := fun i => clP M p q i = true) (clP_t (bI_ne.mp h156) (bI_ne.mp h166))
                  refine j_icN 1 dX10_clashes_169 rfl ?_
                  refine j_goto (tgt := 174) dX10_clashes_170 (by decide) ?_
                  refine j_iadd dX10_clashes_174 ?_
                  refine j_ist_6 dX10_clashes_175 (by decide) rfl ?_
                  refine j_incN_7 1 dX10_clashes_177 rfl (by decide) rfl ?_
                  refine j_goto (tgt := 108) dX10_clashes_180 (by decide) ?_
                  have ihi := ih (some (.int (clI M p q i)))
                  rw [hg] at ihi
                  exact ihi
        refine j_aln dX10_clashes_38 rfl rfl ?_
        refine g_X10_28 dX10_clashes_39 fl_X10_72 ?_
        refine j_icN 3 dX10_clashes_42 rfl ?_
        refine j_iln dX10_clashes_43 rfl rfl ?_
        refine j_imulN dX10_clashes_44 ?_
        refine j_aildN dX10_clashes_45 rfl rfl rfl (by decide) (by omega) ?_
        refine j_aln dX10_clashes_46 rfl rfl ?_
        refine g_X10_28 dX10_clashes_47 fl_X10_72 ?_
        refine j_icN 3 dX10_clashes_50 rfl ?_
        refine j_iln dX10_clashes_51 rfl rfl ?_
        refine j_imulN dX10_clashes_52 ?_
        refine j_aildN dX10_clashes_53 rfl rfl rfl (by decide) (by omega) ?_
        refine j_isub dX10_clashes_54 ?_
        refine j_ist_3 dX10_clashes_55 (by decide) rfl ?_
        refine j_aln dX10_clashes_56 rfl rfl ?_
        refine g_X10_28 dX10_clashes_57 fl_X10_72 ?_
        refine j_icN 3 dX10_clashes_60 rfl ?_
        refine j_iln dX10_clashes_61 rfl rfl ?_
        refine j_imulN dX10_clashes_62 ?_
        refine j_icN 1 dX10_clashes_63 rfl ?_
        refine j_iaddN dX10_clashes_64 ?_
        refine j_aildN dX10_clashes_65 rfl rfl rfl (by decide) (by omega) ?_
        refine j_aln dX10_clashes_66 rfl rfl ?_
        refine g_X10_28 dX10_clashes_67 fl_X10_72 ?_
        refine j_icN 3 dX10_clashes_70 rfl ?_
        refine j_iln dX10_clashes_71 rfl rfl ?_
        refine j_imulN dX10_clashes_72 ?_
        refine j_icN 1 dX10_clashes_73 rfl ?_
        refine j_iaddN dX10_clashes_74 ?_
        refine j_aildN dX10_clashes_75 rfl rfl rfl (by decide) (by omega) ?_
        refine j_isub dX10_clashes_76 ?_
        refine j_ist_4 dX10_clashes_77 (by decide) rfl ?_
        refine j_aln dX10_clashes_79 rfl rfl ?_
        refine g_X10_28 dX10_clashes_80 fl_X10_72 ?_
        refine j_icN 3 dX10_clashes_83 rfl ?_
        refine j_iln dX10_clashes_84 rfl rfl ?_
        refine j_imulN dX10_clashes_85 ?_
        refine j_icN 2 dX10_clashes_86 rfl ?_
        refine j_iaddN dX10_clashes_87 ?_
        refine j_aildN dX10_clashes_88 rfl rfl rfl (by decide) (by omega) ?_
        refine j_aln dX10_clashes_89 rfl rfl ?_
        refine g_X10_28 dX10_clashes_90 fl_X10_72 ?_
        refine j_icN 3 dX10_clashes_93 rfl ?_
        refine j_iln dX10_clashes_94 rfl rfl ?_
        refine j_imulN dX10_clashes_95 ?_
        refine j_icN 2 dX10_clashes_96 rfl ?_
        refine j_iaddN dX10_clashes_97 ?_
        refine j_aildN dX10_clashes_98 rfl rfl rfl (by decide) (by omega) ?_
        refine j_isub dX10_clashes_99 ?_
        refine j_ist_5 dX10_clashes_100 (by decide) rfl ?_
        refine j_icN 0 dX10_clashes_102 rfl ?_
        refine j_ist_6 dX10_clashes_103 (by decide) rfl ?_
        refine j_icN 0 dX10_clashes_105 rfl ?_
        refine j_ist_7 dX10_clashes_106 (by decide) rfl ?_
        have K0 := K 0 (by omega) none
        rw [ctK_0] at K0
        exact K0
      · refine j_aln dX10_clashes_32 rfl rfl ?_
        refine j_icN 2 dX10_clashes_33 rfl ?_
        refine j_V1d mf_X10_fails ml_X10_112 dX10_clashes_34 (Nat.le_of_ble_eq_true rfl) (Nat.le_of_ble_eq_true rfl) (Nat.le_of_ble_eq_true rfl) ⟨(Nat.le_of_ble_eq_true rfl), (Nat.le_of_ble_eq_true rfl)⟩ (by first | assumption | decide | (simp only [nv] at *; omega)) rfl rfl c_X10_fails ?_
        exact j_iret dX10_clashes_37 rfl rfl (Nat.le_of_ble_eq_true rfl) (Nat.le_of_ble_eq_true rfl) (Or.inr (Or.inl ⟨⟨hx, hy⟩, h29, rfl, rfl⟩))
    · have hno : ¬ (inX x (nI 0) (mI M 12 27 - nI 1) = true ∧ inX y (nI 0) (mI M 12 27 - nI 1) = true) := fun q => by have e : inX y (nI 0) (mI M 12 27 - nI 1) = false := bI_eq.mp h18; rw [q.2] at e; exact absurd e (by decide)
      refine j_aln dX10_clashes_21 rfl rfl ?_
      refine j_icN 1 dX10_clashes_22 rfl ?_
      refine j_V1d mf_X10_fails ml_X10_112 dX10_clashes_23 (Nat.le_of_ble_eq_true rfl) (Nat.le_of_ble_eq_true rfl) (Nat.le_of_ble_eq_true rfl) ⟨(Nat.le_of_ble_eq_true rfl), (Nat.le_of_ble_eq_true rfl)⟩ (by first | assumption | decide | (simp only [nv] at *; omega)) rfl rfl c_X10_fails ?_
      exact j_iret dX10_clashes_26 rfl rfl (Nat.le_of_ble_eq_true rfl) (Nat.le_of_ble_eq_true rfl) (Or.inl ⟨hno, rfl, rfl⟩)
set_option maxRecDepth 100000 in
set_option maxHeartbeats 4000000 in
theorem c_X10_bodies {l : Launch} {E : Ev} {M : Mm}  (h54 : bz5 (mI M 54)) : Ct l E yX10_bodies cX10_bodies 2 (some .int) 6 0 0 [.ref (eA E 12 0)] M (fun v M1 => v = some (.int (nI (npc (fun y => ¬ mI M 54 y = 0)))) ∧ mFr (c0 M) M1 (fun t => t = 55 ∨ t = 57 ∨ t = 67)) := by
  refine Ct.of (own := RX10) rfl [some (.ref (eA E 12 0)), none] (by decide) (Nat.le_of_ble_eq_true rfl) rfl ?_
  obtain ⟨w, hw⟩ : ∃ w, w = 512 := ⟨512, rfl⟩
  have hm : ∀ j, j < 512 → mI (sI (c0 M) 57 (cpR (mI M 54) (mI M 57) w)) 57 j = mI M 54 j := fun j hj => cpR_lt (mI M 54) (mI M 57) (by omega)
  have K : ∀ i, i ≤ w → Jd l E RX10 cX10_bodies 2 (some .int) [] (rmm 6 0 0) (QfN E (fun v M1 => v = some (.int (nI (npc (fun y => ¬ mI M 54 y = 0)))) ∧ mFr (c0 M) M1 (fun t => t = 55 ∨ t = 57 ∨ t = 67)) 0 0) 0 0 7 [some (.ref (eA E 12 0)), some (.int (nI i))] [] (sI (c0 M) 57 (cpR (mI M 54) (mI M 57) i)) := by
    refine up_to w _ ?_ (fun i hi ih => ?_)
    · skip
      refine j_iln dX10_bodies_7 rfl rfl ?_
      refine j_siN 512 dX10_bodies_8 rfl ?_
      refine j_icgeN (tgt := 32) dX10_bodies_11 (by decide) (by omega) (by omega) (fun h11 => ?_) (fun h11 => ?_)
      · refine j_aln dX10_bodies_32 rfl rfl ?_
        refine j_V0g mf_X10_pieces ml_X10_191 dX10_bodies_33 (Nat.le_of_ble_eq_true rfl) (Nat.le_of_ble_eq_true rfl) (Nat.le_of_ble_eq_true rfl) ⟨(Nat.le_of_ble_eq_true rfl), (Nat.le_of_ble_eq_true rfl)⟩ (by first | assumption | decide | (simp only [nv] at *; omega)) rfl rfl (c_X10_pieces (M := (sI (c0 M) 57 (cpR (mI M 54) (mI M 57) w))) (fun j hj => by rw [hm j hj]; exact h54 j hj)) ?_
        intro v M9 hpp
        obtain ⟨hv, hf⟩ := hpp
        subst hv
        rw [show npc (fun y => ¬ mI (sI (c0 M) 57 (cpR (mI M 54) (mI M 57) w)) 57 y = 0) = npc (fun y => ¬ mI M 54 y = 0) from npc_ex fun j hj => by show ¬ mI (sI (c0 M) 57 (cpR (mI M 54) (mI M 57) w)) 57 j = 0 ↔ _; rw [hm j hj]]
        exact j_iret dX10_bodies_36 rfl rfl (Nat.le_of_ble_eq_true rfl) (Nat.le_of_ble_eq_true rfl) ⟨rfl, hf.1, fun t ht => (hf.2 t (fun q => ht (by omega))).trans (by rw [mI_sI, if_neg (fun q => ht (by omega))])⟩
      · exact absurd (Nat.le_of_eq hw.symm) h11
    · skip
      refine j_iln dX10_bodies_7 rfl rfl ?_
      refine j_siN 512 dX10_bodies_8 rfl ?_
      refine j_icgeN (tgt := 32) dX10_bodies_11 (by decide) (by omega) (by omega) (fun h11 => ?_) (fun h11 => ?_)
      · exact absurd h11 (by omega)
      · refine j_aln dX10_bodies_14 rfl rfl ?_
        refine g_X10_24 dX10_bodies_15 fl_X10_63 ?_
        refine j_iln dX10_bodies_18 rfl rfl ?_
        refine j_aln dX10_bodies_19 rfl rfl ?_
        refine g_X10_21 dX10_bodies_20 fl_X10_54 ?_
        refine j_iln dX10_bodies_23 rfl rfl ?_
        refine j_azldN dX10_bodies_24 rfl rfl rfl (by decide) (by omega) ?_
        refine j_azstN dX10_bodies_25 rfl (fun _ => rfl) rfl (by decide) (by omega) (vpb (h54 i (by omega))) ?_
        refine j_incN_1 1 dX10_bodies_26 rfl (by decide) rfl ?_
        refine j_goto (tgt := 7) dX10_bodies_29 (by decide) ?_
        refine j_mem ?_ ih
        rw [cpR_s, sI_sI]
        rfl
  refine j_aln dX10_bodies_0 rfl rfl ?_
  refine j_icN 0 dX10_bodies_1 rfl ?_
  refine p_X10_0 dX10_bodies_2 fl_X10_96 ?_
  refine j_icN 0 dX10_bodies_5 rfl ?_
  refine j_ist_1 dX10_bodies_6 (by decide) rfl ?_
  have K0 := K 0 (by omega)
  rw [cpR_0] at K0
  refine j_mem ?_ K0
  exact (sI_id (c0 M) 57).symm
set_option maxRecDepth 100000 in
set_option maxHeartbeats 4000000 in
theorem c_X10_filled {l : Launch} {E : Ev} {M : Mm}  (hn : vf_n32 (FP.fdiv (FP.i2f (ctK (fun i => mI M 54 i = 0) 512)) 1140850688)) : Ct l E yX10_filled cX10_filled 1 (some .float) 2 0 0 [.ref (eA E 12 0)] M (dv (.float (FP.fdiv (FP.i2f (ctK (fun i => mI M 54 i = 0) 512)) 1140850688)) (c0 M)) := by
  refine Ct.of (own := RX10) rfl [some (.ref (eA E 12 0))] (by decide) (Nat.le_of_ble_eq_true rfl) rfl ?_
  refine j_aln dX10_filled_0 rfl rfl ?_
  refine j_V0d mf_X10_volume ml_X10_227 dX10_filled_1 (Nat.le_of_ble_eq_true rfl) (Nat.le_of_ble_eq_true rfl) (Nat.le_of_ble_eq_true rfl) ⟨(Nat.le_of_ble_eq_true rfl), (Nat.le_of_ble_eq_true rfl)⟩ (by first | assumption | decide | (simp only [nv] at *; omega)) rfl rfl c_X10_volume ?_
  refine j_i2f dX10_filled_4 ?_
  refine j_ldcf dX10_filled_5 cn_X10_230 ?_
  refine j_fdiv dX10_filled_7 hn ?_
  exact j_fret dX10_filled_8 rfl (Nat.le_of_ble_eq_true rfl) (Nat.le_of_ble_eq_true rfl) ⟨rfl, rfl⟩
def smC (M : Mm) (a : Nat) : Nat → Int32
  | 0 => nI 0
  | i + 1 => smC M a i + (if mI M 54 i = 0 then nI 0 else nI (alN i a))
theorem smC_0 (M : Mm) (a : Nat) : smC M a 0 = nI 0 := by rw [smC]
theorem smC_z {M : Mm} {a i : Nat} (h : mI M 54 i = 0) : smC M a (i + 1) = smC M a i + nI 0 := by rw [smC, if_pos h]
theorem smC_s {M : Mm} {a i : Nat} (h : ¬ mI M 54 i = 0) : smC M a (i + 1) = smC M a i + nI (alN i a) := by rw [smC, if_neg h]
set_option maxRecDepth 100000 in
set_option maxHeartbeats 4000000 in
theorem c_X10_centre {l : Launch} {E : Ev} {M : Mm} {x : Int32} (hn : ¬ (ctK (fun i => mI M 54 i = 0) 512) = 0 → vf_n64 (FP.ddiv (FP.i2d (smC M (ntX x) 512)) (FP.i2d (ctK (fun i => mI M 54 i = 0) 512)))) : Ct l E yX10_centre cX10_centre 5 (some .double) 2 0 0 [.ref (eA E 12 0), .int x] M (fun v M1 => (in2 x = false ∧ v = some (.double 0) ∧ M1 = cdM M (nI 1)) ∨ (in2 x = true ∧ (ctK (fun i => mI M 54 i = 0) 512) = 0 ∧ v = some (.double 0) ∧ M1 = cdM M (nI 2)) ∨ (in2 x = true ∧ ¬ (ctK (fun i => mI M 54 i = 0) 512) = 0 ∧ v = some (.double (FP.ddiv (FP.i2d (smC M (ntX x) 512)) (FP.i2d (ctK (fun i => mI M 54 i = 0) 512)))) ∧ M1 = c0 M)) := by
  refine Ct.of (own := RX10) rfl [some (.ref (eA E 12 0)), some (.int x), none, none, none] (by decide) (Nat.le_of_ble_eq_true rfl) rfl ?_
  refine j_aln dX10_centre_0 rfl rfl ?_
  refine j_iln dX10_centre_1 rfl rfl ?_
  refine j_icN 0 dX10_centre_2 rfl ?_
  refine j_icN 2 dX10_centre_3 rfl ?_
  refine j_S3d mf_X10_in ml_X10_100 dX10_centre_4 (Nat.le_of_ble_eq_true rfl) (Nat.le_of_ble_eq_true rfl) (Nat.le_of_ble_eq_true rfl) ⟨(Nat.le_of_ble_eq_true rfl), (Nat.le_of_ble_eq_true rfl)⟩ c_X10_in ?_
  refine j_ifne (tgt := 14) dX10_centre_7 (by decide) (fun h7 => ?_) (fun h7 => ?_)
  · have hi : in2 x = true := bI_ne.mp h7
    refine j_icN 0 dX10_centre_14 rfl ?_
    refine p_X10_0 dX10_centre_15 fl_X10_96 ?_
    refine j_aln dX10_centre_18 rfl rfl ?_
    refine g_X10_0 dX10_centre_19 fl_X10_96 ?_
    refine j_ifle (tgt := 27) dX10_centre_22 (by decide) (fun h22 => ?_) (fun h22 => ?_)
    · obtain ⟨a, ha, hxa⟩ := in2_n hi
      subst hxa
      have hna : ntX (nI a) = a := ntX_nI (by omega)
      rw [hna] at hn
      obtain ⟨w, hw⟩ : ∃ w, w = 512 := ⟨512, rfl⟩
      have K : ∀ i, i ≤ w → Jd l E RX10 cX10_centre 5 (some .double) [] (rmm 2 0 0) (QfN E (fun v M1 => (in2 (nI a) = false ∧ v = some (.double 0) ∧ M1 = cdM M (nI 1)) ∨ (in2 (nI a) = true ∧ (ctK (fun i => mI M 54 i = 0) 512) = 0 ∧ v = some (.double 0) ∧ M1 = cdM M (nI 2)) ∨ (in2 (nI a) = true ∧ ¬ (ctK (fun i => mI M 54 i = 0) 512) = 0 ∧ v = some (.double (FP.ddiv (FP.i2d (smC M (ntX (nI a)) 512)) (FP.i2d (ctK (fun i => mI M 54 i = 0) 512)))) ∧ M1 = c0 M)) 0 0) 0 0 37 [some (.ref (eA E 12 0)), some (.int (nI a)), some (.int (smC M a i)), some (.int (ctK (fun i => mI M 54 i = 0) 512)), some (.int (nI i))] [] (cdM (cdM M (nI 0)) (nI 0)) := by
        refine up_to w _ ?_ (fun i hi9 ih => ?_)
        · skip
          refine j_il dX10_centre_37 rfl ?_
          refine j_siN 512 dX10_centre_39 rfl ?_
          refine j_icgeN (tgt := 74) dX10_centre_42 (by decide) (by omega) (by omega) (fun h42 => ?_) (fun h42 => ?_)
          · refine j_aln dX10_centre_74 rfl rfl ?_
            refine j_iln dX10_centre_75 rfl rfl ?_
            refine j_ifne (tgt := 83) dX10_centre_76 (by decide) (fun h76 => ?_) (fun h76 => ?_)
            · refine j_icN 0 dX10_centre_83 rfl ?_
              refine p_X10_0 dX10_centre_84 fl_X10_96 ?_
              refine j_aln dX10_centre_87 rfl rfl ?_
              refine g_X10_0 dX10_centre_88 fl_X10_96 ?_
              refine j_ifle (tgt := 98) dX10_centre_91 (by decide) (fun h91 => ?_) (fun h91 => ?_)
              · refine j_iln dX10_centre_98 rfl rfl ?_
                refine j_i2d dX10_centre_99 ?_
                refine j_iln dX10_centre_100 rfl rfl ?_
                refine j_i2d dX10_centre_101 ?_
                refine j_ddiv dX10_centre_102 (by rw [hw]; exact hn h76) ?_
                exact j_dret dX10_centre_103 rfl (Nat.le_of_ble_eq_true rfl) (Nat.le_of_ble_eq_true rfl) (Or.inr (Or.inr ⟨hi, h76, by rw [hw, hna], by rw [cd_cd]; exact cd_cd M (nI 0) (nI 0)⟩))
              · exact absurd (show nI 0 ≤ 0 by decide) h91
            · refine j_icN 2 dX10_centre_79 rfl ?_
              refine j_goto (tgt := 84) dX10_centre_80 (by decide) ?_
              refine p_X10_0 dX10_centre_84 fl_X10_96 ?_
              refine j_aln dX10_centre_87 rfl rfl ?_
              refine g_X10_0 dX10_centre_88 fl_X10_96 ?_
              refine j_ifle (tgt := 98) dX10_centre_91 (by decide) (fun h91 => ?_) (fun h91 => ?_)
              · exact absurd (show nI 2 ≤ 0 from h91) (by decide)
              · refine j_dc0 dX10_centre_94 ?_
                refine j_goto (tgt := 103) dX10_centre_95 (by decide) ?_
                exact j_dret dX10_centre_103 rfl (Nat.le_of_ble_eq_true rfl) (Nat.le_of_ble_eq_true rfl) (Or.inr (Or.inl ⟨hi, h76, rfl, by rw [cd_cd]; exact cd_cd M (nI 0) (nI 2)⟩))
          · exact absurd (Nat.le_of_eq hw.symm) h42
        · have hi5 : i < 512 := by omega
          refine j_il dX10_centre_37 rfl ?_
          refine j_siN 512 dX10_centre_39 rfl ?_
          refine j_icgeN (tgt := 74) dX10_centre_42 (by decide) (by omega) (by omega) (fun h42 => ?_) (fun h42 => ?_)
          · exact absurd h42 (by omega)
          · refine j_iln dX10_centre_45 rfl rfl ?_
            refine j_aln dX10_centre_46 rfl rfl ?_
            refine g_X10_21 dX10_centre_47 fl_X10_54 ?_
            refine j_il dX10_centre_50 rfl ?_
            refine j_azldN dX10_centre_52 rfl rfl rfl (by decide) (by omega) ?_
            refine j_ifeq (tgt := 65) dX10_centre_53 (by decide) (fun h53 => ?_) (fun h53 => ?_)
            · have hg := smC_z (M := M) (a := a) h53
              refine j_icN 0 dX10_centre_65 rfl ?_
              refine j_iadd dX10_centre_66 ?_
              refine j_ist_2 dX10_centre_67 (by decide) rfl ?_
              refine j_incN_4 1 dX10_centre_68 rfl (by decide) rfl ?_
              refine j_goto (tgt := 37) dX10_centre_71 (by decide) ?_
              rw [hg] at ih
              exact ih
            · have hg := smC_s (M := M) (a := a) h53
              refine j_il dX10_centre_56 rfl ?_
              refine j_iln dX10_centre_58 rfl rfl ?_
              refine j_S2d mf_X10_along ml_X10_177 dX10_centre_59 (Nat.le_of_ble_eq_true rfl) (Nat.le_of_ble_eq_true rfl) (Nat.le_of_ble_eq_true rfl) ⟨(Nat.le_of_ble_eq_true rfl), (Nat.le_of_ble_eq_true rfl)⟩ (c_X10_along hi5 ha) ?_
              refine j_goto (tgt := 66) dX10_centre_62 (by decide) ?_
              refine j_iadd dX10_centre_66 ?_
              refine j_ist_2 dX10_centre_67 (by decide) rfl ?_
              refine j_incN_4 1 dX10_centre_68 rfl (by decide) rfl ?_
              refine j_goto (tgt := 37) dX10_centre_71 (by decide) ?_
              rw [hg] at ih
              exact ih
      refine j_icN 0 dX10_centre_27 rfl ?_
      refine j_ist_2 dX10_centre_28 (by decide) rfl ?_
      refine j_aln dX10_centre_29 rfl rfl ?_
      refine j_V0d mf_X10_volume ml_X10_227 dX10_centre_30 (Nat.le_of_ble_eq_true rfl) (Nat.le_of_ble_eq_true rfl) (Nat.le_of_ble_eq_true rfl) ⟨(Nat.le_of_ble_eq_true rfl), (Nat.le_of_ble_eq_true rfl)⟩ (by first | assumption | decide | (simp only [nv] at *; omega)) rfl rfl (c_X10_volume (M := cdM M (nI 0))) ?_
      refine j_ist_3 dX10_centre_33 (by decide) rfl ?_
      refine j_icN 0 dX10_centre_34 rfl ?_
      refine j_ist_4 dX10_centre_35 (by decide) rfl ?_
      have K0 := K 0 (by omega)
      rw [smC_0] at K0
      exact K0
    · exact absurd (show nI 0 ≤ 0 by decide) h22
  · have hi : in2 x = false := bI_eq.mp h7
    refine j_icN 1 dX10_centre_10 rfl ?_
    refine j_goto (tgt := 15) dX10_centre_11 (by decide) ?_
    refine p_X10_0 dX10_centre_15 fl_X10_96 ?_
    refine j_aln dX10_centre_18 rfl rfl ?_
    refine g_X10_0 dX10_centre_19 fl_X10_96 ?_
    refine j_ifle (tgt := 27) dX10_centre_22 (by decide) (fun h22 => ?_) (fun h22 => ?_)
    · exact absurd (show nI 1 ≤ 0 from h22) (by decide)
    · refine j_dc0 dX10_centre_25 ?_
      exact j_dret dX10_centre_26 rfl (Nat.le_of_ble_eq_true rfl) (Nat.le_of_ble_eq_true rfl) (Or.inl ⟨hi, rfl, rfl⟩)
