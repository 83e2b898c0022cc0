/-! the model: mate -/
def maT (M : Mm) (mc a p : Nat) : Nat → Int32 := tiE M mc (nI a) (mI M 66) p
def maY (M : Mm) (a p : Nat) (y d : Int32) : Int32 := d + (if y = -1 then nI 0 else mI M 60 (3 * ntX y + a)) - mI M 60 (3 * p + a)
def maZ (M : Mm) (mc a p : Nat) (y : Int32) : Mm := sI (sI (sI (sI M 63 (upd (mI M 63) mc (nI a))) 64 (upd (mI M 64) mc (nI p))) 65 (upd (mI M 65) mc y)) 12 (upd (mI M 12) 31 (nI (mc + 1)))
set_option maxRecDepth 100000 in
set_option maxHeartbeats 4000000 in
theorem c_X10_mate {l : Launch} {E : Ev} {M : Mm} {cnt mc : Nat} {ax x y d : Int32} (hc : mI M 12 27 = nI cnt) (hc6 : cnt ≤ 6) (hmc : mI M 12 31 = nI mc) (hmc12 : mc ≤ 12) (hm : mtP M mc) : Ct l E yX10_mate cX10_mate 8 (some .int) 4 0 0 [.ref (eA E 12 0), .int ax, .int x, .int y, .int d] M (fun v M1 => (¬ (inX x (nI 0) (mI M 12 27 - nI 1) = true ∧ (y = -1 ∨ inX y (nI 0) (mI M 12 27 - nI 1) = true)) ∧ v = some (.int (nI 0)) ∧ M1 = cdM (c0 M) (nI 1)) ∨ ((inX x (nI 0) (mI M 12 27 - nI 1) = true ∧ (y = -1 ∨ inX y (nI 0) (mI M 12 27 - nI 1) = true)) ∧ ¬ (in2 ax = true ∧ ¬ x = y ∧ inX d (-20) (nI 20) = true) ∧ v = some (.int (nI 0)) ∧ M1 = cdM (c0 M) (nI 2)) ∨ ((inX x (nI 0) (mI M 12 27 - nI 1) = true ∧ (y = -1 ∨ inX y (nI 0) (mI M 12 27 - nI 1) = true)) ∧ (in2 ax = true ∧ ¬ x = y ∧ inX d (-20) (nI 20) = true) ∧ ∃ p a, p < cnt ∧ a < 3 ∧ x = nI p ∧ ax = nI a ∧ ((¬ (maT M mc a p) (tgX y) = 0 ∧ v = some (.int (nI 0)) ∧ M1 = cdM (sI (c0 M) 66 (maT M mc a p)) (nI 3)) ∨ ((maT M mc a p) (tgX y) = 0 ∧ mc = 12 ∧ v = some (.int (nI 0)) ∧ M1 = cdM (sI (c0 M) 66 (maT M mc a p)) (nI 4)) ∨ ((maT M mc a p) (tgX y) = 0 ∧ ¬ mc = 12 ∧ (((maY M a p y d) = 0 ∧ v = some (.int (nI 0)) ∧ M1 = maZ (sI (c0 M) 66 (maT M mc a p)) mc a p y) ∨ (¬ (maY M a p y d) = 0 ∧ ¬ (maT M mc a p) 6 = 0 ∧ v = some (.int (ctK (fun i => (tiE M mc (nI a) (maT M mc a p) (ntX y)) i = 0) cnt)) ∧ M1 = maZ (sI (sI (c0 M) 66 (tiE M mc (nI a) (maT M mc a p) (ntX y))) 60 (smR (mI M 60) (tiE M mc (nI a) (maT M mc a p) (ntX y)) a (-(maY M a p y d)) cnt)) mc a p y) ∨ (¬ (maY M a p y d) = 0 ∧ (maT M mc a p) 6 = 0 ∧ v = some (.int (ctK (fun i => (maT M mc a p) i = 0) cnt)) ∧ M1 = maZ (sI (sI (c0 M) 66 (maT M mc a p)) 60 (smR (mI M 60) (maT M mc a p) a (maY M a p y d) cnt)) mc a p y)))))) := by
  refine Ct.of (own := RX10) rfl [some (.ref (eA E 12 0)), some (.int ax), some (.int x), some (.int y), some (.int d), none, none, none] (by decide) (Nat.le_of_ble_eq_true rfl) rfl ?_
  have T64 : (inX x (nI 0) (mI M 12 27 - nI 1) = true ∧ (y = -1 ∨ inX y (nI 0) (mI M 12 27 - nI 1) = true)) → (in2 ax = true ∧ ¬ x = y ∧ inX d (-20) (nI 20) = true) → Jd l E RX10 cX10_mate 8 (some .int) [] (rmm 4 0 0) (QfN E (fun v M1 => (¬ (inX x (nI 0) (mI M 12 27 - nI 1) = true ∧ (y = -1 ∨ inX y (nI 0) (mI M 12 27 - nI 1) = true)) ∧ v = some (.int (nI 0)) ∧ M1 = cdM (c0 M) (nI 1)) ∨ ((inX x (nI 0) (mI M 12 27 - nI 1) = true ∧ (y = -1 ∨ inX y (nI 0) (mI M 12 27 - nI 1) = true)) ∧ ¬ (in2 ax = true ∧ ¬ x = y ∧ inX d (-20) (nI 20) = true) ∧ v = some (.int (nI 0)) ∧ M1 = cdM (c0 M) (nI 2)) ∨ ((inX x (nI 0) (mI M 12 27 - nI 1) = true ∧ (y = -1 ∨ inX y (nI 0) (mI M 12 27 - nI 1) = true)) ∧ (in2 ax = true ∧ ¬ x = y ∧ inX d (-20) (nI 20) = true) ∧ ∃ p a, p < cnt ∧ a < 3 ∧ x = nI p ∧ ax = nI a ∧ ((¬ (maT M mc a p) (tgX y) = 0 ∧ v = some (.int (nI 0)) ∧ M1 = cdM (sI (c0 M) 66 (maT M mc a p)) (nI 3)) ∨ ((maT M mc a p) (tgX y) = 0 ∧ mc = 12 ∧ v = some (.int (nI 0)) ∧ M1 = cdM (sI (c0 M) 66 (maT M mc a p)) (nI 4)) ∨ ((maT M mc a p) (tgX y) = 0 ∧ ¬ mc = 12 ∧ (((maY M a p y d) = 0 ∧ v = some (.int (nI 0)) ∧ M1 = maZ (sI (c0 M) 66 (maT M mc a p)) mc a p y) ∨ (¬ (maY M a p y d) = 0 ∧ ¬ (maT M mc a p) 6 = 0 ∧ v = some (.int (ctK (fun i => (tiE M mc (nI a) (maT M mc a p) (ntX y)) i = 0) cnt)) ∧ M1 = maZ (sI (sI (c0 M) 66 (tiE M mc (nI a) (maT M mc a p) (ntX y))) 60 (smR (mI M 60) (tiE M mc (nI a) (maT M mc a p) (ntX y)) a (-(maY M a p y d)) cnt)) mc a p y) ∨ (¬ (maY M a p y d) = 0 ∧ (maT M mc a p) 6 = 0 ∧ v = some (.int (ctK (fun i => (maT M mc a p) i = 0) cnt)) ∧ M1 = maZ (sI (sI (c0 M) 66 (maT M mc a p)) 60 (smR (mI M 60) (maT M mc a p) a (maY M a p y d) cnt)) mc a p y)))))) 0 0) 0 0 64 [some (.ref (eA E 12 0)), some (.int ax), some (.int x), some (.int y), some (.int d), none, none, none] [] (c0 M) := by
    intro hA hB
    obtain ⟨p, hp, hxp⟩ := le_gv (gv := cnt) (by omega) (show inX x (nI 0) (nI cnt - nI 1) = true by rw [← hc]; exact hA.1)
    subst hxp
    obtain ⟨a, ha, hya⟩ := in2_n hB.1
    subst hya
    rcases hA.2 with hyg | hyq
    · subst hyg
      have htg : tgX (-1) = 6 := rfl
      refine j_aln dX10_mate_64 rfl rfl ?_
      refine j_iln dX10_mate_65 rfl rfl ?_
      refine j_iln dX10_mate_66 rfl rfl ?_
      refine j_V2n mf_X10_ties ml_X10_240 dX10_mate_67 (Nat.le_of_ble_eq_true rfl) (Nat.le_of_ble_eq_true rfl) (Nat.le_of_ble_eq_true rfl) ⟨(Nat.le_of_ble_eq_true rfl), (Nat.le_of_ble_eq_true rfl)⟩ (by first | assumption | decide | (simp only [nv] at *; omega)) rfl rfl (c_X10_ties (M := c0 M) (show p < 7 by omega) hmc hmc12 hm) ?_
      refine j_aln dX10_mate_70 rfl rfl ?_
      refine g_X10_35 dX10_mate_71 fl_X10_90 ?_
      refine j_iln dX10_mate_74 rfl rfl ?_
      refine j_ic (v := (-1)) dX10_mate_75 (by decide) ?_
      refine j_icne (tgt := 84) dX10_mate_76 (by decide) (fun h76 => ?_) (fun h76 => ?_)
      · exact absurd rfl h76
      · refine j_biN 6 dX10_mate_79 rfl ?_
        refine j_goto (tgt := 85) dX10_mate_81 (by decide) ?_
        refine j_azldN dX10_mate_85 rfl rfl rfl (by decide) (by omega) ?_
        refine j_ifeq (tgt := 95) dX10_mate_86 (by decide) (fun h86 => ?_) (fun h86 => ?_)
        · refine j_aln dX10_mate_95 rfl rfl ?_
          refine g_X10_31 dX10_mate_96 fl_X10_237 ?_
          refine j_topi hmc ?_
          refine j_biN 12 dX10_mate_99 rfl ?_
          refine j_icneN (tgt := 110) dX10_mate_101 (by decide) (by omega) (by omega) (fun h101 => ?_) (fun h101 => ?_)
          · refine j_iln dX10_mate_110 rfl rfl ?_
            refine j_ic (v := (-1)) dX10_mate_111 (by decide) ?_
            refine j_icne (tgt := 119) dX10_mate_112 (by decide) (fun h112 => ?_) (fun h112 => ?_)
            · exact absurd rfl h112
            · refine j_icN 0 dX10_mate_115 rfl ?_
              refine j_goto (tgt := 129) dX10_mate_116 (by decide) ?_
              refine j_ist_5 dX10_mate_129 (by decide) rfl ?_
              refine j_il dX10_mate_131 rfl ?_
              refine j_il dX10_mate_133 rfl ?_
              refine j_iadd dX10_mate_135 ?_
              refine j_aln dX10_mate_136 rfl rfl ?_
              refine g_X10_28 dX10_mate_137 fl_X10_72 ?_
              refine j_icN 3 dX10_mate_140 rfl ?_
              refine j_iln dX10_mate_141 rfl rfl ?_
              refine j_imulN dX10_mate_142 ?_
              refine j_iln dX10_mate_143 rfl rfl ?_
              refine j_iaddN dX10_mate_144 ?_
              refine j_aildN dX10_mate_145 rfl rfl rfl (by decide) (by omega) ?_
              refine j_isub dX10_mate_146 ?_
              refine j_topi (show d + nI 0 - mI M 60 (3 * p + a) = (maY M a p (-1) d) from by unfold maY; rw [if_pos rfl]) ?_
              refine j_ist_6 dX10_mate_147 (by decide) rfl ?_
              refine j_icN 0 dX10_mate_149 rfl ?_
              refine j_ist_7 dX10_mate_150 (by decide) rfl ?_
              refine j_il dX10_mate_152 rfl ?_
              refine j_ifeq (tgt := 186) dX10_mate_154 (by decide) (fun h154 => ?_) (fun h154 => ?_)
              · refine j_il dX10_mate_186 rfl ?_
                refine j_ifeq (tgt := 200) dX10_mate_188 (by decide) (fun h188 => ?_) (fun h188 => ?_)
                · have hmc9 : mI M 12 31 = nI mc := hmc
                  refine j_aln dX10_mate_200 rfl rfl ?_
                  refine g_X10_32 dX10_mate_201 fl_X10_81 ?_
                  refine j_aln dX10_mate_204 rfl rfl ?_
                  refine g_X10_31 dX10_mate_205 fl_X10_237 ?_
                  refine j_topi hmc9 ?_
                  refine j_iln dX10_mate_208 rfl rfl ?_
                  refine j_aistN dX10_mate_209 rfl (fun _ => rfl) rfl (by decide) (by omega) ?_
                  refine j_aln dX10_mate_210 rfl rfl ?_
                  refine g_X10_33 dX10_mate_211 fl_X10_84 ?_
                  refine j_aln dX10_mate_214 rfl rfl ?_
                  refine g_X10_31 dX10_mate_215 fl_X10_237 ?_
                  refine j_topi hmc9 ?_
                  refine j_iln dX10_mate_218 rfl rfl ?_
                  refine j_aistN dX10_mate_219 rfl (fun _ => rfl) rfl (by decide) (by omega) ?_
                  refine j_aln dX10_mate_220 rfl rfl ?_
                  refine g_X10_34 dX10_mate_221 fl_X10_87 ?_
                  refine j_aln dX10_mate_224 rfl rfl ?_
                  refine g_X10_31 dX10_mate_225 fl_X10_237 ?_
                  refine j_topi hmc9 ?_
                  refine j_iln dX10_mate_228 rfl rfl ?_
                  refine j_aistN dX10_mate_229 rfl (fun _ => rfl) rfl (by decide) (by omega) ?_
                  refine j_aln dX10_mate_230 rfl rfl ?_
                  refine j_dup dX10_mate_231 rfl ?_
                  refine g_X10_31 dX10_mate_232 fl_X10_237 ?_
                  refine j_topi hmc9 ?_
                  refine j_icN 1 dX10_mate_235 rfl ?_
                  refine j_iaddN dX10_mate_236 ?_
                  refine p_X10_31 dX10_mate_237 fl_X10_237 ?_
                  refine j_il dX10_mate_240 rfl ?_
                  exact j_iret dX10_mate_242 rfl rfl (Nat.le_of_ble_eq_true rfl) (Nat.le_of_ble_eq_true rfl) (Or.inr (Or.inr ⟨hA, hB, p, a, hp, ha, rfl, rfl, Or.inr (Or.inr ⟨by rw [htg]; exact h86, h101, Or.inl ⟨h154, rfl, rfl⟩⟩)⟩))
                · exact absurd h154 h188
              · refine j_aln dX10_mate_157 rfl rfl ?_
                refine g_X10_35 dX10_mate_158 fl_X10_90 ?_
                refine j_biN 6 dX10_mate_161 rfl ?_
                refine j_azldN dX10_mate_163 rfl rfl rfl (by decide) (by omega) ?_
                refine j_ifeq (tgt := 186) dX10_mate_164 (by decide) (fun h164 => ?_) (fun h164 => ?_)
                · have h6 : (maT M mc a p) 6 = 0 := h164
                  refine j_il dX10_mate_186 rfl ?_
                  refine j_ifeq (tgt := 200) dX10_mate_188 (by decide) (fun h188 => ?_) (fun h188 => ?_)
                  · exact absurd h188 h154
                  · refine j_aln dX10_mate_191 rfl rfl ?_
                    refine j_iln dX10_mate_192 rfl rfl ?_
                    refine j_il dX10_mate_193 rfl ?_
                    refine j_V2d mf_X10_shifts ml_X10_243 dX10_mate_195 (Nat.le_of_ble_eq_true rfl) (Nat.le_of_ble_eq_true rfl) (Nat.le_of_ble_eq_true rfl) ⟨(Nat.le_of_ble_eq_true rfl), (Nat.le_of_ble_eq_true rfl)⟩ (by first | assumption | decide | (simp only [nv] at *; omega)) rfl rfl (c_X10_shifts (M := (sI (c0 M) 66 (maT M mc a p))) (w := (maY M a p (-1) d)) hc hc6 ha) ?_
                    refine j_ist_7 dX10_mate_198 (by decide) rfl ?_
                    have hmc9 : mI M 12 31 = nI mc := hmc
                    refine j_aln dX10_mate_200 rfl rfl ?_
                    refine g_X10_32 dX10_mate_201 fl_X10_81 ?_
                    refine j_aln dX10_mate_204 rfl rfl ?_
                    refine g_X10_31 dX10_mate_205 fl_X10_237 ?_
                    refine j_topi hmc9 ?_
                    refine j_iln dX10_mate_208 rfl rfl ?_
                    refine j_aistN dX10_mate_209 rfl (fun _ => rfl) rfl (by decide) (by omega) ?_
                    refine j_aln dX10_mate_210 rfl rfl ?_
                    refine g_X10_33 dX10_mate_211 fl_X10_84 ?_
                    refine j_aln dX10_mate_214 rfl rfl ?_
                    refine g_X10_31 dX10_mate_215 fl_X10_237 ?_
                    refine j_topi hmc9 ?_
                    refine j_iln dX10_mate_218 rfl rfl ?_
                    refine j_aistN dX10_mate_219 rfl (fun _ => rfl) rfl (by decide) (by omega) ?_
                    refine j_aln dX10_mate_220 rfl rfl ?_
                    refine g_X10_34 dX10_mate_221 fl_X10_87 ?_
                    refine j_aln dX10_mate_224 rfl rfl ?_
                    refine g_X10_31 dX10_mate_225 fl_X10_237 ?_
                    refine j_topi hmc9 ?_
                    refine j_iln dX10_mate_228 rfl rfl ?_
                    refine j_aistN dX10_mate_229 rfl (fun _ => rfl) rfl (by decide) (by omega) ?_
                    refine j_aln dX10_mate_230 rfl rfl ?_
                    refine j_dup dX10_mate_231 rfl ?_
                    refine g_X10_31 dX10_mate_232 fl_X10_237 ?_
                    refine j_topi hmc9 ?_
                    refine j_icN 1 dX10_mate_235 rfl ?_
                    refine j_iaddN dX10_mate_236 ?_
                    refine p_X10_31 dX10_mate_237 fl_X10_237 ?_
                    refine j_il dX10_mate_240 rfl ?_
                    exact j_iret dX10_mate_242 rfl rfl (Nat.le_of_ble_eq_true rfl) (Nat.le_of_ble_eq_true rfl) (Or.inr (Or.inr ⟨hA, hB, p, a, hp, ha, rfl, rfl, Or.inr (Or.inr ⟨by rw [htg]; exact h86, h101, Or.inr (Or.inr ⟨h154, h6, rfl, rfl⟩)⟩)⟩))
                · exact absurd h86 h164
          · refine j_aln dX10_mate_104 rfl rfl ?_
            refine j_icN 4 dX10_mate_105 rfl ?_
            refine j_V1d mf_X10_fails ml_X10_112 dX10_mate_106 (Nat.le_of_ble_eq_true rfl) (Nat.le_of_ble_eq_true rfl) (Nat.le_of_ble_eq_true rfl) ⟨(Nat.le_of_ble_eq_true rfl), (Nat.le_of_ble_eq_true rfl)⟩ (by first | assumption | decide | (simp only [nv] at *; omega)) rfl rfl c_X10_fails ?_
            exact j_iret dX10_mate_109 rfl rfl (Nat.le_of_ble_eq_true rfl) (Nat.le_of_ble_eq_true rfl) (Or.inr (Or.inr ⟨hA, hB, p, a, hp, ha, rfl, rfl, Or.inr (Or.inl ⟨by rw [htg]; exact h86, h101, rfl, rfl⟩)⟩))
        · refine j_aln dX10_mate_89 rfl rfl ?_
          refine j_icN 3 dX10_mate_90 rfl ?_
          refine j_V1d mf_X10_fails ml_X10_112 dX10_mate_91 (Nat.le_of_ble_eq_true rfl) (Nat.le_of_ble_eq_true rfl) (Nat.le_of_ble_eq_true rfl) ⟨(Nat.le_of_ble_eq_true rfl), (Nat.le_of_ble_eq_true rfl)⟩ (by first | assumption | decide | (simp only [nv] at *; omega)) rfl rfl c_X10_fails ?_
          exact j_iret dX10_mate_94 rfl rfl (Nat.le_of_ble_eq_true rfl) (Nat.le_of_ble_eq_true rfl) (Or.inr (Or.inr ⟨hA, hB, p, a, hp, ha, rfl, rfl, Or.inl ⟨by rw [htg]; exact h86, rfl, rfl⟩⟩))
    · skip
      obtain ⟨q, hq, hyq2⟩ := le_gv (gv := cnt) (by omega) (show inX y (nI 0) (nI cnt - nI 1) = true by rw [← hc]; exact hyq)
      subst hyq2
      have htg : tgX (nI q) = q := by unfold tgX; rw [if_neg (nI_nm1 (by omega)), ntX_nI (by omega)]
      have hqn : ntX (nI q) = q := ntX_nI (by omega)
      refine j_aln dX10_mate_64 rfl rfl ?_
      refine j_iln dX10_mate_65 rfl rfl ?_
      refine j_iln dX10_mate_66 rfl rfl ?_
      refine j_V2n mf_X10_ties ml_X10_240 dX10_mate_67 (Nat.le_of_ble_eq_true rfl) (Nat.le_of_ble_eq_true rfl) (Nat.le_of_ble_eq_true rfl) ⟨(Nat.le_of_ble_eq_true rfl), (Nat.le_of_ble_eq_true rfl)⟩ (by first | assumption | decide | (simp only [nv] at *; omega)) rfl rfl (c_X10_ties (M := c0 M) (show p < 7 by omega) hmc hmc12 hm) ?_
      refine j_aln dX10_mate_70 rfl rfl ?_
      refine g_X10_35 dX10_mate_71 fl_X10_90 ?_
      refine j_iln dX10_mate_74 rfl rfl ?_
      refine j_ic (v := (-1)) dX10_mate_75 (by decide) ?_
      refine j_icne (tgt := 84) dX10_mate_76 (by decide) (fun h76 => ?_) (fun h76 => ?_)
      · refine j_iln dX10_mate_84 rfl rfl ?_
        refine j_azldN dX10_mate_85 rfl rfl rfl (by decide) (by omega) ?_
        refine j_ifeq (tgt := 95) dX10_mate_86 (by decide) (fun h86 => ?_) (fun h86 => ?_)
        · refine j_aln dX10_mate_95 rfl rfl ?_
          refine g_X10_31 dX10_mate_96 fl_X10_237 ?_
          refine j_topi hmc ?_
          refine j_biN 12 dX10_mate_99 rfl ?_
          refine j_icneN (tgt := 110) dX10_mate_101 (by decide) (by omega) (by omega) (fun h101 => ?_) (fun h101 => ?_)
          · refine j_iln dX10_mate_110 rfl rfl ?_
            refine j_ic (v := (-1)) dX10_mate_111 (by decide) ?_
            refine j_icne (tgt := 119) dX10_mate_112 (by decide) (fun h112 => ?_) (fun h112 => ?_)
            · refine j_aln dX10_mate_119 rfl rfl ?_
              refine g_X10_28 dX10_mate_120 fl_X10_72 ?_
              refine j_icN 3 dX10_mate_123 rfl ?_
              refine j_iln dX10_mate_124 rfl rfl ?_
              refine j_imulN dX10_mate_125 ?_
              refine j_iln dX10_mate_126 rfl rfl ?_
              refine j_iaddN dX10_mate_127 ?_
              refine j_aildN dX10_mate_128 rfl rfl rfl (by decide) (by omega) ?_
              refine j_ist_5 dX10_mate_129 (by decide) rfl ?_
              refine j_il dX10_mate_131 rfl ?_
              refine j_il dX10_mate_133 rfl ?_
              refine j_iadd dX10_mate_135 ?_
              refine j_aln dX10_mate_136 rfl rfl ?_
              refine g_X10_28 dX10_mate_137 fl_X10_72 ?_
              refine j_icN 3 dX10_mate_140 rfl ?_
              refine j_iln dX10_mate_141 rfl rfl ?_
              refine j_imulN dX10_mate_142 ?_
              refine j_iln dX10_mate_143 rfl rfl ?_
              refine j_iaddN dX10_mate_144 ?_
              refine j_aildN dX10_mate_145 rfl rfl rfl (by decide) (by omega) ?_
              refine j_isub dX10_mate_146 ?_
              refine j_topi (show d + mI M 60 (3 * q + a) - mI M 60 (3 * p + a) = (maY M a p (nI q) d) from by unfold maY; rw [if_neg (nI_nm1 (by omega)), ntX_nI (by omega)]) ?_
              refine j_ist_6 dX10_mate_147 (by decide) rfl ?_
              refine j_icN 0 dX10_mate_149 rfl ?_
              refine j_ist_7 dX10_mate_150 (by decide) rfl ?_
              refine j_il dX10_mate_152 rfl ?_
              refine j_ifeq (tgt := 186) dX10_mate_154 (by decide) (fun h154 => ?_) (fun h154 => ?_)
              · refine j_il dX10_mate_186 rfl ?_
                refine j_ifeq (tgt := 200) dX10_mate_188 (by decide) (fun h188 => ?_) (fun h188 => ?_)
                · have hmc9 : mI M 12 31 = nI mc := hmc
                  refine j_aln dX10_mate_200 rfl rfl ?_
                  refine g_X10_32 dX10_mate_201 fl_X10_81 ?_
                  refine j_aln dX10_mate_204 rfl rfl ?_
                  refine g_X10_31 dX10_mate_205 fl_X10_237 ?_
                  refine j_topi hmc9 ?_
                  refine j_iln dX10_mate_208 rfl rfl ?_
                  refine j_aistN dX10_mate_209 rfl (fun _ => rfl) rfl (by decide) (by omega) ?_
                  refine j_aln dX10_mate_210 rfl rfl ?_
                  refine g_X10_33 dX10_mate_211 fl_X10_84 ?_
                  refine j_aln dX10_mate_214 rfl rfl ?_
                  refine g_X10_31 dX10_mate_215 fl_X10_237 ?_
                  refine j_topi hmc9 ?_
                  refine j_iln dX10_mate_218 rfl rfl ?_
                  refine j_aistN dX10_mate_219 rfl (fun _ => rfl) rfl (by decide) (by omega) ?_
                  refine j_aln dX10_mate_220 rfl rfl ?_
                  refine g_X10_34 dX10_mate_221 fl_X10_87 ?_
                  refine j_aln dX10_mate_224 rfl rfl ?_
                  refine g_X10_31 dX10_mate_225 fl_X10_237 ?_
                  refine j_topi hmc9 ?_
                  refine j_iln dX10_mate_228 rfl rfl ?_
                  refine j_aistN dX10_mate_229 rfl (fun _ => rfl) rfl (by decide) (by omega) ?_
                  refine j_aln dX10_mate_230 rfl rfl ?_
                  refine j_dup dX10_mate_231 rfl ?_
                  refine g_X10_31 dX10_mate_232 fl_X10_237 ?_
                  refine j_topi hmc9 ?_
                  refine j_icN 1 dX10_mate_235 rfl ?_
                  refine j_iaddN dX10_mate_236 ?_
                  refine p_X10_31 dX10_mate_237 fl_X10_237 ?_
                  refine j_il dX10_mate_240 rfl ?_
                  exact j_iret dX10_mate_242 rfl rfl (Nat.le_of_ble_eq_true rfl) (Nat.le_of_ble_eq_true rfl) (Or.inr (Or.inr ⟨hA, hB, p, a, hp, ha, rfl, rfl, Or.inr (Or.inr ⟨by rw [htg]; exact h86, h101, Or.inl ⟨h154, rfl, rfl⟩⟩)⟩))
                · exact absurd h154 h188
              · refine j_aln dX10_mate_157 rfl rfl ?_
                refine g_X10_35 dX10_mate_158 fl_X10_90 ?_
                refine j_biN 6 dX10_mate_161 rfl ?_
                refine j_azldN dX10_mate_163 rfl rfl rfl (by decide) (by omega) ?_
                refine j_ifeq (tgt := 186) dX10_mate_164 (by decide) (fun h164 => ?_) (fun h164 => ?_)
                · have h6 : (maT M mc a p) 6 = 0 := h164
                  refine j_il dX10_mate_186 rfl ?_
                  refine j_ifeq (tgt := 200) dX10_mate_188 (by decide) (fun h188 => ?_) (fun h188 => ?_)
                  · exact absurd h188 h154
                  · refine j_aln dX10_mate_191 rfl rfl ?_
                    refine j_iln dX10_mate_192 rfl rfl ?_
                    refine j_il dX10_mate_193 rfl ?_
                    refine j_V2d mf_X10_shifts ml_X10_243 dX10_mate_195 (Nat.le_of_ble_eq_true rfl) (Nat.le_of_ble_eq_true rfl) (Nat.le_of_ble_eq_true rfl) ⟨(Nat.le_of_ble_eq_true rfl), (Nat.le_of_ble_eq_true rfl)⟩ (by first | assumption | decide | (simp only [nv] at *; omega)) rfl rfl (c_X10_shifts (M := (sI (c0 M) 66 (maT M mc a p))) (w := (maY M a p (nI q) d)) hc hc6 ha) ?_
                    refine j_ist_7 dX10_mate_198 (by decide) rfl ?_
                    have hmc9 : mI M 12 31 = nI mc := hmc
                    refine j_aln dX10_mate_200 rfl rfl ?_
                    refine g_X10_32 dX10_mate_201 fl_X10_81 ?_
                    refine j_aln dX10_mate_204 rfl rfl ?_
                    refine g_X10_31 dX10_mate_205 fl_X10_237 ?_
                    refine j_topi hmc9 ?_
                    refine j_iln dX10_mate_208 rfl rfl ?_
                    refine j_aistN dX10_mate_209 rfl (fun _ => rfl) rfl (by decide) (by omega) ?_
                    refine j_aln dX10_mate_210 rfl rfl ?_
                    refine g_X10_33 dX10_mate_211 fl_X10_84 ?_
                    refine j_aln dX10_mate_214 rfl rfl ?_
                    refine g_X10_31 dX10_mate_215 fl_X10_237 ?_
                    refine j_topi hmc9 ?_
                    refine j_iln dX10_mate_218 rfl rfl ?_
                    refine j_aistN dX10_mate_219 rfl (fun _ => rfl) rfl (by decide) (by omega) ?_
                    refine j_aln dX10_mate_220 rfl rfl ?_
                    refine g_X10_34 dX10_mate_221 fl_X10_87 ?_
                    refine j_aln dX10_mate_224 rfl rfl ?_
                    refine g_X10_31 dX10_mate_225 fl_X10_237 ?_
                    refine j_topi hmc9 ?_
                    refine j_iln dX10_mate_228 rfl rfl ?_
                    refine j_aistN dX10_mate_229 rfl (fun _ => rfl) rfl (by decide) (by omega) ?_
                    refine j_aln dX10_mate_230 rfl rfl ?_
                    refine j_dup dX10_mate_231 rfl ?_
                    refine g_X10_31 dX10_mate_232 fl_X10_237 ?_
                    refine j_topi hmc9 ?_
                    refine j_icN 1 dX10_mate_235 rfl ?_
                    refine j_iaddN dX10_mate_236 ?_
                    refine p_X10_31 dX10_mate_237 fl_X10_237 ?_
                    refine j_il dX10_mate_240 rfl ?_
                    exact j_iret dX10_mate_242 rfl rfl (Nat.le_of_ble_eq_true rfl) (Nat.le_of_ble_eq_true rfl) (Or.inr (Or.inr ⟨hA, hB, p, a, hp, ha, rfl, rfl, Or.inr (Or.inr ⟨by rw [htg]; exact h86, h101, Or.inr (Or.inr ⟨h154, h6, rfl, rfl⟩)⟩)⟩))
                · have h6 : ¬ (maT M mc a p) 6 = 0 := h164
                  refine j_aln dX10_mate_167 rfl rfl ?_
                  refine j_iln dX10_mate_168 rfl rfl ?_
                  refine j_iln dX10_mate_169 rfl rfl ?_
                  refine j_V2n mf_X10_ties ml_X10_240 dX10_mate_170 (Nat.le_of_ble_eq_true rfl) (Nat.le_of_ble_eq_true rfl) (Nat.le_of_ble_eq_true rfl) ⟨(Nat.le_of_ble_eq_true rfl), (Nat.le_of_ble_eq_true rfl)⟩ (by first | assumption | decide | (simp only [nv] at *; omega)) rfl rfl (c_X10_ties (M := (sI (c0 M) 66 (maT M mc a p))) (show q < 7 by omega) hmc hmc12 hm) ?_
                  refine j_mem (M' := sI (c0 M) 66 (tiE M mc (nI a) (maT M mc a p) q)) (by rw [sI_sI]; rfl) ?_
                  refine j_aln dX10_mate_173 rfl rfl ?_
                  refine j_iln dX10_mate_174 rfl rfl ?_
                  refine j_il dX10_mate_175 rfl ?_
                  refine j_ineg dX10_mate_177 ?_
                  refine j_V2d mf_X10_shifts ml_X10_243 dX10_mate_178 (Nat.le_of_ble_eq_true rfl) (Nat.le_of_ble_eq_true rfl) (Nat.le_of_ble_eq_true rfl) ⟨(Nat.le_of_ble_eq_true rfl), (Nat.le_of_ble_eq_true rfl)⟩ (by first | assumption | decide | (simp only [nv] at *; omega)) rfl rfl (c_X10_shifts (M := sI (c0 M) 66 (tiE M mc (nI a) (maT M mc a p) q)) (w := -(maY M a p (nI q) d)) hc hc6 ha) ?_
                  refine j_ist_7 dX10_mate_181 (by decide) rfl ?_
                  refine j_goto (tgt := 200) dX10_mate_183 (by decide) ?_
                  have hmc9 : mI M 12 31 = nI mc := hmc
                  refine j_aln dX10_mate_200 rfl rfl ?_
                  refine g_X10_32 dX10_mate_201 fl_X10_81 ?_
                  refine j_aln dX10_mate_204 rfl rfl ?_
                  refine g_X10_31 dX10_mate_205 fl_X10_237 ?_
                  refine j_topi hmc9 ?_
                  refine j_iln dX10_mate_208 rfl rfl ?_
                  refine j_aistN dX10_mate_209 rfl (fun _ => rfl) rfl (by decide) (by omega) ?_
                  refine j_aln dX10_mate_210 rfl rfl ?_
                  refine g_X10_33 dX10_mate_211 fl_X10_84 ?_
                  refine j_aln dX10_mate_214 rfl rfl ?_
                  refine g_X10_31 dX10_mate_215 fl_X10_237 ?_
                  refine j_topi hmc9 ?_
                  refine j_iln dX10_mate_218 rfl rfl ?_
                  refine j_aistN dX10_mate_219 rfl (fun _ => rfl) rfl (by decide) (by omega) ?_
                  refine j_aln dX10_mate_220 rfl rfl ?_
                  refine g_X10_34 dX10_mate_221 fl_X10_87 ?_
                  refine j_aln dX10_mate_224 rfl rfl ?_
                  refine g_X10_31 dX10_mate_225 fl_X10_237 ?_
                  refine j_topi hmc9 ?_
                  refine j_iln dX10_mate_228 rfl rfl ?_
                  refine j_aistN dX10_mate_229 rfl (fun _ => rfl) rfl (by decide) (by omega) ?_
                  refine j_aln dX10_mate_230 rfl rfl ?_
                  refine j_dup dX10_mate_231 rfl ?_
                  refine g_X10_31 dX10_mate_232 fl_X10_237 ?_
                  refine j_topi hmc9 ?_
                  refine j_icN 1 dX10_mate_235 rfl ?_
                  refine j_iaddN dX10_mate_236 ?_
                  refine p_X10_31 dX10_mate_237 fl_X10_237 ?_
                  refine j_il dX10_mate_240 rfl ?_
                  exact j_iret dX10_mate_242 rfl rfl (Nat.le_of_ble_eq_true rfl) (Nat.le_of_ble_eq_true rfl) (Or.inr (Or.inr ⟨hA, hB, p, a, hp, ha, rfl, rfl, Or.inr (Or.inr ⟨by rw [htg]; exact h86, h101, Or.inr (Or.inl ⟨h154, h6, by rw [hqn]; rfl, by rw [hqn]; rfl⟩)⟩)⟩))
            · exact absurd h112 (nI_nm1 (by omega))
          · refine j_aln dX10_mate_104 rfl rfl ?_
            refine j_icN 4 dX10_mate_105 rfl ?_
            refine j_V1d mf_X10_fails ml_X10_112 dX10_mate_106 (Nat.le_of_ble_eq_true rfl) (Nat.le_of_ble_eq_true rfl) (Nat.le_of_ble_eq_true rfl) ⟨(Nat.le_of_ble_eq_true rfl), (Nat.le_of_ble_eq_true rfl)⟩ (by first | assumption | decide | (simp only [nv] at *; omega)) rfl rfl c_X10_fails ?_
            exact j_iret dX10_mate_109 rfl rfl (Nat.le_of_ble_eq_true rfl) (Nat.le_of_ble_eq_true rfl) (Or.inr (Or.inr ⟨hA, hB, p, a, hp, ha, rfl, rfl, Or.inr (Or.inl ⟨by rw [htg]; exact h86, h101, rfl, rfl⟩)⟩))
        · refine j_aln dX10_mate_89 rfl rfl ?_
          refine j_icN 3 dX10_mate_90 rfl ?_
          refine j_V1d mf_X10_fails ml_X10_112 dX10_mate_91 (Nat.le_of_ble_eq_true rfl) (Nat.le_of_ble_eq_true rfl) (Nat.le_of_ble_eq_true rfl) ⟨(Nat.le_of_ble_eq_true rfl), (Nat.le_of_ble_eq_true rfl)⟩ (by first | assumption | decide | (simp only [nv] at *; omega)) rfl rfl c_X10_fails ?_
          exact j_iret dX10_mate_94 rfl rfl (Nat.le_of_ble_eq_true rfl) (Nat.le_of_ble_eq_true rfl) (Or.inr (Or.inr ⟨hA, hB, p, a, hp, ha, rfl, rfl, Or.inl ⟨by rw [htg]; exact h86, rfl, rfl⟩⟩))
      · exact absurd h76 (nI_nm1 (by omega))
  refine j_aln dX10_mate_0 rfl rfl ?_
  refine j_icN 0 dX10_mate_1 rfl ?_
  refine p_X10_0 dX10_mate_2 fl_X10_96 ?_
  refine j_aln dX10_mate_5 rfl rfl ?_
  refine j_iln dX10_mate_6 rfl rfl ?_
  refine j_V1d mf_X10_isPart ml_X10_234 dX10_mate_7 (Nat.le_of_ble_eq_true rfl) (Nat.le_of_ble_eq_true rfl) (Nat.le_of_ble_eq_true rfl) ⟨(Nat.le_of_ble_eq_true rfl), (Nat.le_of_ble_eq_true rfl)⟩ (by first | assumption | decide | (simp only [nv] at *; omega)) rfl rfl c_X10_isPart ?_
  refine j_ifeq (tgt := 26) dX10_mate_10 (by decide) (fun h10 => ?_) (fun h10 => ?_)
  · have hno : ¬ (inX x (nI 0) (mI M 12 27 - nI 1) = true ∧ (y = -1 ∨ inX y (nI 0) (mI M 12 27 - nI 1) = true)) := fun q => by have e : inX x (nI 0) (mI M 12 27 - nI 1) = false := bI_eq.mp h10; rw [q.1] at e; exact absurd e (by decide)
    refine j_aln dX10_mate_26 rfl rfl ?_
    refine j_icN 1 dX10_mate_27 rfl ?_
    refine j_V1d mf_X10_fails ml_X10_112 dX10_mate_28 (Nat.le_of_ble_eq_true rfl) (Nat.le_of_ble_eq_true rfl) (Nat.le_of_ble_eq_true rfl) ⟨(Nat.le_of_ble_eq_true rfl), (Nat.le_of_ble_eq_true rfl)⟩ (by first | assumption | decide | (simp only [nv] at *; omega)) rfl rfl c_X10_fails ?_
    exact j_iret dX10_mate_31 rfl rfl (Nat.le_of_ble_eq_true rfl) (Nat.le_of_ble_eq_true rfl) (Or.inl ⟨hno, rfl, rfl⟩)
  · have hx := bI_ne.mp h10
    refine j_iln dX10_mate_13 rfl rfl ?_
    refine j_ic (v := (-1)) dX10_mate_14 (by decide) ?_
    refine j_iceq (tgt := 32) dX10_mate_15 (by decide) (fun h15 => ?_) (fun h15 => ?_)
    · have hy : y = -1 ∨ inX y (nI 0) (mI M 12 27 - nI 1) = true := Or.inl h15
      refine j_iln dX10_mate_32 rfl rfl ?_
      refine j_icN 0 dX10_mate_33 rfl ?_
      refine j_icN 2 dX10_mate_34 rfl ?_
      refine j_S3d mf_X10_in ml_X10_100 dX10_mate_35 (Nat.le_of_ble_eq_true rfl) (Nat.le_of_ble_eq_true rfl) (Nat.le_of_ble_eq_true rfl) ⟨(Nat.le_of_ble_eq_true rfl), (Nat.le_of_ble_eq_true rfl)⟩ c_X10_in ?_
      refine j_ifeq (tgt := 58) dX10_mate_38 (by decide) (fun h38 => ?_) (fun h38 => ?_)
      · have hno : ¬ (in2 ax = true ∧ ¬ x = y ∧ inX d (-20) (nI 20) = true) := fun q => by have e : in2 ax = false := bI_eq.mp h38; rw [q.1] at e; exact absurd e (by decide)
        refine j_aln dX10_mate_58 rfl rfl ?_
        refine j_icN 2 dX10_mate_59 rfl ?_
        refine j_V1d mf_X10_fails ml_X10_112 dX10_mate_60 (Nat.le_of_ble_eq_true rfl) (Nat.le_of_ble_eq_true rfl) (Nat.le_of_ble_eq_true rfl) ⟨(Nat.le_of_ble_eq_true rfl), (Nat.le_of_ble_eq_true rfl)⟩ (by first | assumption | decide | (simp only [nv] at *; omega)) rfl rfl c_X10_fails ?_
        exact j_iret dX10_mate_63 rfl rfl (Nat.le_of_ble_eq_true rfl) (Nat.le_of_ble_eq_true rfl) (Or.inr (Or.inl ⟨⟨hx, hy⟩, hno, rfl, rfl⟩))
      · have hax : in2 ax = true := bI_ne.mp h38
        refine j_iln dX10_mate_41 rfl rfl ?_
        refine j_iln dX10_mate_42 rfl rfl ?_
        refine j_iceq (tgt := 58) dX10_mate_43 (by decide) (fun h43 => ?_) (fun h43 => ?_)
        · have hno : ¬ (in2 ax = true ∧ ¬ x = y ∧ inX d (-20) (nI 20) = true) := fun q => q.2.1 h43
          refine j_aln dX10_mate_58 rfl rfl ?_
          refine j_icN 2 dX10_mate_59 rfl ?_
          refine j_V1d mf_X10_fails ml_X10_112 dX10_mate_60 (Nat.le_of_ble_eq_true rfl) (Nat.le_of_ble_eq_true rfl) (Nat.le_of_ble_eq_true rfl) ⟨(Nat.le_of_ble_eq_true rfl), (Nat.le_of_ble_eq_true rfl)⟩ (by first | assumption | decide | (simp only [nv] at *; omega)) rfl rfl c_X10_fails ?_
          exact j_iret dX10_mate_63 rfl rfl (Nat.le_of_ble_eq_true rfl) (Nat.le_of_ble_eq_true rfl) (Or.inr (Or.inl ⟨⟨hx, hy⟩, hno, rfl, rfl⟩))
        · refine j_il dX10_mate_46 rfl ?_
          refine j_bi (v := (-20)) dX10_mate_48 (by decide) ?_
          refine j_biN 20 dX10_mate_50 rfl ?_
          refine j_S3d mf_X10_in ml_X10_100 dX10_mate_52 (Nat.le_of_ble_eq_true rfl) (Nat.le_of_ble_eq_true rfl) (Nat.le_of_ble_eq_true rfl) ⟨(Nat.le_of_ble_eq_true rfl), (Nat.le_of_ble_eq_true rfl)⟩ c_X10_in ?_
          refine j_ifne (tgt := 64) dX10_mate_55 (by decide) (fun h55 => ?_) (fun h55 => ?_)
          · have hA : (inX x (nI 0) (mI M 12 27 - nI 1) = true ∧ (y = -1 ∨ inX y (nI 0) (mI M 12 27 - nI 1) = true)) := ⟨hx, hy⟩
            have hB : (in2 ax = true ∧ ¬ x = y ∧ inX d (-20) (nI 20) = true) := ⟨hax, h43, bI_ne.mp h55⟩
            exact T64 hA hB
          · have hno : ¬ (in2 ax = true ∧ ¬ x = y ∧ inX d (-20) (nI 20) = true) := fun q => by have e := bI_eq.mp h55; rw [q.2.2] at e; exact absurd e (by decide)
            refine j_aln dX10_mate_58 rfl rfl ?_
            refine j_icN 2 dX10_mate_59 rfl ?_
            refine j_V1d mf_X10_fails ml_X10_112 dX10_mate_60 (Nat.le_of_ble_eq_true rfl) (Nat.le_of_ble_eq_true rfl) (Nat.le_of_ble_eq_true rfl) ⟨(Nat.le_of_ble_eq_true rfl), (Nat.le_of_ble_eq_true rfl)⟩ (by first | assumption | decide | (simp only [nv] at *; omega)) rfl rfl c_X10_fails ?_
            exact j_iret dX10_mate_63 rfl rfl (Nat.le_of_ble_eq_true rfl) (Nat.le_of_ble_eq_true rfl) (Or.inr (Or.inl ⟨⟨hx, hy⟩, hno, rfl, rfl⟩))
    · refine j_aln dX10_mate_18 rfl rfl ?_
      refine j_iln dX10_mate_19 rfl rfl ?_
      refine j_V1d mf_X10_isPart ml_X10_234 dX10_mate_20 (Nat.le_of_ble_eq_true rfl) (Nat.le_of_ble_eq_true rfl) (Nat.le_of_ble_eq_true rfl) ⟨(Nat.le_of_ble_eq_true rfl), (Nat.le_of_ble_eq_true rfl)⟩ (by first | assumption | decide | (simp only [nv] at *; omega)) rfl rfl c_X10_isPart ?_
      refine j_ifne (tgt := 32) dX10_mate_23 (by decide) (fun h23 => ?_) (fun h23 => ?_)
      · have hy : y = -1 ∨ inX y (nI 0) (mI M 12 27 - nI 1) = true := Or.inr (bI_ne.mp h23)
        refine j_iln dX10_mate_32 rfl rfl ?_
        refine j_icN 0 dX10_mate_33 rfl ?_
        refine j_icN 2 dX10_mate_34 rfl ?_
        refine j_S3d mf_X10_in ml_X10_100 dX10_mate_35 (Nat.le_of_ble_eq_true rfl) (Nat.le_of_ble_eq_true rfl) (Nat.le_of_ble_eq_true rfl) ⟨(Nat.le_of_ble_eq_true rfl), (Nat.le_of_ble_eq_true rfl)⟩ c_X10_in ?_
        refine j_ifeq (tgt := 58) dX10_mate_38 (by decide) (fun h38 => ?_) (fun h38 => ?_)
        · have hno : ¬ (in2 ax = true ∧ ¬ x = y ∧ inX d (-20) (nI 20) = true) := fun q => by have e : in2 ax = false := bI_eq.mp h38; rw [q.1] at e; exact absurd e (by decide)
          refine j_aln dX10_mate_58 rfl rfl ?_
          refine j_icN 2 dX10_mate_59 rfl ?_
          refine j_V1d mf_X10_fails ml_X10_112 dX10_mate_60 (Nat.le_of_ble_eq_true rfl) (Nat.le_of_ble_eq_true rfl) (Nat.le_of_ble_eq_true rfl) ⟨(Nat.le_of_ble_eq_true rfl), (Nat.le_of_ble_eq_true rfl)⟩ (by first | assumption | decide | (simp only [nv] at *; omega)) rfl rfl c_X10_fails ?_
          exact j_iret dX10_mate_63 rfl rfl (Nat.le_of_ble_eq_true rfl) (Nat.le_of_ble_eq_true rfl) (Or.inr (Or.inl ⟨⟨hx, hy⟩, hno, rfl, rfl⟩))
        · have hax : in2 ax = true := bI_ne.mp h38
          refine j_iln dX10_mate_41 rfl rfl ?_
          refine j_iln dX10_mate_42 rfl rfl ?_
          refine j_iceq (tgt := 58) dX10_mate_43 (by decide) (fun h43 => ?_) (fun h43 => ?_)
          · have hno : ¬ (in2 ax = true ∧ ¬ x = y ∧ inX d (-20) (nI 20) = true) := fun q => q.2.1 h43
            refine j_aln dX10_mate_58 rfl rfl ?_
            refine j_icN 2 dX10_mate_59 rfl ?_
            refine j_V1d mf_X10_fails ml_X10_112 dX10_mate_60 (Nat.le_of_ble_eq_true rfl) (Nat.le_of_ble_eq_true rfl) (Nat.le_of_ble_eq_true rfl) ⟨(Nat.le_of_ble_eq_true rfl), (Nat.le_of_ble_eq_true rfl)⟩ (by first | assumption | decide | (simp only [nv] at *; omega)) rfl rfl c_X10_fails ?_
            exact j_iret dX10_mate_63 rfl rfl (Nat.le_of_ble_eq_true rfl) (Nat.le_of_ble_eq_true rfl) (Or.inr (Or.inl ⟨⟨hx, hy⟩, hno, rfl, rfl⟩))
          · refine j_il dX10_mate_46 rfl ?_
            refine j_bi (v := (-20)) dX10_mate_48 (by decide) ?_
            refine j_biN 20 dX10_mate_50 rfl ?_
            refine j_S3d mf_X10_in ml_X10_100 dX10_mate_52 (Nat.le_of_ble_eq_true rfl) (Nat.le_of_ble_eq_true rfl) (Nat.le_of_ble_eq_true rfl) ⟨(Nat.le_of_ble_eq_true rfl), (Nat.le_of_ble_eq_true rfl)⟩ c_X10_in ?_
            refine j_ifne (tgt := 64) dX10_mate_55 (by decide) (fun h55 => ?_) (fun h55 => ?_)
            · have hA : (inX x (nI 0) (mI M 12 27 - nI 1) = true ∧ (y = -1 ∨ inX y (nI 0) (mI M 12 27 - nI 1) = true)) := ⟨hx, hy⟩
              have hB : (in2 ax = true ∧ ¬ x = y ∧ inX d (-20) (nI 20) = true) := ⟨hax, h43, bI_ne.mp h55⟩
              exact T64 hA hB
            · have hno : ¬ (in2 ax = true ∧ ¬ x = y ∧ inX d (-20) (nI 20) = true) := fun q => by have e := bI_eq.mp h55; rw [q.2.2] at e; exact absurd e (by decide)
              refine j_aln dX10_mate_58 rfl rfl ?_
              refine j_icN 2 dX10_mate_59 rfl ?_
              refine j_V1d mf_X10_fails ml_X10_112 dX10_mate_60 (Nat.le_of_ble_eq_true rfl) (Nat.le_of_ble_eq_true rfl) (Nat.le_of_ble_eq_true rfl) ⟨(Nat.le_of_ble_eq_true rfl), (Nat.le_of_ble_eq_true rfl)⟩ (by first | assumption | decide | (simp only [nv] at *; omega)) rfl rfl c_X10_fails ?_
              exact j_iret dX10_mate_63 rfl rfl (Nat.le_of_ble_eq_true rfl) (Nat.le_of_ble_eq_true rfl) (Or.inr (Or.inl ⟨⟨hx, hy⟩, hno, rfl, rfl⟩))
      · have hno : ¬ (inX x (nI 0) (mI M 12 27 - nI 1) = true ∧ (y = -1 ∨ inX y (nI 0) (mI M 12 27 - nI 1) = true)) := fun q => q.2.elim h15 (fun q => by have e : inX y (nI 0) (mI M 12 27 - nI 1) = false := bI_eq.mp h23; rw [q] at e; exact absurd e (by decide))
        refine j_aln dX10_mate_26 rfl rfl ?_
        refine j_icN 1 dX10_mate_27 rfl ?_
        refine j_V1d mf_X10_fails ml_X10_112 dX10_mate_28 (Nat.le_of_ble_eq_true rfl) (Nat.le_of_ble_eq_true rfl) (Nat.le_of_ble_eq_true rfl) ⟨(Nat.le_of_ble_eq_true rfl), (Nat.le_of_ble_eq_true rfl)⟩ (by first | assumption | decide | (simp only [nv] at *; omega)) rfl rfl c_X10_fails ?_
        exact j_iret dX10_mate_31 rfl rfl (Nat.le_of_ble_eq_true rfl) (Nat.le_of_ble_eq_true rfl) (Or.inl ⟨hno, rfl, rfl⟩)
