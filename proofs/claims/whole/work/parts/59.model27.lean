/-! the model: addFeature -/
def madd (r : Nat → Int32) (g : Nat) (x y z : Int32) : Nat → Int32 := upd (upd (upd (upd (upd (upd r (6 * g) x) (6 * g + 1) y) (6 * g + 2) z) (6 * g + 3) (nI 1)) (6 * g + 4) (nI 1)) (6 * g + 5) (nI 1)
theorem upd_T {r : Nat → Int32} {P : Int32 → Prop} {n j : Nat} {v : Int32} (h : ∀ k, k < n → P (r k)) (hv : P v) : ∀ k, k < n → P (upd r j v k) := by
  intro k hk
  unfold upd
  split
  · exact hv
  · exact h k hk
theorem madd_T {r : Nat → Int32} {g : Nat} {x y z : Int32} (h : ∀ k, k < 240 → mT (r k) = true) (h1 : mT x = true ∧ mT y = true ∧ mT z = true) : ∀ k, k < 240 → mT (madd r g x y z k) = true :=
  have h2 : mT (nI 1) = true := by decide
  upd_T (P := fun v => mT v = true) (upd_T (P := fun v => mT v = true) (upd_T (P := fun v => mT v = true) (upd_T (P := fun v => mT v = true) (upd_T (P := fun v => mT v = true) (upd_T (P := fun v => mT v = true) h h1.1) h1.2.1) h1.2.2) h2) h2) h2
/-- what an added feature leaves, the bar and the counts apart -/
def adS (M : Mm) (gv cnt : Nat) (kd x y z : Int32) : Mm := sI (sI (sI (sI (sI (reM M) 45 (upd (mI M 45) gv kd)) 46 (madd (mI M 46) gv x y z)) 47 (upd (mI M 47) gv (nI 1))) 48 (upd (mI M 48) gv (nI 0))) 44 (upd (mI M 44) cnt (nI gv))
def adM (M : Mm) (gv cnt : Nat) (kd x y z : Int32) : Mm := sI (adS M gv cnt kd x y z) 12 (upd (upd (mI (reM M) 12) 6 (nI (cnt + 1))) 5 (nI (gv + 1)))
def adB (M : Mm) (gv cnt b2 : Nat) (kd x y z : Int32) : Mm := sI (adS M gv cnt kd x y z) 12 (upd (upd (upd (mI (reM M) 12) 6 (nI (cnt + 1))) 5 (nI (gv + 1))) 7 (nI b2))
def adF (M : Mm) (gv cnt : Nat) (kd x y z : Int32) : Mm := sI (sI (adS M gv cnt kd x y z) 12 (upd (upd (upd (upd (mI (reM M) 12) 6 (nI (cnt + 1))) 5 (nI (gv + 1))) 6 (nI cnt)) 5 (nI gv))) 47 (upd (upd (mI M 47) gv (nI 1)) gv (nI 0))
theorem ad_in {fr : Nat → Nat} {cnt g u : Nat} (hfg : ∀ k, k < cnt → fr k < g) : (∃ k, k < cnt + 1 ∧ adN fr cnt g k = u) ↔ (∃ k, k < cnt ∧ fr k = u) ∨ u = g := by
  constructor
  · rintro ⟨k, hk, e⟩
    unfold adN at e
    by_cases h : k = cnt
    · rw [if_pos h] at e; exact Or.inr e.symm
    · rw [if_neg h] at e; exact Or.inl ⟨k, by omega, e⟩
  · rintro (⟨k, hk, e⟩ | e)
    · exact ⟨k, by omega, by unfold adN; rw [if_neg (by omega)]; exact e⟩
    · exact ⟨cnt, by omega, by unfold adN; rw [if_pos rfl]; exact e.symm⟩
theorem ad_MV {M M2 : Mm} {gv cnt bar b2 : Nat} {fr : Nat → Nat} {x y z : Int32} (h : MV M gv cnt bar fr) (hg : gv < 40) (hc : cnt < 12) (hT : mT x = true ∧ mT y = true ∧ mT z = true) (h5 : mI M2 12 5 = nI (gv + 1)) (h6 : mI M2 12 6 = nI (cnt + 1)) (h7 : mI M2 12 7 = nI b2) (hb : b2 ≤ cnt + 1)
    (h44 : mI M2 44 = upd (mI M 44) cnt (nI gv)) (h46 : mI M2 46 = madd (mI M 46) gv x y z) (h47 : mI M2 47 = upd (mI M 47) gv (nI 1)) (h48 : mI M2 48 = upd (mI M 48) gv (nI 0)) (ht : ∀ t, 40 ≤ t → t ≤ 43 → mI M2 t = mI M t) : MV M2 (gv + 1) (cnt + 1) b2 (adN fr cnt gv) := by
  have hfg : ∀ k, k < cnt → fr k < gv := fun k hk => (h.2.2.2.1 k hk).2
  refine ⟨⟨h5, by omega⟩, ⟨h6, by omega⟩, ⟨h7, hb⟩, fun k hk => ?_, app_inj hfg h.2.2.2.2.1, fun u hu => ?_, by rw [h46]; exact madd_T h.2.2.2.2.2.2.1 hT, ?_, ?_, ?_⟩
  · rw [h44]
    unfold upd adN
    by_cases q : k = cnt
    · rw [if_pos q, if_pos q]; exact ⟨rfl, by omega⟩
    · rw [if_neg q, if_neg q]
      have := h.2.2.2.1 k (by omega)
      exact ⟨this.1, by omega⟩
  · rw [h47, ad_in hfg]
    unfold upd
    by_cases q : u = gv
    · rw [if_pos q]; exact ⟨fun _ => Or.inr q, fun _ => by decide⟩
    · rw [if_neg q, h.2.2.2.2.2.1 u hu]; exact ⟨Or.inl, fun g => g.elim id (fun g => absurd g q)⟩
  · rw [ht 40 (by omega) (by omega), ht 41 (by omega) (by omega), ht 42 (by omega) (by omega)]; exact h.2.2.2.2.2.2.2.1
  · rw [ht 43 (by omega) (by omega)]; exact h.2.2.2.2.2.2.2.2.1
  · rw [h48]; exact upd_T (P := fun v => v = 0 ∨ v = nI 1) h.2.2.2.2.2.2.2.2.2 (Or.inl rfl)
theorem adS_t {M : Mm} {gv cnt : Nat} {kd x y z : Int32} {t : Nat} (h : ¬ (44 ≤ t ∧ t ≤ 48)) : mI (adS M gv cnt kd x y z) t = mI (reM M) t := by
  unfold adS
  rw [mI_sI, if_neg (by omega), mI_sI, if_neg (by omega), mI_sI, if_neg (by omega), mI_sI, if_neg (by omega), mI_sI, if_neg (by omega)]
theorem adS_P (M : Mm) (gv cnt : Nat) (kd x y z : Int32) : rmP M (adS M gv cnt kd x y z) (fun t => 44 ≤ t ∧ t ≤ 48) :=
  rmP_s (rmP_s (rmP_s (rmP_s (rmP_s (S' := fun t => 44 ≤ t ∧ t ≤ 48) (re_P M) (by omega) (by omega) (fun _ q => q.elim)) (by omega) (by omega) (fun _ q => q)) (by omega) (by omega) (fun _ q => q)) (by omega) (by omega) (fun _ q => q)) (by omega) (by omega) (fun _ q => q)
theorem rmP_12f {M M' : Mm} {S : Nat → Prop} {f : Nat → Int32} (h : rmP M M' S) (hj : ∀ j, ¬ (j = 5 ∨ j = 6 ∨ j = 7) → f j = mI M' 12 j) : rmP M (sI M' 12 f) S := by
  have hn : ∀ u, ¬ u = 12 → mI (sI M' 12 f) u = mI M' u := fun u hu => by rw [mI_sI, if_neg hu]
  have h12 : ∀ u, ¬ (u = 5 ∨ u = 6 ∨ u = 7) → mI (sI M' 12 f) 12 u = mI M' 12 u := fun u hu => by rw [mI_sI, if_pos rfl]; exact hj u hu
  unfold rmP
  rw [hn 50 (by omega), hn 51 (by omega), hn 52 (by omega), h12 15 (by omega), h12 16 (by omega), h12 0 (by omega), h12 27 (by omega), h12 31 (by omega)]
  exact ⟨h.1, fun u hu hs => by rw [hn u (by omega)]; exact h.2.1 u hu hs, h.2.2⟩
theorem adB_MV {M : Mm} {gv cnt bar b2 : Nat} {fr : Nat → Nat} {kd x y z : Int32} (h : MV M gv cnt bar fr) (hg : gv < 40) (hc : cnt < 12) (hT : mT x = true ∧ mT y = true ∧ mT z = true) (hb : b2 ≤ cnt + 1) : MV (adB M gv cnt b2 kd x y z) (gv + 1) (cnt + 1) b2 (adN fr cnt gv) :=
  ad_MV h hg hc hT rfl rfl rfl hb rfl rfl rfl rfl (fun t h1 h2 => by unfold adB; rw [mI_sI, if_neg (by omega), adS_t (by omega), re_t (by omega)])
theorem adM_MV {M : Mm} {gv cnt bar : Nat} {fr : Nat → Nat} {kd x y z : Int32} (h : MV M gv cnt bar fr) (hg : gv < 40) (hc : cnt < 12) (hT : mT x = true ∧ mT y = true ∧ mT z = true) : MV (adM M gv cnt kd x y z) (gv + 1) (cnt + 1) bar (adN fr cnt gv) :=
  ad_MV h hg hc hT rfl rfl (by show mI (reM M) 12 7 = _; rw [re_12]; exact h.2.2.1.1) (by have := h.2.2.1.2; omega) rfl rfl rfl rfl (fun t h1 h2 => by unfold adM; rw [mI_sI, if_neg (by omega), adS_t (by omega), re_t (by omega)])
set_option maxRecDepth 100000 in
set_option maxHeartbeats 4000000 in
theorem c_X10_addFeature {l : Launch} {E : Ev} {M : Mm} {gv cnt bar : Nat} {fr : Nat → Nat} {kd x y z : Int32} (hMV : MV M gv cnt bar fr) : Ct l E yX10_addFeature cX10_addFeature 8 (some .int) 9 0 0 [.ref (eA E 12 0), .int kd, .int x, .int y, .int z] M (fun v M1 => (¬ (seven kd ∧ mT3 x y z = true) ∧ v = some (.int (nI 0)) ∧ M1 = cdM (c0 M) (nI 1)) ∨ ((seven kd ∧ mT3 x y z = true) ∧ ¬ (cnt < 12 ∧ gv < 40) ∧ v = some (.int (nI 0)) ∧ M1 = cdM (c0 M) (nI 2)) ∨ ((seven kd ∧ mT3 x y z = true) ∧ (cnt < 12 ∧ gv < 40) ∧ orX (adM M gv cnt kd x y z) (cnt + 1) (adN fr cnt gv) = false ∧ v = some (.int (nI 0)) ∧ M1 = cdM (adF M gv cnt kd x y z) (nI 3)) ∨ ((seven kd ∧ mT3 x y z = true) ∧ (cnt < 12 ∧ gv < 40) ∧ orX (adM M gv cnt kd x y z) (cnt + 1) (adN fr cnt gv) = true ∧ v = some (.int (nI gv)) ∧ rmP M (adB M gv cnt (if bar = cnt then cnt + 1 else bar) kd x y z) (fun t => 44 ≤ t ∧ t ≤ 48) ∧ MV (adB M gv cnt (if bar = cnt then cnt + 1 else bar) kd x y z) (gv + 1) (cnt + 1) (if bar = cnt then cnt + 1 else bar) (adN fr cnt gv) ∧ coM (adB M gv cnt (if bar = cnt then cnt + 1 else bar) kd x y z) cnt bar (if bar = cnt then cnt + 1 else bar) (adN fr cnt gv) M1)) := by
  refine Ct.of (own := RX10) rfl [some (.ref (eA E 12 0)), some (.int kd), some (.int x), some (.int y), some (.int z), none, none, none] (by decide) (Nat.le_of_ble_eq_true rfl) rfl ?_
  have T76 : ∀ (e : Int32), (seven kd ∧ mT3 x y z = true) → Jd l E RX10 cX10_addFeature 8 (some .int) [] (rmm 9 0 0) (QfN E (fun v M1 => (¬ (seven kd ∧ mT3 x y z = true) ∧ v = some (.int (nI 0)) ∧ M1 = cdM (c0 M) (nI 1)) ∨ ((seven kd ∧ mT3 x y z = true) ∧ ¬ (cnt < 12 ∧ gv < 40) ∧ v = some (.int (nI 0)) ∧ M1 = cdM (c0 M) (nI 2)) ∨ ((seven kd ∧ mT3 x y z = true) ∧ (cnt < 12 ∧ gv < 40) ∧ orX (adM M gv cnt kd x y z) (cnt + 1) (adN fr cnt gv) = false ∧ v = some (.int (nI 0)) ∧ M1 = cdM (adF M gv cnt kd x y z) (nI 3)) ∨ ((seven kd ∧ mT3 x y z = true) ∧ (cnt < 12 ∧ gv < 40) ∧ orX (adM M gv cnt kd x y z) (cnt + 1) (adN fr cnt gv) = true ∧ v = some (.int (nI gv)) ∧ rmP M (adB M gv cnt (if bar = cnt then cnt + 1 else bar) kd x y z) (fun t => 44 ≤ t ∧ t ≤ 48) ∧ MV (adB M gv cnt (if bar = cnt then cnt + 1 else bar) kd x y z) (gv + 1) (cnt + 1) (if bar = cnt then cnt + 1 else bar) (adN fr cnt gv) ∧ coM (adB M gv cnt (if bar = cnt then cnt + 1 else bar) kd x y z) cnt bar (if bar = cnt then cnt + 1 else bar) (adN fr cnt gv) M1)) 0 0) 0 0 76 [some (.ref (eA E 12 0)), some (.int kd), some (.int x), some (.int y), some (.int z), some (.int e), none, none] [] (c0 M) := by
    intro e hk
    have hc12 := hMV.2.1.2
    have hg40 := hMV.1.2
    have hb12 := hMV.2.2.1.2
    have h3 : mT x = true ∧ mT y = true ∧ mT z = true := by have q := hk.2; unfold mT3 at q; simp only [Bool.and_eq_true] at q; exact ⟨q.1.1, q.1.2, q.2⟩
    refine j_aln dX10_addFeature_76 rfl rfl ?_
    refine g_X10_6 dX10_addFeature_77 fl_X10_131 ?_
    refine j_topi (show _ = nI cnt from hMV.2.1.1) ?_
    refine j_biN 12 dX10_addFeature_80 rfl ?_
    refine j_iceqN (tgt := 94) dX10_addFeature_82 (by decide) (by omega) (by omega) (fun h82 => ?_) (fun h82 => ?_)
    · have hcg : ¬ (cnt < 12 ∧ gv < 40) := fun q => by omega
      refine j_aln dX10_addFeature_94 rfl rfl ?_
      refine j_icN 2 dX10_addFeature_95 rfl ?_
      refine j_V1d mf_X10_fails ml_X10_112 dX10_addFeature_96 (Nat.le_of_ble_eq_true rfl) (Nat.le_of_ble_eq_true rfl) (Nat.le_of_ble_eq_true rfl) ⟨(Nat.le_of_ble_eq_true rfl), (Nat.le_of_ble_eq_true rfl)⟩ (by first | assumption | decide | (simp only [nv] at *; omega)) rfl rfl c_X10_fails ?_
      exact j_iret dX10_addFeature_99 rfl rfl (Nat.le_of_ble_eq_true rfl) (Nat.le_of_ble_eq_true rfl) (Or.inr (Or.inl ⟨hk, hcg, rfl, rfl⟩))
    · refine j_aln dX10_addFeature_85 rfl rfl ?_
      refine g_X10_5 dX10_addFeature_86 fl_X10_143 ?_
      refine j_topi (show _ = nI gv from hMV.1.1) ?_
      refine j_biN 40 dX10_addFeature_89 rfl ?_
      refine j_icneN (tgt := 100) dX10_addFeature_91 (by decide) (by omega) (by omega) (fun h91 => ?_) (fun h91 => ?_)
      · have hcg : cnt < 12 ∧ gv < 40 := ⟨by omega, by omega⟩
        refine j_aln dX10_addFeature_100 rfl rfl ?_
        refine j_V0n mf_X10_remembers ml_X10_115 dX10_addFeature_101 (Nat.le_of_ble_eq_true rfl) (Nat.le_of_ble_eq_true rfl) (Nat.le_of_ble_eq_true rfl) ⟨(Nat.le_of_ble_eq_true rfl), (Nat.le_of_ble_eq_true rfl)⟩ (by first | assumption | decide | (simp only [nv] at *; omega)) rfl rfl (c_reV hMV) ?_
        refine j_aln dX10_addFeature_104 rfl rfl ?_
        refine g_X10_5 dX10_addFeature_105 fl_X10_143 ?_
        refine j_topi (show _ = nI gv from by rw [re_12]; exact hMV.1.1) ?_
        refine j_ist_6 dX10_addFeature_108 (by decide) rfl ?_
        refine j_aln dX10_addFeature_110 rfl rfl ?_
        refine g_X10_9 dX10_addFeature_111 fl_X10_26 ?_
        refine j_il dX10_addFeature_114 rfl ?_
        refine j_iln dX10_addFeature_116 rfl rfl ?_
        refine j_acstN dX10_addFeature_117 rfl (fun _ => rfl) rfl (by decide) (by omega) (sv_vp hk.1) ?_
        refine j_aln dX10_addFeature_118 rfl rfl ?_
        refine g_X10_10 dX10_addFeature_119 fl_X10_29 ?_
        refine j_biN 6 dX10_addFeature_122 rfl ?_
        refine j_il dX10_addFeature_124 rfl ?_
        refine j_imulN dX10_addFeature_126 ?_
        refine j_iln dX10_addFeature_127 rfl rfl ?_
        refine j_aistN dX10_addFeature_128 rfl (fun _ => rfl) rfl (by decide) (by omega) ?_
        refine j_aln dX10_addFeature_129 rfl rfl ?_
        refine g_X10_10 dX10_addFeature_130 fl_X10_29 ?_
        refine j_biN 6 dX10_addFeature_133 rfl ?_
        refine j_il dX10_addFeature_135 rfl ?_
        refine j_imulN dX10_addFeature_137 ?_
        refine j_icN 1 dX10_addFeature_138 rfl ?_
        refine j_iaddN dX10_addFeature_139 ?_
        refine j_iln dX10_addFeature_140 rfl rfl ?_
        refine j_aistN dX10_addFeature_141 rfl (fun _ => rfl) rfl (by decide) (by omega) ?_
        refine j_aln dX10_addFeature_142 rfl rfl ?_
        refine g_X10_10 dX10_addFeature_143 fl_X10_29 ?_
        refine j_biN 6 dX10_addFeature_146 rfl ?_
        refine j_il dX10_addFeature_148 rfl ?_
        refine j_imulN dX10_addFeature_150 ?_
        refine j_icN 2 dX10_addFeature_151 rfl ?_
        refine j_iaddN dX10_addFeature_152 ?_
        refine j_il dX10_addFeature_153 rfl ?_
        refine j_aistN dX10_addFeature_155 rfl (fun _ => rfl) rfl (by decide) (by omega) ?_
        refine j_aln dX10_addFeature_156 rfl rfl ?_
        refine g_X10_10 dX10_addFeature_157 fl_X10_29 ?_
        refine j_biN 6 dX10_addFeature_160 rfl ?_
        refine j_il dX10_addFeature_162 rfl ?_
        refine j_imulN dX10_addFeature_164 ?_
        refine j_icN 3 dX10_addFeature_165 rfl ?_
        refine j_iaddN dX10_addFeature_166 ?_
        refine j_icN 1 dX10_addFeature_167 rfl ?_
        refine j_aistN dX10_addFeature_168 rfl (fun _ => rfl) rfl (by decide) (by omega) ?_
        refine j_aln dX10_addFeature_169 rfl rfl ?_
        refine g_X10_10 dX10_addFeature_170 fl_X10_29 ?_
        refine j_biN 6 dX10_addFeature_173 rfl ?_
        refine j_il dX10_addFeature_175 rfl ?_
        refine j_imulN dX10_addFeature_177 ?_
        refine j_icN 4 dX10_addFeature_178 rfl ?_
        refine j_iaddN dX10_addFeature_179 ?_
        refine j_icN 1 dX10_addFeature_180 rfl ?_
        refine j_aistN dX10_addFeature_181 rfl (fun _ => rfl) rfl (by decide) (by omega) ?_
        refine j_aln dX10_addFeature_182 rfl rfl ?_
        refine g_X10_10 dX10_addFeature_183 fl_X10_29 ?_
        refine j_biN 6 dX10_addFeature_186 rfl ?_
        refine j_il dX10_addFeature_188 rfl ?_
        refine j_imulN dX10_addFeature_190 ?_
        refine j_icN 5 dX10_addFeature_191 rfl ?_
        refine j_iaddN dX10_addFeature_192 ?_
        refine j_icN 1 dX10_addFeature_193 rfl ?_
        refine j_aistN dX10_addFeature_194 rfl (fun _ => rfl) rfl (by decide) (by omega) ?_
        refine j_aln dX10_addFeature_195 rfl rfl ?_
        refine g_X10_11 dX10_addFeature_196 fl_X10_32 ?_
        refine j_il dX10_addFeature_199 rfl ?_
        refine j_icN 1 dX10_addFeature_201 rfl ?_
        refine j_azstN dX10_addFeature_202 rfl (fun _ => rfl) rfl (by decide) (by omega) (by decide) ?_
        refine j_aln dX10_addFeature_203 rfl rfl ?_
        refine g_X10_12 dX10_addFeature_204 fl_X10_36 ?_
        refine j_il dX10_addFeature_207 rfl ?_
        refine j_icN 0 dX10_addFeature_209 rfl ?_
        refine j_azstN dX10_addFeature_210 rfl (fun _ => rfl) rfl (by decide) (by omega) (by decide) ?_
        refine j_aln dX10_addFeature_211 rfl rfl ?_
        refine g_X10_8 dX10_addFeature_212 fl_X10_23 ?_
        refine j_aln dX10_addFeature_215 rfl rfl ?_
        refine g_X10_6 dX10_addFeature_216 fl_X10_131 ?_
        refine j_topi (show _ = nI cnt from by show mI (reM M) 12 6 = _; rw [re_12]; exact hMV.2.1.1) ?_
        refine j_il dX10_addFeature_219 rfl ?_
        refine j_aistN dX10_addFeature_221 rfl (fun _ => rfl) rfl (by decide) (by omega) ?_
        refine j_aln dX10_addFeature_222 rfl rfl ?_
        refine g_X10_7 dX10_addFeature_223 fl_X10_137 ?_
        refine j_topi (show _ = nI bar from by show mI (reM M) 12 7 = _; rw [re_12]; exact hMV.2.2.1.1) ?_
        refine j_aln dX10_addFeature_226 rfl rfl ?_
        refine g_X10_6 dX10_addFeature_227 fl_X10_131 ?_
        refine j_topi (show _ = nI cnt from by show mI (reM M) 12 6 = _; rw [re_12]; exact hMV.2.1.1) ?_
        refine j_icneN (tgt := 237) dX10_addFeature_230 (by decide) (by omega) (by omega) (fun h230 => ?_) (fun h230 => ?_)
        · have hb : (if bar = cnt then cnt + 1 else bar) = bar := if_neg h230
          refine j_icN 0 dX10_addFeature_237 rfl ?_
          refine j_ist_7 dX10_addFeature_238 (by decide) rfl ?_
          refine j_aln dX10_addFeature_240 rfl rfl ?_
          refine j_dup dX10_addFeature_241 rfl ?_
          refine g_X10_6 dX10_addFeature_242 fl_X10_131 ?_
          refine j_topi (show _ = nI cnt from by show mI (reM M) 12 6 = _; rw [re_12]; exact hMV.2.1.1) ?_
          refine j_icN 1 dX10_addFeature_245 rfl ?_
          refine j_iaddN dX10_addFeature_246 ?_
          refine p_X10_6 dX10_addFeature_247 fl_X10_131 ?_
          refine j_aln dX10_addFeature_250 rfl rfl ?_
          refine j_dup dX10_addFeature_251 rfl ?_
          refine g_X10_5 dX10_addFeature_252 fl_X10_143 ?_
          refine j_topi (show _ = nI gv from by show mI (reM M) 12 5 = _; rw [re_12]; exact hMV.1.1) ?_
          refine j_icN 1 dX10_addFeature_255 rfl ?_
          refine j_iaddN dX10_addFeature_256 ?_
          refine p_X10_5 dX10_addFeature_257 fl_X10_143 ?_
          refine j_mem (M' := adM M gv cnt kd x y z) (by unfold adM adS madd; simp only [sI_sI]; rw [← re_t (M := M) (t := 44) (by omega), ← re_t (M := M) (t := 45) (by omega), ← re_t (M := M) (t := 46) (by omega), ← re_t (M := M) (t := 47) (by omega), ← re_t (M := M) (t := 48) (by omega)]; first | done | rfl) ?_
          have hMm := adM_MV (kd := kd) hMV hcg.2 hcg.1 h3
          refine j_aln dX10_addFeature_260 rfl rfl ?_
          refine j_V0d mf_X10_isOrdered ml_X10_124 dX10_addFeature_261 (Nat.le_of_ble_eq_true rfl) (Nat.le_of_ble_eq_true rfl) (Nat.le_of_ble_eq_true rfl) ⟨(Nat.le_of_ble_eq_true rfl), (Nat.le_of_ble_eq_true rfl)⟩ (by first | assumption | decide | (simp only [nv] at *; omega)) rfl rfl (c_orV hMm) ?_
          refine j_ifne (tgt := 301) dX10_addFeature_264 (by decide) (fun h264 => ?_) (fun h264 => ?_)
          · have ho : orX (adM M gv cnt kd x y z) (cnt + 1) (adN fr cnt gv) = true := bI_ne.mp h264
            refine j_aln dX10_addFeature_301 rfl rfl ?_
            refine j_il dX10_addFeature_302 rfl ?_
            refine j_ifeqN (tgt := 314) dX10_addFeature_304 (by decide) (by omega) (fun h304 => ?_) (fun h304 => ?_)
            · refine j_aln dX10_addFeature_314 rfl rfl ?_
              refine g_X10_7 dX10_addFeature_315 fl_X10_137 ?_
              refine j_topi (show _ = nI bar from by show mI (reM M) 12 7 = _; rw [re_12]; exact hMV.2.2.1.1) ?_
              refine p_X10_7 dX10_addFeature_318 fl_X10_137 ?_
              refine j_mem (M' := (adB M gv cnt (if bar = cnt then cnt + 1 else bar) kd x y z)) (by unfold adM; rw [sI_sI, hb]; rfl) ?_
              have hM := adB_MV (b2 := (if bar = cnt then cnt + 1 else bar)) (kd := kd) hMV hcg.2 hcg.1 h3 (by split <;> omega)
              have hr : rmP M (adB M gv cnt (if bar = cnt then cnt + 1 else bar) kd x y z) (fun t => 44 ≤ t ∧ t ≤ 48) := rmP_12f (adS_P M gv cnt kd x y z) (fun j hj => by rw [adS_t (by omega)]; unfold upd; rw [if_neg (by omega), if_neg (by omega), if_neg (by omega)])
              refine j_aln dX10_addFeature_321 rfl rfl ?_
              refine j_V0g mf_X10_carriesOut ml_X10_128 dX10_addFeature_322 (Nat.le_of_ble_eq_true rfl) (Nat.le_of_ble_eq_true rfl) (Nat.le_of_ble_eq_true rfl) ⟨(Nat.le_of_ble_eq_true rfl), (Nat.le_of_ble_eq_true rfl)⟩ (by first | assumption | decide | (simp only [nv] at *; omega)) rfl rfl (c_coV hr hM hMV.2.1.1 hMV.2.1.2 hMV.2.2.1.1 (by have := hMV.2.2.1.2; have := hMV.2.1.2; omega)) ?_
              intro v M9 hpp
              obtain ⟨hv, hc⟩ := hpp
              subst hv
              refine j_il dX10_addFeature_325 rfl ?_
              exact j_iret dX10_addFeature_327 rfl rfl (Nat.le_of_ble_eq_true rfl) (Nat.le_of_ble_eq_true rfl) (Or.inr (Or.inr (Or.inr ⟨hk, hcg, ho, rfl, hr, hM, hc⟩)))
            · exact absurd rfl h304
          · have ho : orX (adM M gv cnt kd x y z) (cnt + 1) (adN fr cnt gv) = false := bI_eq.mp h264
            refine j_aln dX10_addFeature_267 rfl rfl ?_
            refine j_dup dX10_addFeature_268 rfl ?_
            refine g_X10_6 dX10_addFeature_269 fl_X10_131 ?_
            refine j_topi (show _ = nI (cnt + 1) from rfl) ?_
            refine j_icN 1 dX10_addFeature_272 rfl ?_
            refine j_isubN dX10_addFeature_273 (by omega) ?_
            refine p_X10_6 dX10_addFeature_274 fl_X10_131 ?_
            refine j_aln dX10_addFeature_277 rfl rfl ?_
            refine j_dup dX10_addFeature_278 rfl ?_
            refine g_X10_5 dX10_addFeature_279 fl_X10_143 ?_
            refine j_topi (show _ = nI (gv + 1) from rfl) ?_
            refine j_icN 1 dX10_addFeature_282 rfl ?_
            refine j_isubN dX10_addFeature_283 (by omega) ?_
            refine p_X10_5 dX10_addFeature_284 fl_X10_143 ?_
            refine j_aln dX10_addFeature_287 rfl rfl ?_
            refine g_X10_11 dX10_addFeature_288 fl_X10_32 ?_
            refine j_il dX10_addFeature_291 rfl ?_
            refine j_icN 0 dX10_addFeature_293 rfl ?_
            refine j_azstN dX10_addFeature_294 rfl (fun _ => rfl) rfl (by decide) (by omega) (by decide) ?_
            refine j_mem (M' := adF M gv cnt kd x y z) (by unfold adM adF; simp only [sI_sI]; rfl) ?_
            refine j_aln dX10_addFeature_295 rfl rfl ?_
            refine j_icN 3 dX10_addFeature_296 rfl ?_
            refine j_V1d mf_X10_fails ml_X10_112 dX10_addFeature_297 (Nat.le_of_ble_eq_true rfl) (Nat.le_of_ble_eq_true rfl) (Nat.le_of_ble_eq_true rfl) ⟨(Nat.le_of_ble_eq_true rfl), (Nat.le_of_ble_eq_true rfl)⟩ (by first | assumption | decide | (simp only [nv] at *; omega)) rfl rfl c_X10_fails ?_
            exact j_iret dX10_addFeature_300 rfl rfl (Nat.le_of_ble_eq_true rfl) (Nat.le_of_ble_eq_true rfl) (Or.inr (Or.inr (Or.inl ⟨hk, hcg, ho, rfl, rfl⟩)))
        · have hb : (if bar = cnt then cnt + 1 else bar) = cnt + 1 := if_pos h230
          refine j_icN 1 dX10_addFeature_233 rfl ?_
          refine j_goto (tgt := 238) dX10_addFeature_234 (by decide) ?_
          refine j_ist_7 dX10_addFeature_238 (by decide) rfl ?_
          refine j_aln dX10_addFeature_240 rfl rfl ?_
          refine j_dup dX10_addFeature_241 rfl ?_
          refine g_X10_6 dX10_addFeature_242 fl_X10_131 ?_
          refine j_topi (show _ = nI cnt from by show mI (reM M) 12 6 = _; rw [re_12]; exact hMV.2.1.1) ?_
          refine j_icN 1 dX10_addFeature_245 rfl ?_
          refine j_iaddN dX10_addFeature_246 ?_
          refine p_X10_6 dX10_addFeature_247 fl_X10_131 ?_
          refine j_aln dX10_addFeature_250 rfl rfl ?_
          refine j_dup dX10_addFeature_251 rfl ?_
          refine g_X10_5 dX10_addFeature_252 fl_X10_143 ?_
          refine j_topi (show _ = nI gv from by show mI (reM M) 12 5 = _; rw [re_12]; exact hMV.1.1) ?_
          refine j_icN 1 dX10_addFeature_255 rfl ?_
          refine j_iaddN dX10_addFeature_256 ?_
          refine p_X10_5 dX10_addFeature_257 fl_X10_143 ?_
          refine j_mem (M' := adM M gv cnt kd x y z) (by unfold adM adS madd; simp only [sI_sI]; rw [← re_t (M := M) (t := 44) (by omega), ← re_t (M := M) (t := 45) (by omega), ← re_t (M := M) (t := 46) (by omega), ← re_t (M := M) (t := 47) (by omega), ← re_t (M := M) (t := 48) (by omega)]; first | done | rfl) ?_
          have hMm := adM_MV (kd := kd) hMV hcg.2 hcg.1 h3
          refine j_aln dX10_addFeature_260 rfl rfl ?_
          refine j_V0d mf_X10_isOrdered ml_X10_124 dX10_addFeature_261 (Nat.le_of_ble_eq_true rfl) (Nat.le_of_ble_eq_true rfl) (Nat.le_of_ble_eq_true rfl) ⟨(Nat.le_of_ble_eq_true rfl), (Nat.le_of_ble_eq_true rfl)⟩ (by first | assumption | decide | (simp only [nv] at *; omega)) rfl rfl (c_orV hMm) ?_
          refine j_ifne (tgt := 301) dX10_addFeature_264 (by decide) (fun h264 => ?_) (fun h264 => ?_)
          · have ho : orX (adM M gv cnt kd x y z) (cnt + 1) (adN fr cnt gv) = true := bI_ne.mp h264
            refine j_aln dX10_addFeature_301 rfl rfl ?_
            refine j_il dX10_addFeature_302 rfl ?_
            refine j_ifeqN (tgt := 314) dX10_addFeature_304 (by decide) (by omega) (fun h304 => ?_) (fun h304 => ?_)
            · exact absurd h304 (by decide)
            · refine j_aln dX10_addFeature_307 rfl rfl ?_
              refine g_X10_6 dX10_addFeature_308 fl_X10_131 ?_
              refine j_topi (show _ = nI (cnt + 1) from rfl) ?_
              refine j_goto (tgt := 318) dX10_addFeature_311 (by decide) ?_
              refine p_X10_7 dX10_addFeature_318 fl_X10_137 ?_
              refine j_mem (M' := (adB M gv cnt (if bar = cnt then cnt + 1 else bar) kd x y z)) (by unfold adM; rw [sI_sI, hb]; rfl) ?_
              have hM := adB_MV (b2 := (if bar = cnt then cnt + 1 else bar)) (kd := kd) hMV hcg.2 hcg.1 h3 (by split <;> omega)
              have hr : rmP M (adB M gv cnt (if bar = cnt then cnt + 1 else bar) kd x y z) (fun t => 44 ≤ t ∧ t ≤ 48) := rmP_12f (adS_P M gv cnt kd x y z) (fun j hj => by rw [adS_t (by omega)]; unfold upd; rw [if_neg (by omega), if_neg (by omega), if_neg (by omega)])
              refine j_aln dX10_addFeature_321 rfl rfl ?_
              refine j_V0g mf_X10_carriesOut ml_X10_128 dX10_addFeature_322 (Nat.le_of_ble_eq_true rfl) (Nat.le_of_ble_eq_true rfl) (Nat.le_of_ble_eq_true rfl) ⟨(Nat.le_of_ble_eq_true rfl), (Nat.le_of_ble_eq_true rfl)⟩ (by first | assumption | decide | (simp only [nv] at *; omega)) rfl rfl (c_coV hr hM hMV.2.1.1 hMV.2.1.2 hMV.2.2.1.1 (by have := hMV.2.2.1.2; have := hMV.2.1.2; omega)) ?_
              intro v M9 hpp
              obtain ⟨hv, hc⟩ := hpp
              subst hv
              refine j_il dX10_addFeature_325 rfl ?_
              exact j_iret dX10_addFeature_327 rfl rfl (Nat.le_of_ble_eq_true rfl) (Nat.le_of_ble_eq_true rfl) (Or.inr (Or.inr (Or.inr ⟨hk, hcg, ho, rfl, hr, hM, hc⟩)))
          · have ho : orX (adM M gv cnt kd x y z) (cnt + 1) (adN fr cnt gv) = false := bI_eq.mp h264
            refine j_aln dX10_addFeature_267 rfl rfl ?_
            refine j_dup dX10_addFeature_268 rfl ?_
            refine g_X10_6 dX10_addFeature_269 fl_X10_131 ?_
            refine j_topi (show _ = nI (cnt + 1) from rfl) ?_
            refine j_icN 1 dX10_addFeature_272 rfl ?_
            refine j_isubN dX10_addFeature_273 (by omega) ?_
            refine p_X10_6 dX10_addFeature_274 fl_X10_131 ?_
            refine j_aln dX10_addFeature_277 rfl rfl ?_
            refine j_dup dX10_addFeature_278 rfl ?_
            refine g_X10_5 dX10_addFeature_279 fl_X10_143 ?_
            refine j_topi (show _ = nI (gv + 1) from rfl) ?_
            refine j_icN 1 dX10_addFeature_282 rfl ?_
            refine j_isubN dX10_addFeature_283 (by omega) ?_
            refine p_X10_5 dX10_addFeature_284 fl_X10_143 ?_
            refine j_aln dX10_addFeature_287 rfl rfl ?_
            refine g_X10_11 dX10_addFeature_288 fl_X10_32 ?_
            refine j_il dX10_addFeature_291 rfl ?_
            refine j_icN 0 dX10_addFeature_293 rfl ?_
            refine j_azstN dX10_addFeature_294 rfl (fun _ => rfl) rfl (by decide) (by omega) (by decide) ?_
            refine j_mem (M' := adF M gv cnt kd x y z) (by unfold adM adF; simp only [sI_sI]; rfl) ?_
            refine j_aln dX10_addFeature_295 rfl rfl ?_
            refine j_icN 3 dX10_addFeature_296 rfl ?_
            refine j_V1d mf_X10_fails ml_X10_112 dX10_addFeature_297 (Nat.le_of_ble_eq_true rfl) (Nat.le_of_ble_eq_true rfl) (Nat.le_of_ble_eq_true rfl) ⟨(Nat.le_of_ble_eq_true rfl), (Nat.le_of_ble_eq_true rfl)⟩ (by first | assumption | decide | (simp only [nv] at *; omega)) rfl rfl c_X10_fails ?_
            exact j_iret dX10_addFeature_300 rfl rfl (Nat.le_of_ble_eq_true rfl) (Nat.le_of_ble_eq_true rfl) (Or.inr (Or.inr (Or.inl ⟨hk, hcg, ho, rfl, rfl⟩)))
      · have hcg : ¬ (cnt < 12 ∧ gv < 40) := fun q => by omega
        refine j_aln dX10_addFeature_94 rfl rfl ?_
        refine j_icN 2 dX10_addFeature_95 rfl ?_
        refine j_V1d mf_X10_fails ml_X10_112 dX10_addFeature_96 (Nat.le_of_ble_eq_true rfl) (Nat.le_of_ble_eq_true rfl) (Nat.le_of_ble_eq_true rfl) ⟨(Nat.le_of_ble_eq_true rfl), (Nat.le_of_ble_eq_true rfl)⟩ (by first | assumption | decide | (simp only [nv] at *; omega)) rfl rfl c_X10_fails ?_
        exact j_iret dX10_addFeature_99 rfl rfl (Nat.le_of_ble_eq_true rfl) (Nat.le_of_ble_eq_true rfl) (Or.inr (Or.inl ⟨hk, hcg, rfl, rfl⟩))
  have T54n : ¬ seven kd → Jd l E RX10 cX10_addFeature 8 (some .int) [] (rmm 9 0 0) (QfN E (fun v M1 => (¬ (seven kd ∧ mT3 x y z = true) ∧ v = some (.int (nI 0)) ∧ M1 = cdM (c0 M) (nI 1)) ∨ ((seven kd ∧ mT3 x y z = true) ∧ ¬ (cnt < 12 ∧ gv < 40) ∧ v = some (.int (nI 0)) ∧ M1 = cdM (c0 M) (nI 2)) ∨ ((seven kd ∧ mT3 x y z = true) ∧ (cnt < 12 ∧ gv < 40) ∧ orX (adM M gv cnt kd x y z) (cnt + 1) (adN fr cnt gv) = false ∧ v = some (.int (nI 0)) ∧ M1 = cdM (adF M gv cnt kd x y z) (nI 3)) ∨ ((seven kd ∧ mT3 x y z = true) ∧ (cnt < 12 ∧ gv < 40) ∧ orX (adM M gv cnt kd x y z) (cnt + 1) (adN fr cnt gv) = true ∧ v = some (.int (nI gv)) ∧ rmP M (adB M gv cnt (if bar = cnt then cnt + 1 else bar) kd x y z) (fun t => 44 ≤ t ∧ t ≤ 48) ∧ MV (adB M gv cnt (if bar = cnt then cnt + 1 else bar) kd x y z) (gv + 1) (cnt + 1) (if bar = cnt then cnt + 1 else bar) (adN fr cnt gv) ∧ coM (adB M gv cnt (if bar = cnt then cnt + 1 else bar) kd x y z) cnt bar (if bar = cnt then cnt + 1 else bar) (adN fr cnt gv) M1)) 0 0) 0 0 54 [some (.ref (eA E 12 0)), some (.int kd), some (.int x), some (.int y), some (.int z), some (.int (nI 0)), none, none] [] (c0 M) := by
    intro hs
    refine j_il dX10_addFeature_54 rfl ?_
    refine j_ifeqN (tgt := 70) dX10_addFeature_56 (by decide) (by omega) (fun h56 => ?_) (fun h56 => ?_)
    · refine j_aln dX10_addFeature_70 rfl rfl ?_
      refine j_icN 1 dX10_addFeature_71 rfl ?_
      refine j_V1d mf_X10_fails ml_X10_112 dX10_addFeature_72 (Nat.le_of_ble_eq_true rfl) (Nat.le_of_ble_eq_true rfl) (Nat.le_of_ble_eq_true rfl) ⟨(Nat.le_of_ble_eq_true rfl), (Nat.le_of_ble_eq_true rfl)⟩ (by first | assumption | decide | (simp only [nv] at *; omega)) rfl rfl c_X10_fails ?_
      exact j_iret dX10_addFeature_75 rfl rfl (Nat.le_of_ble_eq_true rfl) (Nat.le_of_ble_eq_true rfl) (Or.inl ⟨fun q => hs q.1, rfl, rfl⟩)
    · exact absurd rfl h56
  have T54y : seven kd → Jd l E RX10 cX10_addFeature 8 (some .int) [] (rmm 9 0 0) (QfN E (fun v M1 => (¬ (seven kd ∧ mT3 x y z = true) ∧ v = some (.int (nI 0)) ∧ M1 = cdM (c0 M) (nI 1)) ∨ ((seven kd ∧ mT3 x y z = true) ∧ ¬ (cnt < 12 ∧ gv < 40) ∧ v = some (.int (nI 0)) ∧ M1 = cdM (c0 M) (nI 2)) ∨ ((seven kd ∧ mT3 x y z = true) ∧ (cnt < 12 ∧ gv < 40) ∧ orX (adM M gv cnt kd x y z) (cnt + 1) (adN fr cnt gv) = false ∧ v = some (.int (nI 0)) ∧ M1 = cdM (adF M gv cnt kd x y z) (nI 3)) ∨ ((seven kd ∧ mT3 x y z = true) ∧ (cnt < 12 ∧ gv < 40) ∧ orX (adM M gv cnt kd x y z) (cnt + 1) (adN fr cnt gv) = true ∧ v = some (.int (nI gv)) ∧ rmP M (adB M gv cnt (if bar = cnt then cnt + 1 else bar) kd x y z) (fun t => 44 ≤ t ∧ t ≤ 48) ∧ MV (adB M gv cnt (if bar = cnt then cnt + 1 else bar) kd x y z) (gv + 1) (cnt + 1) (if bar = cnt then cnt + 1 else bar) (adN fr cnt gv) ∧ coM (adB M gv cnt (if bar = cnt then cnt + 1 else bar) kd x y z) cnt bar (if bar = cnt then cnt + 1 else bar) (adN fr cnt gv) M1)) 0 0) 0 0 54 [some (.ref (eA E 12 0)), some (.int kd), some (.int x), some (.int y), some (.int z), some (.int (nI 1)), none, none] [] (c0 M) := by
    intro hs
    refine j_il dX10_addFeature_54 rfl ?_
    refine j_ifeqN (tgt := 70) dX10_addFeature_56 (by decide) (by omega) (fun h56 => ?_) (fun h56 => ?_)
    · exact absurd h56 (by decide)
    · refine j_aln dX10_addFeature_59 rfl rfl ?_
      refine j_iln dX10_addFeature_60 rfl rfl ?_
      refine j_iln dX10_addFeature_61 rfl rfl ?_
      refine j_il dX10_addFeature_62 rfl ?_
      refine j_V3d mf_X10_isDimension ml_X10_167 dX10_addFeature_64 (Nat.le_of_ble_eq_true rfl) (Nat.le_of_ble_eq_true rfl) (Nat.le_of_ble_eq_true rfl) ⟨(Nat.le_of_ble_eq_true rfl), (Nat.le_of_ble_eq_true rfl)⟩ (by first | assumption | decide | (simp only [nv] at *; omega)) rfl rfl c_X10_isDimension ?_
      refine j_ifne (tgt := 76) dX10_addFeature_67 (by decide) (fun h67 => ?_) (fun h67 => ?_)
      · exact T76 _ ⟨hs, bI_ne.mp h67⟩
      · have h3 : mT3 x y z = false := bI_eq.mp h67
        refine j_aln dX10_addFeature_70 rfl rfl ?_
        refine j_icN 1 dX10_addFeature_71 rfl ?_
        refine j_V1d mf_X10_fails ml_X10_112 dX10_addFeature_72 (Nat.le_of_ble_eq_true rfl) (Nat.le_of_ble_eq_true rfl) (Nat.le_of_ble_eq_true rfl) ⟨(Nat.le_of_ble_eq_true rfl), (Nat.le_of_ble_eq_true rfl)⟩ (by first | assumption | decide | (simp only [nv] at *; omega)) rfl rfl c_X10_fails ?_
        exact j_iret dX10_addFeature_75 rfl rfl (Nat.le_of_ble_eq_true rfl) (Nat.le_of_ble_eq_true rfl) (Or.inl ⟨fun q => by rw [h3] at q; exact absurd q.2 (by decide), rfl, rfl⟩)
  refine j_aln dX10_addFeature_0 rfl rfl ?_
  refine j_icN 0 dX10_addFeature_1 rfl ?_
  refine p_X10_0 dX10_addFeature_2 fl_X10_96 ?_
  refine j_iln dX10_addFeature_5 rfl rfl ?_
  refine j_biN 98 dX10_addFeature_6 rfl ?_
  refine j_iceq (tgt := 47) dX10_addFeature_8 (by decide) (fun h8 => ?_) (fun h8 => ?_)
  · refine j_icN 1 dX10_addFeature_47 rfl ?_
    refine j_goto (tgt := 52) dX10_addFeature_48 (by decide) ?_
    refine j_ist_5 dX10_addFeature_52 (by decide) rfl ?_
    exact T54y (Or.inl h8)
  · refine j_iln dX10_addFeature_11 rfl rfl ?_
    refine j_biN 99 dX10_addFeature_12 rfl ?_
    refine j_iceq (tgt := 47) dX10_addFeature_14 (by decide) (fun h14 => ?_) (fun h14 => ?_)
    · refine j_icN 1 dX10_addFeature_47 rfl ?_
      refine j_goto (tgt := 52) dX10_addFeature_48 (by decide) ?_
      refine j_ist_5 dX10_addFeature_52 (by decide) rfl ?_
      exact T54y (Or.inr (Or.inl h14))
    · refine j_iln dX10_addFeature_17 rfl rfl ?_
      refine j_biN 105 dX10_addFeature_18 rfl ?_
      refine j_iceq (tgt := 47) dX10_addFeature_20 (by decide) (fun h20 => ?_) (fun h20 => ?_)
      · refine j_icN 1 dX10_addFeature_47 rfl ?_
        refine j_goto (tgt := 52) dX10_addFeature_48 (by decide) ?_
        refine j_ist_5 dX10_addFeature_52 (by decide) rfl ?_
        exact T54y (Or.inr (Or.inr (Or.inl h20)))
      · refine j_iln dX10_addFeature_23 rfl rfl ?_
        refine j_biN 109 dX10_addFeature_24 rfl ?_
        refine j_iceq (tgt := 47) dX10_addFeature_26 (by decide) (fun h26 => ?_) (fun h26 => ?_)
        · refine j_icN 1 dX10_addFeature_47 rfl ?_
          refine j_goto (tgt := 52) dX10_addFeature_48 (by decide) ?_
          refine j_ist_5 dX10_addFeature_52 (by decide) rfl ?_
          exact T54y (Or.inr (Or.inr (Or.inr (Or.inl h26))))
        · refine j_iln dX10_addFeature_29 rfl rfl ?_
          refine j_biN 112 dX10_addFeature_30 rfl ?_
          refine j_iceq (tgt := 47) dX10_addFeature_32 (by decide) (fun h32 => ?_) (fun h32 => ?_)
          · refine j_icN 1 dX10_addFeature_47 rfl ?_
            refine j_goto (tgt := 52) dX10_addFeature_48 (by decide) ?_
            refine j_ist_5 dX10_addFeature_52 (by decide) rfl ?_
            exact T54y (Or.inr (Or.inr (Or.inr (Or.inr (Or.inl h32)))))
          · refine j_iln dX10_addFeature_35 rfl rfl ?_
            refine j_biN 104 dX10_addFeature_36 rfl ?_
            refine j_iceq (tgt := 47) dX10_addFeature_38 (by decide) (fun h38 => ?_) (fun h38 => ?_)
            · refine j_icN 1 dX10_addFeature_47 rfl ?_
              refine j_goto (tgt := 52) dX10_addFeature_48 (by decide) ?_
              refine j_ist_5 dX10_addFeature_52 (by decide) rfl ?_
              exact T54y (Or.inr (Or.inr (Or.inr (Or.inr (Or.inr (Or.inl h38))))))
            · refine j_iln dX10_addFeature_41 rfl rfl ?_
              refine j_biN 101 dX10_addFeature_42 rfl ?_
              refine j_icne (tgt := 51) dX10_addFeature_44 (by decide) (fun h44 => ?_) (fun h44 => ?_)
              · refine j_icN 0 dX10_addFeature_51 rfl ?_
                refine j_ist_5 dX10_addFeature_52 (by decide) rfl ?_
                exact T54n (fun q => q.elim h8 (fun q => q.elim h14 (fun q => q.elim h20 (fun q => q.elim h26 (fun q => q.elim h32 (fun q => q.elim h38 h44))))))
              · refine j_icN 1 dX10_addFeature_47 rfl ?_
                refine j_goto (tgt := 52) dX10_addFeature_48 (by decide) ?_
                refine j_ist_5 dX10_addFeature_52 (by decide) rfl ?_
                exact T54y (Or.inr (Or.inr (Or.inr (Or.inr (Or.inr (Or.inr (h44)))))))
