/-! the law's state: a number out of all answers -/
def hF (M : Mm) (cnt bar : Nat) : Nat → Int64
  | 0 => 173
  | f + 1 => 31 * (31 * (31 * hF M cnt bar f + (plX M cnt (nI f)).toInt64) + (stX9 M cnt bar (nI f)).toInt64) + (sqX M bar f (f % 6)).toInt64
theorem hF_0 (M : Mm) (cnt bar : Nat) : hF M cnt bar 0 = 173 := by rw [hF]
theorem hF_s (M : Mm) (cnt bar f : Nat) : hF M cnt bar (f + 1) = 31 * (31 * (31 * hF M cnt bar f + (plX M cnt (nI f)).toInt64) + (stX9 M cnt bar (nI f)).toInt64) + (sqX M bar f (f % 6)).toInt64 := by rw [hF]
def hN (M : Mm) (h : Int64) : Nat → Int64
  | 0 => h
  | n + 1 => 31 * hN M h n + (mI M 23 n).toInt64
theorem hN_0 (M : Mm) (h : Int64) : hN M h 0 = h := by rw [hN]
theorem hN_s (M : Mm) (h : Int64) (n : Nat) : hN M h (n + 1) = 31 * hN M h n + (mI M 23 n).toInt64 := by rw [hN]
def hP (M : Mm) (h : Int64) : Nat → Int64
  | 0 => h
  | k + 1 => 31 * hP M h k + (mvX (mI M 34) (nI (k / 3)) (k % 3)).toInt64
theorem hP_0 (M : Mm) (h : Int64) : hP M h 0 = h := by rw [hP]
theorem hP_s (M : Mm) (h : Int64) (k : Nat) : hP M h (k + 1) = 31 * hP M h k + (mvX (mI M 34) (nI (k / 3)) (k % 3)).toInt64 := by rw [hP]
def hE (M : Mm) (g cnt bar pc : Nat) : Int64 := hP M (hN M (hF M cnt bar g) 8) (3 * pc)
def stH (M : Mm) (g cnt bar pc : Nat) : Int64 := 31 * (31 * (31 * (31 * hE M g cnt bar pc + (voX M bar).toInt64) + (arX M bar).toInt64) + mW M 0) + (nI 3 * mI M 5 2 - mI M 5 3).toInt64
theorem hF_bf {M M' : Mm} (h : bfF M M') {cnt bar : Nat} (hb : bar ≤ 12) : ∀ f, hF M' cnt bar f = hF M cnt bar f := by
  intro f
  induction f with
  | zero => rw [hF_0, hF_0]
  | succ f ih => rw [hF_s, hF_s, ih, plX_bf h, stX9_bf h, sqX_bf h hb]
theorem hN_bf {M M' : Mm} (h : bfF M M') (a : Int64) : ∀ n, hN M' a n = hN M a n := by
  intro n
  induction n with
  | zero => rw [hN_0, hN_0]
  | succ n ih => rw [hN_s, hN_s, ih, h.1 23 (by decide)]
theorem hP_bf {M M' : Mm} (h : bfF M M') (a : Int64) : ∀ n, hP M' a n = hP M a n := by
  intro n
  induction n with
  | zero => rw [hP_0, hP_0]
  | succ n ih => rw [hP_s, hP_s, ih, h.1 34 (by decide)]
theorem stH_bf {M M' : Mm} (h : bfF M M') {g cnt bar pc : Nat} (hb : bar ≤ 12) : stH M' g cnt bar pc = stH M g cnt bar pc := by
  unfold stH hE
  rw [hF_bf h hb, hN_bf h, hP_bf h, voX_bf h hb, arX_bf h hb, h.1 5 (by decide), show mW M' 0 = mW M 0 from congrFun (congrArg (fun x => x.1) h.2.1) 0]
theorem mf_L_state : MfS yL_state cL_state 6 (some .long) 3 := ⟨⟨by decide +kernel, by decide +kernel, by decide +kernel⟩, (wg5 (i := 18) rfl rfl), (wg1 (i := 0) rfl rfl), (wg5 (i := 19) rfl rfl)⟩
set_option maxRecDepth 100000 in
set_option maxHeartbeats 4000000 in
theorem c_L_state {l : Launch} {E : Ev} {M : Mm} (hl9 : l.stackTraces = false) (hnse : NseR l E) {g cnt bar : Nat} {fr : Nat → Nat} {pc mc : Nat} (q : CI M g cnt bar fr pc mc) : Ct l E yL_state cL_state 6 (some .long) 9 200 1200 [.ref (eA E 0 0), .int (nI g), .int (nI pc)] M (fun v M1 => v = some (.long (stH M g cnt bar pc)) ∧ bfF M M1) := by
  refine Ct.of (own := RL) rfl [some (.ref (eA E 0 0)), some (.int (nI g)), some (.int (nI pc)), none, none, none] (by decide) (Nat.le_of_ble_eq_true rfl) rfl ?_
  obtain ⟨hg, hc12, hbc, hb12, hpc, hmc⟩ := CI_b q
  have K3 : ∀ i, i ≤ 3 * pc → ∀ M', bfF M M' → Jd l E RL cL_state 6 (some .long) [] (rmm 9 200 1200) (QfN E (fun v M1 => v = some (.long (stH M g cnt bar pc)) ∧ bfF M M1) 200 1200) (3 * g + 8 + i) (6 * (3 * g + 8 + i)) 115 [some (.ref (eA E 0 0)), some (.int (nI g)), some (.int (nI pc)), some (.long (hP M (hN M (hF M cnt bar g) 8) i)), none, some (.int (nI i))] [] M' := by
    refine up_to (3 * pc) _ ?_ (fun i hi ih => ?_)
    · intro M' hb
      refine j_il dL_state_115 rfl ?_
      refine j_icN 3 dL_state_117 rfl ?_
      refine j_iln dL_state_118 rfl rfl ?_
      refine j_imulN dL_state_119 ?_
      refine j_icgeN (tgt := 153) dL_state_120 (by decide) (by omega) (by omega) (fun h120 => ?_) (fun h120 => ?_)
      · refine j_wd (k' := 150) (n' := 900) (by omega) (by omega) ?_
        refine j_ldc2 dL_state_153 cn_L_106 ?_
        refine j_ldc2 dL_state_156 cn_L_106 ?_
        refine j_ldc2 dL_state_159 cn_L_106 ?_
        refine j_ldc2 dL_state_162 cn_L_106 ?_
        refine j_lln dL_state_165 rfl rfl ?_
        refine j_lmul dL_state_166 ?_
        refine j_aln dL_state_167 rfl rfl ?_
        refine j_V0d mf_X9_volume ml_L_114 dL_state_168 (Nat.le_of_ble_eq_true rfl) (Nat.le_of_ble_eq_true rfl) (Nat.le_of_ble_eq_true rfl) ⟨(Nat.le_of_ble_eq_true rfl), (Nat.le_of_ble_eq_true rfl)⟩ (by first | assumption | decide | (simp only [nv] at *; omega)) rfl rfl (c_X9_volume (CI_bf hb q).1.2.2.1 hb12) ?_
        refine j_i2l dL_state_171 ?_
        refine j_ladd dL_state_172 ?_
        refine j_lmul dL_state_173 ?_
        refine j_aln dL_state_174 rfl rfl ?_
        refine j_V0d mf_X9_area ml_L_118 dL_state_175 (Nat.le_of_ble_eq_true rfl) (Nat.le_of_ble_eq_true rfl) (Nat.le_of_ble_eq_true rfl) ⟨(Nat.le_of_ble_eq_true rfl), (Nat.le_of_ble_eq_true rfl)⟩ (by first | assumption | decide | (simp only [nv] at *; omega)) rfl rfl (c_X9_area (CI_bf hb q).1.2.2.1 hb12) ?_
        refine j_i2l dL_state_178 ?_
        refine j_ladd dL_state_179 ?_
        refine j_lmul dL_state_180 ?_
        refine j_aln dL_state_181 rfl rfl ?_
        refine j_V0d mf_X9_worked ml_L_121 dL_state_182 (Nat.le_of_ble_eq_true rfl) (Nat.le_of_ble_eq_true rfl) (Nat.le_of_ble_eq_true rfl) ⟨(Nat.le_of_ble_eq_true rfl), (Nat.le_of_ble_eq_true rfl)⟩ (by first | assumption | decide | (simp only [nv] at *; omega)) rfl rfl c_X9_worked ?_
        refine j_ladd dL_state_185 ?_
        refine j_lmul dL_state_186 ?_
        refine j_aln dL_state_187 rfl rfl ?_
        refine j_V0d mf_X9_freedoms ml_L_125 dL_state_188 (Nat.le_of_ble_eq_true rfl) (Nat.le_of_ble_eq_true rfl) (Nat.le_of_ble_eq_true rfl) ⟨(Nat.le_of_ble_eq_true rfl), (Nat.le_of_ble_eq_true rfl)⟩ (by first | assumption | decide | (simp only [nv] at *; omega)) rfl rfl c_X9_freedoms ?_
        refine j_i2l dL_state_191 ?_
        refine j_ladd dL_state_192 ?_
        exact j_lret dL_state_193 rfl (Nat.le_of_ble_eq_true rfl) (Nat.le_of_ble_eq_true rfl) ⟨by rw [← stH_bf hb hb12]; unfold stH hE; rw [hF_bf hb hb12, hN_bf hb, hP_bf hb]; rfl, hb⟩
      · exact absurd (Nat.le_refl _) h120
    · intro M' hb
      refine j_il dL_state_115 rfl ?_
      refine j_icN 3 dL_state_117 rfl ?_
      refine j_iln dL_state_118 rfl rfl ?_
      refine j_imulN dL_state_119 ?_
      refine j_icgeN (tgt := 153) dL_state_120 (by decide) (by omega) (by omega) (fun h120 => ?_) (fun h120 => ?_)
      · exact absurd h120 (by omega)
      · refine j_ldc2 dL_state_123 cn_L_106 ?_
        refine j_lln dL_state_126 rfl rfl ?_
        refine j_lmul dL_state_127 ?_
        refine j_aln dL_state_128 rfl rfl ?_
        refine j_biN 18 dL_state_129 rfl ?_
        refine j_il dL_state_131 rfl ?_
        refine j_icN 3 dL_state_133 rfl ?_
        refine j_idivN dL_state_134 (by omega) (by omega) (by omega) ?_
        refine j_il dL_state_135 rfl ?_
        refine j_icN 3 dL_state_137 rfl ?_
        refine j_iremN dL_state_138 (by omega) (by omega) (by omega) ?_
        refine j_icN 0 dL_state_139 rfl ?_
        refine j_icN 0 dL_state_140 rfl ?_
        refine j_lcb hb (CtW.mono (sp18 hl9 (CI_bf hb q) (show i / 3 < pc by omega) (show i % 3 < 3 by omega)) (fun v M1 h => ⟨h.1, by rw [h.2]; exact bf_rf _⟩)) ⟨(Nat.le_of_ble_eq_true rfl), (Nat.le_of_ble_eq_true rfl)⟩ (Nat.le_of_ble_eq_true rfl) dL_state_141 ⟨by show _ + 1 ≤ 200; omega, by show _ + 6 ≤ 1200; omega⟩ (fun M9 hM9 => ?_)
        refine j_i2l dL_state_144 ?_
        refine j_ladd dL_state_145 ?_
        refine j_lst_3 dL_state_146 (by decide) rfl ?_
        refine j_incN_5 1 dL_state_147 rfl (by decide) rfl ?_
        refine j_goto (tgt := 115) dL_state_150 (by decide) ?_
        have e := ih M9 hM9
        rw [hP_s, ← hb.1 34 (by decide)] at e
        exact j_wd (by omega) (by omega) e
  have K2 : ∀ i, i ≤ 8 → ∀ M', bfF M M' → Jd l E RL cL_state 6 (some .long) [] (rmm 9 200 1200) (QfN E (fun v M1 => v = some (.long (stH M g cnt bar pc)) ∧ bfF M M1) 200 1200) (3 * g + i) (6 * (3 * g + i)) 81 [some (.ref (eA E 0 0)), some (.int (nI g)), some (.int (nI pc)), some (.long (hN M (hF M cnt bar g) i)), none, some (.int (nI i))] [] M' := by
    refine up_to 8 _ ?_ (fun i hi ih => ?_)
    · intro M' hb
      refine j_il dL_state_81 rfl ?_
      refine j_biN 8 dL_state_83 rfl ?_
      refine j_icgeN (tgt := 112) dL_state_85 (by decide) (by omega) (by omega) (fun h85 => ?_) (fun h85 => ?_)
      · refine j_icN 0 dL_state_112 rfl ?_
        refine j_ist_5 dL_state_113 (by decide) rfl ?_
        have e := K3 0 (by omega) M' hb
        rw [hP_0] at e
        exact e
      · exact absurd (Nat.le_refl _) h85
    · intro M' hb
      refine j_il dL_state_81 rfl ?_
      refine j_biN 8 dL_state_83 rfl ?_
      refine j_icgeN (tgt := 112) dL_state_85 (by decide) (by omega) (by omega) (fun h85 => ?_) (fun h85 => ?_)
      · exact absurd h85 (by omega)
      · refine j_ldc2 dL_state_88 cn_L_106 ?_
        refine j_lln dL_state_91 rfl rfl ?_
        refine j_lmul dL_state_92 ?_
        refine j_aln dL_state_93 rfl rfl ?_
        refine j_icN 1 dL_state_94 rfl ?_
        refine j_il dL_state_95 rfl ?_
        refine j_icN 0 dL_state_97 rfl ?_
        refine j_icN 0 dL_state_98 rfl ?_
        refine j_icN 0 dL_state_99 rfl ?_
        refine j_lcb hb (CtW.mono (sp1 hl9 (show i < 8 by omega)) (fun v M1 h => ⟨h.1, by rw [h.2]; exact bf_rf _⟩)) ⟨(Nat.le_of_ble_eq_true rfl), (Nat.le_of_ble_eq_true rfl)⟩ (Nat.le_of_ble_eq_true rfl) dL_state_100 ⟨by show _ + 1 ≤ 200; omega, by show _ + 6 ≤ 1200; omega⟩ (fun M9 hM9 => ?_)
        refine j_i2l dL_state_103 ?_
        refine j_ladd dL_state_104 ?_
        refine j_lst_3 dL_state_105 (by decide) rfl ?_
        refine j_incN_5 1 dL_state_106 rfl (by decide) rfl ?_
        refine j_goto (tgt := 81) dL_state_109 (by decide) ?_
        have e := ih M9 hM9
        rw [hN_s, ← hb.1 23 (by decide)] at e
        exact j_wd (by omega) (by omega) e
  have K1 : ∀ i, i ≤ g → ∀ M', bfF M M' → Jd l E RL cL_state 6 (some .long) [] (rmm 9 200 1200) (QfN E (fun v M1 => v = some (.long (stH M g cnt bar pc)) ∧ bfF M M1) 200 1200) (3 * i) (6 * (3 * i)) 7 [some (.ref (eA E 0 0)), some (.int (nI g)), some (.int (nI pc)), some (.long (hF M cnt bar i)), none, some (.int (nI i))] [] M' := by
    refine up_to g _ ?_ (fun i hi ih => ?_)
    · intro M' hb
      refine j_il dL_state_7 rfl ?_
      refine j_iln dL_state_9 rfl rfl ?_
      refine j_icgeN (tgt := 78) dL_state_10 (by decide) (by omega) (by omega) (fun h10 => ?_) (fun h10 => ?_)
      · refine j_icN 0 dL_state_78 rfl ?_
        refine j_ist_5 dL_state_79 (by decide) rfl ?_
        have e := K2 0 (by omega) M' hb
        rw [hN_0] at e
        exact e
      · exact absurd (Nat.le_refl _) h10
    · intro M' hb
      refine j_il dL_state_7 rfl ?_
      refine j_iln dL_state_9 rfl rfl ?_
      refine j_icgeN (tgt := 78) dL_state_10 (by decide) (by omega) (by omega) (fun h10 => ?_) (fun h10 => ?_)
      · exact absurd h10 (by omega)
      · refine j_ldc2 dL_state_13 cn_L_106 ?_
        refine j_ldc2 dL_state_16 cn_L_106 ?_
        refine j_lln dL_state_19 rfl rfl ?_
        refine j_lmul dL_state_20 ?_
        refine j_aln dL_state_21 rfl rfl ?_
        refine j_biN 8 dL_state_22 rfl ?_
        refine j_il dL_state_24 rfl ?_
        refine j_icN 0 dL_state_26 rfl ?_
        refine j_icN 0 dL_state_27 rfl ?_
        refine j_icN 0 dL_state_28 rfl ?_
        refine j_lcb hb (CtW.mono (sp8 hl9 hnse (CI_bf hb q)) (fun v M1 h => ⟨h.1, by rw [h.2]; exact bf_rf _⟩)) ⟨(Nat.le_of_ble_eq_true rfl), (Nat.le_of_ble_eq_true rfl)⟩ (Nat.le_of_ble_eq_true rfl) dL_state_29 ⟨by show _ + 1 ≤ 200; omega, by show _ + 6 ≤ 1200; omega⟩ (fun M7 hM7 => ?_)
        refine j_i2l dL_state_32 ?_
        refine j_ladd dL_state_33 ?_
        refine j_lmul dL_state_34 ?_
        refine j_aln dL_state_35 rfl rfl ?_
        refine j_biN 9 dL_state_36 rfl ?_
        refine j_il dL_state_38 rfl ?_
        refine j_icN 0 dL_state_40 rfl ?_
        refine j_icN 0 dL_state_41 rfl ?_
        refine j_icN 0 dL_state_42 rfl ?_
        refine j_lcb hM7 (CtW.mono (sp9 hl9 hnse (CI_bf hM7 q)) (fun v M1 h => ⟨h.1, by rw [h.2]; exact bf_rf _⟩)) ⟨(Nat.le_of_ble_eq_true rfl), (Nat.le_of_ble_eq_true rfl)⟩ (Nat.le_of_ble_eq_true rfl) dL_state_43 ⟨by show _ + 1 ≤ 200; omega, by show _ + 6 ≤ 1200; omega⟩ (fun M8 hM8 => ?_)
        refine j_i2l dL_state_46 ?_
        refine j_ladd dL_state_47 ?_
        refine j_lst_3 dL_state_48 (by decide) rfl ?_
        refine j_ldc2 dL_state_49 cn_L_106 ?_
        refine j_lln dL_state_52 rfl rfl ?_
        refine j_lmul dL_state_53 ?_
        refine j_aln dL_state_54 rfl rfl ?_
        refine j_biN 13 dL_state_55 rfl ?_
        refine j_il dL_state_57 rfl ?_
        refine j_il dL_state_59 rfl ?_
        refine j_biN 6 dL_state_61 rfl ?_
        refine j_iremN dL_state_63 (by omega) (by omega) (by omega) ?_
        refine j_icN 0 dL_state_64 rfl ?_
        refine j_icN 0 dL_state_65 rfl ?_
        refine j_lcb hM8 (sp13 hl9 (CI_bf hM8 q) (show i < 40 by omega) (show i % 6 < 6 by omega)) ⟨(Nat.le_of_ble_eq_true rfl), (Nat.le_of_ble_eq_true rfl)⟩ (Nat.le_of_ble_eq_true rfl) dL_state_66 ⟨by show _ + 1 ≤ 200; omega, by show _ + 6 ≤ 1200; omega⟩ (fun M9 hM9 => ?_)
        refine j_i2l dL_state_69 ?_
        refine j_ladd dL_state_70 ?_
        refine j_lst_3 dL_state_71 (by decide) rfl ?_
        refine j_incN_5 1 dL_state_72 rfl (by decide) rfl ?_
        refine j_goto (tgt := 7) dL_state_75 (by decide) ?_
        have e := ih M9 hM9
        rw [hF_s, ← plX_bf hb, ← stX9_bf hM7, ← sqX_bf hM8 hb12] at e
        exact j_wd (by omega) (by omega) e
  refine j_ldc2 dL_state_0 cn_L_104 ?_
  refine j_lst_3 dL_state_3 (by decide) rfl ?_
  refine j_icN 0 dL_state_4 rfl ?_
  refine j_ist_5 dL_state_5 (by decide) rfl ?_
  have e := K1 0 (by omega) M (bf_rf M)
  rw [hF_0] at e
  exact e
