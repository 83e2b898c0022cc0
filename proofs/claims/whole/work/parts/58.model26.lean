/-! the model: move -/
theorem pt_shf {r : Nat → Int32} {a b cnt : Nat} (ha : a < cnt) (hb : b < cnt) : upd (moR (tkR r a (cnt - 1)) b (cnt - 1)) b (r a) = shf r a b := by
  funext j
  unfold upd moR tkR shf
  by_cases h1 : j = b
  · rw [if_pos h1, if_pos h1]
  · rw [if_neg h1, if_neg h1]
    by_cases h2 : b < j ∧ j ≤ cnt - 1
    · rw [if_pos h2]
      by_cases h3 : a ≤ j - 1 ∧ j - 1 < cnt - 1
      · rw [if_pos h3, if_neg (show ¬ (a ≤ j ∧ j < b) by omega), show j - 1 + 1 = j by omega]
        by_cases h4 : b < j ∧ j ≤ a
        · omega
        · rw [if_neg h4]
      · rw [if_neg h3, if_neg (show ¬ (a ≤ j ∧ j < b) by omega), if_pos (show b < j ∧ j ≤ a by omega)]
    · rw [if_neg h2]
      by_cases h3 : a ≤ j ∧ j < cnt - 1
      · rw [if_pos h3, if_pos (show a ≤ j ∧ j < b by omega)]
      · rw [if_neg h3]
        by_cases h5 : a ≤ j ∧ j < b
        · omega
        · rw [if_neg h5, if_neg (show ¬ (b < j ∧ j ≤ a) by omega)]
theorem c_X10_putsS {l : Launch} {E : Ev} {M : Mm} {a b cnt : Nat} (ha : a < cnt) (hb : b < cnt) (hc : mI M 12 6 = nI cnt) (hc12 : cnt ≤ 12) : Ct l E yX10_puts cX10_puts 5 none 2 0 0 [.ref (eA E 12 0), .int (nI a), .int (nI b)] M (dn (sI M 44 (shf (mI M 44) a b))) := by
  have h := c_X10_puts (l := l) (E := E) (M := M) ha hb hc hc12
  have e : ptS M a b cnt = sI M 44 (shf (mI M 44) a b) := by
    refine Prod.ext (funext fun t => ?_) rfl
    show (if t = 12 then upd (upd (mI M 12) 6 (nI (cnt - 1))) 6 (nI cnt) else if t = 44 then upd (moR (tkR (mI M 44) a (cnt - 1)) b (cnt - 1)) b (mI M 44 a) else if t = 12 then upd (mI M 12) 6 (nI (cnt - 1)) else if t = 44 then tkR (mI M 44) a (cnt - 1) else M.1 t) = if t = 44 then shf (mI M 44) a b else M.1 t
    rw [pt_shf ha hb]
    by_cases h12 : t = 12
    · subst h12
      rw [if_pos rfl, if_neg (by decide)]
      funext j
      unfold upd
      by_cases h6 : j = 6
      · subst h6; rw [if_pos rfl]; exact hc.symm
      · rw [if_neg h6, if_neg h6]
    · rw [if_neg h12]
      by_cases h44 : t = 44
      · rw [if_pos h44, if_pos h44]
      · rw [if_neg h44, if_neg h44, if_neg h12]
        exact (if_neg h44).symm
  rw [e] at h
  exact h
theorem was_was (a b j : Nat) : wasN a b (wasN b a j) = j := by
  unfold wasN
  by_cases h1 : j = a
  · rw [if_pos h1, if_pos rfl]; exact h1.symm
  · rw [if_neg h1]
    by_cases h2 : b ≤ j ∧ j < a
    · rw [if_pos h2, if_neg (show ¬ j + 1 = b by omega), if_neg (show ¬ (a ≤ j + 1 ∧ j + 1 < b) by omega), if_pos (show b < j + 1 ∧ j + 1 ≤ a by omega)]; omega
    · rw [if_neg h2]
      by_cases h3 : a < j ∧ j ≤ b
      · rw [if_pos h3, if_neg (show ¬ j - 1 = b by omega), if_pos (show a ≤ j - 1 ∧ j - 1 < b by omega)]; omega
      · rw [if_neg h3, if_neg (show ¬ j = b by omega), if_neg (show ¬ (a ≤ j ∧ j < b) by omega), if_neg (show ¬ (b < j ∧ j ≤ a) by omega)]
theorem sh_in (fr : Nat → Nat) {a b cnt : Nat} (ha : a < cnt) (hb : b < cnt) (u : Nat) : (∃ k, k < cnt ∧ shN fr a b k = u) ↔ ∃ k, k < cnt ∧ fr k = u := by
  constructor
  · rintro ⟨k, hk, e⟩
    exact ⟨wasN a b k, was_lt ha hb hk, (shN_was fr a b k).symm.trans e⟩
  · rintro ⟨k, hk, e⟩
    exact ⟨wasN b a k, was_lt hb ha hk, by rw [shN_was fr a b, was_was]; exact e⟩
abbrev mvM (M : Mm) (a b : Nat) : Mm := sI (reM M) 44 (shf (mI M 44) a b)
theorem mv_MV {M : Mm} {gv cnt bar : Nat} {fr : Nat → Nat} {a b : Nat} (h : MV M gv cnt bar fr) (ha : a < cnt) (hb : b < cnt) : MV (mvM M a b) gv cnt bar (shN fr a b) := by
  have h9 := re_MV h
  refine ⟨h9.1, h9.2.1, h9.2.2.1, fun k hk => ?_, in_sh ha hb h.2.2.2.2.1, fun g hg => ?_, h9.2.2.2.2.2.2⟩
  · show shf (mI M 44) a b k = _ ∧ _
    rw [shf_was, shN_was]
    exact h.2.2.2.1 _ (was_lt ha hb hk)
  · rw [sh_in fr ha hb g]
    exact h9.2.2.2.2.2.1 g hg
theorem c_orV {l : Launch} {E : Ev} {M : Mm} {gv cnt bar : Nat} {fr : Nat → Nat} (h : MV M gv cnt bar fr) : Ct l E yX10_isOrdered cX10_isOrdered 3 (some .boolean) 4 0 0 [.ref (eA E 12 0)] M (dv (.int (bI (orX M cnt fr))) M) :=
  c_X10_isOrdered h.2.1.1 h.2.1.2 h.1.1 h.1.2 (fun k hk => MV_row h hk) (fun f hf => h.2.2.2.2.2.2.1 _ (by omega)) (MV_pl h)
set_option maxRecDepth 100000 in
set_option maxHeartbeats 4000000 in
theorem c_X10_move {l : Launch} {E : Ev} {M : Mm} {gv cnt bar : Nat} {fr : Nat → Nat} {x y : Int32} (hMV : MV M gv cnt bar fr) : Ct l E yX10_move cX10_move 4 (some .int) 9 0 0 [.ref (eA E 12 0), .int x, .int y] M (fun v M1 => (mF M x = false ∧ v = some (.int (nI 0)) ∧ M1 = cdM (c0 M) (nI 1)) ∨ (mF M x = true ∧ inX y (nI 0) (mI M 12 6 - nI 1) = false ∧ v = some (.int (nI 0)) ∧ M1 = cdM (c0 M) (nI 2)) ∨ (mF M x = true ∧ inX y (nI 0) (mI M 12 6 - nI 1) = true ∧ ∃ a b, a < cnt ∧ b < cnt ∧ x = nI (fr a) ∧ y = nI b ∧ ((orX (mvM M a b) cnt (shN fr a b) = false ∧ v = some (.int (nI 0)) ∧ M1 = cdM (reM M) (nI 3)) ∨ (orX (mvM M a b) cnt (shN fr a b) = true ∧ v = some (.int (nI a)) ∧ rmP M (mvM M a b) (fun t => t = 44) ∧ MV (mvM M a b) gv cnt bar (shN fr a b) ∧ coM (mvM M a b) cnt bar bar (shN fr a b) M1)))) := by
  refine Ct.of (own := RX10) rfl [some (.ref (eA E 12 0)), some (.int x), some (.int y), none] (by decide) (Nat.le_of_ble_eq_true rfl) rfl ?_
  refine j_aln dX10_move_0 rfl rfl ?_
  refine j_icN 0 dX10_move_1 rfl ?_
  refine p_X10_0 dX10_move_2 fl_X10_96 ?_
  refine j_aln dX10_move_5 rfl rfl ?_
  refine j_iln dX10_move_6 rfl rfl ?_
  refine j_V1d mf_X10_isFeature ml_X10_150 dX10_move_7 (Nat.le_of_ble_eq_true rfl) (Nat.le_of_ble_eq_true rfl) (Nat.le_of_ble_eq_true rfl) ⟨(Nat.le_of_ble_eq_true rfl), (Nat.le_of_ble_eq_true rfl)⟩ (by first | assumption | decide | (simp only [nv] at *; omega)) rfl rfl (c_X10_isFeature (M := c0 M) hMV.1.1 hMV.1.2) ?_
  refine j_ifne (tgt := 19) dX10_move_10 (by decide) (fun h10 => ?_) (fun h10 => ?_)
  · have hi : mF M x = true := bI_ne.mp h10
    refine j_iln dX10_move_19 rfl rfl ?_
    refine j_icN 0 dX10_move_20 rfl ?_
    refine j_aln dX10_move_21 rfl rfl ?_
    refine g_X10_6 dX10_move_22 fl_X10_131 ?_
    refine j_icN 1 dX10_move_25 rfl ?_
    refine j_isub dX10_move_26 ?_
    refine j_S3d mf_X10_in ml_X10_100 dX10_move_27 (Nat.le_of_ble_eq_true rfl) (Nat.le_of_ble_eq_true rfl) (Nat.le_of_ble_eq_true rfl) ⟨(Nat.le_of_ble_eq_true rfl), (Nat.le_of_ble_eq_true rfl)⟩ c_X10_in ?_
    refine j_ifne (tgt := 39) dX10_move_30 (by decide) (fun h30 => ?_) (fun h30 => ?_)
    · have hy : inX y (nI 0) (mI M 12 6 - nI 1) = true := bI_ne.mp h30
      have hc12 := hMV.2.1.2
      obtain ⟨b, hb, hyb⟩ := le_gv (gv := cnt) (by omega) (by rw [← hMV.2.1.1]; exact hy)
      subst hyb
      obtain ⟨a, ha, hax, hbf⟩ := MV_pl hMV x hi
      obtain rfl : x = nI (fr a) := hax.symm.trans (MV_row hMV ha).1
      have hM := mv_MV hMV ha hb
      have hr : rmP M (mvM M a b) (fun t => t = 44) := rmP_s (re_P M) (by omega) rfl (fun _ q => q.elim)
      refine j_aln dX10_move_39 rfl rfl ?_
      refine j_V0n mf_X10_remembers ml_X10_115 dX10_move_40 (Nat.le_of_ble_eq_true rfl) (Nat.le_of_ble_eq_true rfl) (Nat.le_of_ble_eq_true rfl) ⟨(Nat.le_of_ble_eq_true rfl), (Nat.le_of_ble_eq_true rfl)⟩ (by first | assumption | decide | (simp only [nv] at *; omega)) rfl rfl (c_reV hMV) ?_
      refine j_aln dX10_move_43 rfl rfl ?_
      refine j_iln dX10_move_44 rfl rfl ?_
      refine j_V1d mf_X10_placeOf ml_X10_156 dX10_move_45 (Nat.le_of_ble_eq_true rfl) (Nat.le_of_ble_eq_true rfl) (Nat.le_of_ble_eq_true rfl) ⟨(Nat.le_of_ble_eq_true rfl), (Nat.le_of_ble_eq_true rfl)⟩ (by first | assumption | decide | (simp only [nv] at *; omega)) rfl rfl (c_X10_placeOf (M := reM M) (p := a) (show a < 13 by omega) (by rw [re_t (by omega)]; exact (MV_row hMV ha).1) (fun j hj => by rw [re_t (by omega)]; exact hbf j hj)) ?_
      refine j_ist_3 dX10_move_48 (by decide) rfl ?_
      refine j_aln dX10_move_49 rfl rfl ?_
      refine j_iln dX10_move_50 rfl rfl ?_
      refine j_iln dX10_move_51 rfl rfl ?_
      refine j_V2n mf_X10_puts ml_X10_173 dX10_move_52 (Nat.le_of_ble_eq_true rfl) (Nat.le_of_ble_eq_true rfl) (Nat.le_of_ble_eq_true rfl) ⟨(Nat.le_of_ble_eq_true rfl), (Nat.le_of_ble_eq_true rfl)⟩ (by first | assumption | decide | (simp only [nv] at *; omega)) rfl rfl (c_X10_putsS (M := reM M) ha hb (by rw [re_12]; exact hMV.2.1.1) hMV.2.1.2) ?_
      refine j_mem (M' := mvM M a b) (by rw [re_t (M := M) (t := 44) (by omega)]) ?_
      refine j_aln dX10_move_55 rfl rfl ?_
      refine j_V0d mf_X10_isOrdered ml_X10_124 dX10_move_56 (Nat.le_of_ble_eq_true rfl) (Nat.le_of_ble_eq_true rfl) (Nat.le_of_ble_eq_true rfl) ⟨(Nat.le_of_ble_eq_true rfl), (Nat.le_of_ble_eq_true rfl)⟩ (by first | assumption | decide | (simp only [nv] at *; omega)) rfl rfl (c_orV hM) ?_
      refine j_ifne (tgt := 74) dX10_move_59 (by decide) (fun h59 => ?_) (fun h59 => ?_)
      · have ho : orX (mvM M a b) cnt (shN fr a b) = true := bI_ne.mp h59
        refine j_aln dX10_move_74 rfl rfl ?_
        refine j_V0g mf_X10_carriesOut ml_X10_128 dX10_move_75 (Nat.le_of_ble_eq_true rfl) (Nat.le_of_ble_eq_true rfl) (Nat.le_of_ble_eq_true rfl) ⟨(Nat.le_of_ble_eq_true rfl), (Nat.le_of_ble_eq_true rfl)⟩ (by first | assumption | decide | (simp only [nv] at *; omega)) rfl rfl (c_coV hr hM hMV.2.1.1 hMV.2.1.2 hMV.2.2.1.1 (by have := hMV.2.2.1.2; have := hMV.2.1.2; omega)) ?_
        intro v M9 hpp
        obtain ⟨hv, hc⟩ := hpp
        subst hv
        refine j_iln dX10_move_78 rfl rfl ?_
        exact j_iret dX10_move_79 rfl rfl (Nat.le_of_ble_eq_true rfl) (Nat.le_of_ble_eq_true rfl) (Or.inr (Or.inr ⟨hi, hy, a, b, ha, hb, rfl, rfl, Or.inr ⟨ho, rfl, hr, hM, hc⟩⟩))
      · have ho : orX (mvM M a b) cnt (shN fr a b) = false := bI_eq.mp h59
        refine j_aln dX10_move_62 rfl rfl ?_
        refine j_iln dX10_move_63 rfl rfl ?_
        refine j_iln dX10_move_64 rfl rfl ?_
        refine j_V2n mf_X10_puts ml_X10_173 dX10_move_65 (Nat.le_of_ble_eq_true rfl) (Nat.le_of_ble_eq_true rfl) (Nat.le_of_ble_eq_true rfl) ⟨(Nat.le_of_ble_eq_true rfl), (Nat.le_of_ble_eq_true rfl)⟩ (by first | assumption | decide | (simp only [nv] at *; omega)) rfl rfl (c_X10_putsS (M := mvM M a b) hb ha hM.2.1.1 hM.2.1.2) ?_
        refine j_mem (M' := reM M) (by rw [sI_sI, show mI (mvM M a b) 44 = shf (mI M 44) a b from rfl, shf_shf, ← re_t (M := M) (t := 44) (by omega)]; exact sI_id (reM M) 44) ?_
        refine j_aln dX10_move_68 rfl rfl ?_
        refine j_icN 3 dX10_move_69 rfl ?_
        refine j_V1d mf_X10_fails ml_X10_112 dX10_move_70 (Nat.le_of_ble_eq_true rfl) (Nat.le_of_ble_eq_true rfl) (Nat.le_of_ble_eq_true rfl) ⟨(Nat.le_of_ble_eq_true rfl), (Nat.le_of_ble_eq_true rfl)⟩ (by first | assumption | decide | (simp only [nv] at *; omega)) rfl rfl c_X10_fails ?_
        exact j_iret dX10_move_73 rfl rfl (Nat.le_of_ble_eq_true rfl) (Nat.le_of_ble_eq_true rfl) (Or.inr (Or.inr ⟨hi, hy, a, b, ha, hb, rfl, rfl, Or.inl ⟨ho, rfl, rfl⟩⟩))
    · have hy : inX y (nI 0) (mI M 12 6 - nI 1) = false := bI_eq.mp h30
      refine j_aln dX10_move_33 rfl rfl ?_
      refine j_icN 2 dX10_move_34 rfl ?_
      refine j_V1d mf_X10_fails ml_X10_112 dX10_move_35 (Nat.le_of_ble_eq_true rfl) (Nat.le_of_ble_eq_true rfl) (Nat.le_of_ble_eq_true rfl) ⟨(Nat.le_of_ble_eq_true rfl), (Nat.le_of_ble_eq_true rfl)⟩ (by first | assumption | decide | (simp only [nv] at *; omega)) rfl rfl c_X10_fails ?_
      exact j_iret dX10_move_38 rfl rfl (Nat.le_of_ble_eq_true rfl) (Nat.le_of_ble_eq_true rfl) (Or.inr (Or.inl ⟨hi, hy, rfl, rfl⟩))
  · have hi : mF M x = false := bI_eq.mp h10
    refine j_aln dX10_move_13 rfl rfl ?_
    refine j_icN 1 dX10_move_14 rfl ?_
    refine j_V1d mf_X10_fails ml_X10_112 dX10_move_15 (Nat.le_of_ble_eq_true rfl) (Nat.le_of_ble_eq_true rfl) (Nat.le_of_ble_eq_true rfl) ⟨(Nat.le_of_ble_eq_true rfl), (Nat.le_of_ble_eq_true rfl)⟩ (by first | assumption | decide | (simp only [nv] at *; omega)) rfl rfl c_X10_fails ?_
    exact j_iret dX10_move_18 rfl rfl (Nat.le_of_ble_eq_true rfl) (Nat.le_of_ble_eq_true rfl) (Or.inl ⟨hi, rfl, rfl⟩)
