/-! the object: features, second -/
theorem shf_shf {r : Nat → Int32} {a b : Nat} : shf (shf r a b) b a = r := by
  funext j
  unfold shf
  by_cases h1 : j = a
  · subst h1
    rw [if_pos rfl, if_pos rfl]
  · rw [if_neg h1]
    by_cases h2 : b ≤ j ∧ j < a
    · rw [if_pos h2, if_neg (by omega), if_neg (by omega), if_pos (by omega), show j + 1 - 1 = j by omega]
    · rw [if_neg h2]
      by_cases h3 : a < j ∧ j ≤ b
      · rw [if_pos h3, if_neg (by omega), if_pos (by omega), show j - 1 + 1 = j by omega]
      · rw [if_neg h3, if_neg (by omega), if_neg (by omega), if_neg (by omega)]
def shN (r : Nat → Nat) (a b : Nat) : Nat → Nat := fun j => if j = b then r a else if a ≤ j ∧ j < b then r (j + 1) else if b < j ∧ j ≤ a then r (j - 1) else r j
/-- where a place was before -/
def wasN (a b j : Nat) : Nat := if j = b then a else if a ≤ j ∧ j < b then j + 1 else if b < j ∧ j ≤ a then j - 1 else j
theorem shN_was (r : Nat → Nat) (a b j : Nat) : shN r a b j = r (wasN a b j) := by
  unfold shN wasN
  by_cases h1 : j = b
  · rw [if_pos h1, if_pos h1]
  · rw [if_neg h1, if_neg h1]
    by_cases h2 : a ≤ j ∧ j < b
    · rw [if_pos h2, if_pos h2]
    · rw [if_neg h2, if_neg h2]
      by_cases h3 : b < j ∧ j ≤ a
      · rw [if_pos h3, if_pos h3]
      · rw [if_neg h3, if_neg h3]
theorem shf_was (r : Nat → Int32) (a b j : Nat) : shf r a b j = r (wasN a b j) := by
  unfold shf wasN
  by_cases h1 : j = b
  · rw [if_pos h1, if_pos h1]
  · rw [if_neg h1, if_neg h1]
    by_cases h2 : a ≤ j ∧ j < b
    · rw [if_pos h2, if_pos h2]
    · rw [if_neg h2, if_neg h2]
      by_cases h3 : b < j ∧ j ≤ a
      · rw [if_pos h3, if_pos h3]
      · rw [if_neg h3, if_neg h3]
theorem was_lt {a b j n : Nat} (ha : a < n) (hb : b < n) (hj : j < n) : wasN a b j < n := by
  unfold wasN
  split
  · exact ha
  · split
    · omega
    · split <;> omega
theorem was_inj {a b i j : Nat} (h : wasN a b i = wasN a b j) : i = j := by
  unfold wasN at h
  by_cases h1 : i = b <;> by_cases h2 : j = b <;> by_cases h3 : a ≤ i ∧ i < b <;> by_cases h4 : a ≤ j ∧ j < b <;> by_cases h5 : b < i ∧ i ≤ a <;> by_cases h6 : b < j ∧ j ≤ a <;> simp only [h1, h2, h3, h4, h5, h6, if_true, if_false] at h <;> first | omega | (simp at h; omega)
theorem row_sh {M : Mm} {fr : Nat → Nat} {cnt a b : Nat} (ha : a < cnt) (hb : b < cnt) (hrow : ∀ k, k < cnt → mI M 24 k = nI (fr k) ∧ fr k < 40) : ∀ k, k < cnt → shf (mI M 24) a b k = nI (shN fr a b k) ∧ shN fr a b k < 40 := by
  intro k hk
  rw [shf_was, shN_was]
  exact hrow _ (was_lt ha hb hk)
theorem kd_sh {M : Mm} {fr : Nat → Nat} {cnt a b : Nat} (ha : a < cnt) (hb : b < cnt) (h : ∀ k, k < cnt → seven (mI M 25 (fr k))) : ∀ k, k < cnt → seven (mI M 25 (shN fr a b k)) := by
  intro k hk
  rw [shN_was]
  exact h _ (was_lt ha hb hk)
theorem in_sh {fr : Nat → Nat} {cnt a b : Nat} (ha : a < cnt) (hb : b < cnt) (h : ∀ i j, i < cnt → j < cnt → fr i = fr j → i = j) : ∀ i j, i < cnt → j < cnt → shN fr a b i = shN fr a b j → i = j := by
  intro i j hi hj e
  rw [shN_was, shN_was] at e
  exact was_inj (h _ _ (was_lt ha hb hi) (was_lt ha hb hj) e)
theorem coc_fr {M M1 : Mm} {bar bc : Nat} {fr : Nat → Nat} (h : cocP M bar bc fr M1) {t : Nat} (ht : ¬ (28 ≤ t ∧ t ≤ 32)) (h1 : ¬ t = 1) : mI M1 t = mI M t := by
  obtain ⟨lo, Mp, _, _, _, _, hL, rfl⟩ := h
  exact (show mI (sI Mp 1 (upd (mI Mp 1) 11 (nI bar))) t = mI Mp t from if_neg h1).trans (hL.1 t ht)
set_option maxRecDepth 100000 in
set_option maxHeartbeats 4000000 in
theorem c_X9_remove {l : Launch} {E : Ev} {M : Mm} (hl9 : l.stackTraces = false) (hnse : NseR l E) {cnt bar bc : Nat} {fr : Nat → Nat} {x : Int32} (hcnt : mI M 2 5 = nI cnt) (hc12 : cnt ≤ 12) (hrow : ∀ k, k < cnt → mI M 24 k = nI (fr k) ∧ fr k < 40) (hbar : mI M 2 7 = nI bar) (hbr : bar ≤ cnt) (hbc : mI M 1 11 = nI bc) (hbc12 : bc ≤ 12) (hkd : ∀ k, k < cnt → seven (mI M 25 (fr k))) (hinj : ∀ i j, i < cnt → j < cnt → fr i = fr j → i = j) (hof : ∀ g, g < 40 → vp_nar .boolean (mI M 27 g) = mI M 27 g) : CtX l E yX9_remove cX9_remove 4 (some .int) 7 [.ref (eA E 0 0), .int x] M (fun v M1 => ∃ k, k < cnt ∧ fpX cnt (mI M 24) x = nI k ∧ mI M 24 k = x ∧ nbO M cnt fr x = false ∧ v = some (.int (nI (cnt - 1))) ∧ cocP (tkM M k cnt bar) (Nat.min bar (cnt - 1)) bc (shN fr k (cnt - 1)) M1) (fun c M1 => ((fpX cnt (mI M 24) x < 0 ∧ c = "java/util/NoSuchElementException") ∨ (¬ fpX cnt (mI M 24) x < 0 ∧ nbO M cnt fr x = true ∧ c = "java/lang/UnsupportedOperationException")) ∧ M1 = M) := by
  refine CtX.of (own := RX9) rfl [some (.ref (eA E 0 0)), some (.int x), none, none] (by decide) (Nat.le_of_ble_eq_true rfl) rfl ?_
  refine j_aln dX9_remove_0 rfl rfl ?_
  refine g_X9_0 dX9_remove_1 fl_X9_10 ?_
  refine g_X3_0 dX9_remove_4 fl_X9_43 ?_
  refine j_ast_2 dX9_remove_7 (by decide) rfl ?_
  refine j_aln dX9_remove_8 rfl rfl ?_
  refine j_iln dX9_remove_9 rfl rfl ?_
  refine j_V1d mf_X2_findPlace ml_X9_123 dX9_remove_10 (Nat.le_of_ble_eq_true rfl) (Nat.le_of_ble_eq_true rfl) (Nat.le_of_ble_eq_true rfl) ⟨(Nat.le_of_ble_eq_true rfl), (Nat.le_of_ble_eq_true rfl)⟩ (by first | assumption | decide | (simp only [nv] at *; omega)) rfl rfl (c_X2_findPlace hcnt hc12) ?_
  refine j_ist_3 dX9_remove_13 (by decide) rfl ?_
  refine j_iln dX9_remove_14 rfl rfl ?_
  refine j_ifge (tgt := 28) dX9_remove_15 (by decide) (fun h15 => ?_) (fun h15 => ?_)
  · have hk := Int32.not_lt.mpr h15
    obtain ⟨k, hkc, hke, hkr⟩ := fp_n hk
    have hk9 : ¬ nI k < 0 := by rw [← hke]; exact hk
    refine j_eq (congrArg (fun q => [_, _, _, some (Value.int q)]) hke) rfl rfl ?_
    refine j_aln dX9_remove_28 rfl rfl ?_
    refine j_iln dX9_remove_29 rfl rfl ?_
    refine j_V1d mf_X2_isNeededByOther ml_X9_116 dX9_remove_30 (Nat.le_of_ble_eq_true rfl) (Nat.le_of_ble_eq_true rfl) (Nat.le_of_ble_eq_true rfl) ⟨(Nat.le_of_ble_eq_true rfl), (Nat.le_of_ble_eq_true rfl)⟩ (by first | assumption | decide | (simp only [nv] at *; omega)) rfl rfl (c_X2_isNeededByOther hcnt hc12 hrow) ?_
    refine j_ifeq (tgt := 46) dX9_remove_33 (by decide) (fun h33 => ?_) (fun h33 => ?_)
    · have hnb := bI_eq.mp h33
      refine j_aln dX9_remove_46 rfl rfl ?_
      refine j_iln dX9_remove_47 rfl rfl ?_
      refine j_V1n mf_X2_takeOutAt ml_X9_139 dX9_remove_48 (Nat.le_of_ble_eq_true rfl) (Nat.le_of_ble_eq_true rfl) (Nat.le_of_ble_eq_true rfl) ⟨(Nat.le_of_ble_eq_true rfl), (Nat.le_of_ble_eq_true rfl)⟩ (by first | assumption | decide | (simp only [nv] at *; omega)) rfl rfl (c_X2_takeOutAt hkc hcnt hbar hc12 (by omega)) ?_
      refine j_aln dX9_remove_51 rfl rfl ?_
      refine g_X9_0 dX9_remove_52 fl_X9_10 ?_
      refine j_V0g mf_X3_carryOutChanged ml_X9_83 dX9_remove_55 (Nat.le_of_ble_eq_true rfl) (Nat.le_of_ble_eq_true rfl) (Nat.le_of_ble_eq_true rfl) ⟨(Nat.le_of_ble_eq_true rfl), (Nat.le_of_ble_eq_true rfl)⟩ (by first | assumption | decide | (simp only [nv] at *; omega)) rfl rfl (c_X3_carryOutChanged (M := (tkM M k cnt bar)) (cnt := cnt - 1) (bar := Nat.min bar (cnt - 1)) (bc := bc) (fr := shN fr k (cnt - 1)) rfl hbc (Nat.min_le_right _ _) (by omega) hbc12 (fun j hj => row_sh hkc (by omega) hrow j (by omega)) (fun j hj => kd_sh hkc (by omega) hkd j (by omega)) (fun i j hi hj => in_sh hkc (by omega) hinj i j (by omega) (by omega)) hof) ?_
      intro v9 M9 h9
      obtain ⟨rfl, hco⟩ := h9
      refine j_aln dX9_remove_58 rfl rfl ?_
      refine g_X2_5 dX9_remove_59 fl_X9_104 ?_
      refine j_topi (show mI M9 2 5 = nI (cnt - 1) from (congrFun (coc_fr hco (t := 2) (by decide) (by decide)) 5).trans rfl) ?_
      exact j_iretX dX9_remove_62 rfl rfl (Nat.le_of_ble_eq_true rfl) (Nat.le_of_ble_eq_true rfl) ⟨k, hkc, hke, hkr, hnb, rfl, hco⟩
    · have hnb := bI_ne.mp h33
      exact j_throwS (text := "another feature needs it") hl9 thr_57 (by decide +kernel) dX9_remove_36 dX9_remove_39 dX9_remove_40 dX9_remove_42 dX9_remove_45 (Nat.le_of_ble_eq_true rfl) (Nat.le_of_ble_eq_true rfl) ⟨Or.inr ⟨by rw [hke]; exact hk9, hnb, rfl⟩, rfl⟩
  · exact hnse _ _ _ _ _ _ _ _ _ _ _ "no such feature" (by decide +kernel) dX9_remove_18 dX9_remove_21 dX9_remove_22 dX9_remove_24 dX9_remove_27 (Nat.le_of_ble_eq_true rfl) (Nat.le_of_ble_eq_true rfl) ⟨Or.inl ⟨Int32.not_le.mp h15, rfl⟩, rfl⟩
set_option maxRecDepth 100000 in
set_option maxHeartbeats 4000000 in
theorem c_X9_move {l : Launch} {E : Ev} {M : Mm} (hl9 : l.stackTraces = false) (hnse : NseR l E) {cnt bar bc : Nat} {fr : Nat → Nat} {x y : Int32} (hcnt : mI M 2 5 = nI cnt) (hc12 : cnt ≤ 12) (hrow : ∀ k, k < cnt → mI M 24 k = nI (fr k) ∧ fr k < 40) (hbar : mI M 2 7 = nI bar) (hbr : bar ≤ cnt) (hbc : mI M 1 11 = nI bc) (hbc12 : bc ≤ 12) (hkd : ∀ k, k < cnt → seven (mI M 25 (fr k))) (hinj : ∀ i j, i < cnt → j < cnt → fr i = fr j → i = j) (hof : ∀ g, g < 40 → vp_nar .boolean (mI M 27 g) = mI M 27 g) : CtX l E yX9_move cX9_move 5 (some .int) 7 [.ref (eA E 0 0), .int x, .int y] M (fun v M1 => ∃ k p, k < cnt ∧ fpX cnt (mI M 24) x = nI k ∧ mI M 24 k = x ∧ p < cnt ∧ y = nI p ∧ sbN (sI M 24 (shf (mI M 24) k p)) cnt (shN fr k p) = true ∧ v = some (.int (nI k)) ∧ cocP (sI M 24 (shf (mI M 24) k p)) bar bc (shN fr k p) M1) (fun c M1 => ((fpX cnt (mI M 24) x < 0 ∧ c = "java/util/NoSuchElementException") ∨ (¬ fpX cnt (mI M 24) x < 0 ∧ ¬ (¬ y < 0 ∧ y < nI cnt) ∧ c = "java/lang/IndexOutOfBoundsException") ∨ (∃ k p, k < cnt ∧ fpX cnt (mI M 24) x = nI k ∧ mI M 24 k = x ∧ p < cnt ∧ y = nI p ∧ sbN (sI M 24 (shf (mI M 24) k p)) cnt (shN fr k p) = false ∧ c = "java/lang/UnsupportedOperationException")) ∧ M1 = M) := by
  refine CtX.of (own := RX9) rfl [some (.ref (eA E 0 0)), some (.int x), some (.int y), none, none] (by decide) (Nat.le_of_ble_eq_true rfl) rfl ?_
  refine j_aln dX9_move_0 rfl rfl ?_
  refine g_X9_0 dX9_move_1 fl_X9_10 ?_
  refine g_X3_0 dX9_move_4 fl_X9_43 ?_
  refine j_ast_3 dX9_move_7 (by decide) rfl ?_
  refine j_aln dX9_move_8 rfl rfl ?_
  refine j_iln dX9_move_9 rfl rfl ?_
  refine j_V1d mf_X2_findPlace ml_X9_123 dX9_move_10 (Nat.le_of_ble_eq_true rfl) (Nat.le_of_ble_eq_true rfl) (Nat.le_of_ble_eq_true rfl) ⟨(Nat.le_of_ble_eq_true rfl), (Nat.le_of_ble_eq_true rfl)⟩ (by first | assumption | decide | (simp only [nv] at *; omega)) rfl rfl (c_X2_findPlace hcnt hc12) ?_
  refine j_ist_4 dX9_move_13 (by decide) rfl ?_
  refine j_il dX9_move_15 rfl ?_
  refine j_ifge (tgt := 30) dX9_move_17 (by decide) (fun h17 => ?_) (fun h17 => ?_)
  · have hk := Int32.not_lt.mpr h17
    obtain ⟨k, hkc, hke, hkr⟩ := fp_n hk
    refine j_eq (congrArg (fun q => [_, _, _, _, some (Value.int q)]) hke) rfl rfl ?_
    refine j_iln dX9_move_30 rfl rfl ?_
    refine j_iflt (tgt := 42) dX9_move_31 (by decide) (fun h31 => ?_) (fun h31 => ?_)
    · have hx : ¬ (¬ y < 0 ∧ y < nI cnt) := fun q => q.1 h31
      exact j_throwS (text := "no such place") hl9 thr_143 (by decide +kernel) dX9_move_42 dX9_move_45 dX9_move_46 dX9_move_48 dX9_move_51 (Nat.le_of_ble_eq_true rfl) (Nat.le_of_ble_eq_true rfl) ⟨Or.inr (Or.inl ⟨hk, hx, rfl⟩), rfl⟩
    · refine j_iln dX9_move_34 rfl rfl ?_
      refine j_aln dX9_move_35 rfl rfl ?_
      refine g_X2_5 dX9_move_36 fl_X9_104 ?_
      refine j_topi hcnt ?_
      refine j_iclt (tgt := 52) dX9_move_39 (by decide) (fun h39 => ?_) (fun h39 => ?_)
      · obtain ⟨p, hp, rfl⟩ := nn_lt (n := cnt) (by omega) h31 (Int32.not_le.mpr h39)
        refine j_aln dX9_move_52 rfl rfl ?_
        refine j_il dX9_move_53 rfl ?_
        refine j_iln dX9_move_55 rfl rfl ?_
        refine j_V2n mf_X2_shift ml_X9_148 dX9_move_56 (Nat.le_of_ble_eq_true rfl) (Nat.le_of_ble_eq_true rfl) (Nat.le_of_ble_eq_true rfl) ⟨(Nat.le_of_ble_eq_true rfl), (Nat.le_of_ble_eq_true rfl)⟩ (by first | assumption | decide | (simp only [nv] at *; omega)) rfl rfl (c_X2_shift (show k < 12 by omega) (show p < 12 by omega)) ?_
        refine j_aln dX9_move_59 rfl rfl ?_
        refine j_V0d mf_X2_standBehindNeeded ml_X9_77 dX9_move_60 (Nat.le_of_ble_eq_true rfl) (Nat.le_of_ble_eq_true rfl) (Nat.le_of_ble_eq_true rfl) ⟨(Nat.le_of_ble_eq_true rfl), (Nat.le_of_ble_eq_true rfl)⟩ (by first | assumption | decide | (simp only [nv] at *; omega)) rfl rfl (c_X2_standBehindNeeded (fr := shN fr k p) hcnt hc12 (row_sh hkc hp hrow)) ?_
        refine j_ifne (tgt := 83) dX9_move_63 (by decide) (fun h63 => ?_) (fun h63 => ?_)
        · have hsb := bI_ne.mp h63
          refine j_aln dX9_move_83 rfl rfl ?_
          refine g_X9_0 dX9_move_84 fl_X9_10 ?_
          refine j_V0g mf_X3_carryOutChanged ml_X9_83 dX9_move_87 (Nat.le_of_ble_eq_true rfl) (Nat.le_of_ble_eq_true rfl) (Nat.le_of_ble_eq_true rfl) ⟨(Nat.le_of_ble_eq_true rfl), (Nat.le_of_ble_eq_true rfl)⟩ (by first | assumption | decide | (simp only [nv] at *; omega)) rfl rfl (c_X3_carryOutChanged (M := (sI M 24 (shf (mI M 24) k p))) (cnt := cnt) (bar := bar) (bc := bc) (fr := shN fr k p) hbar hbc hbr hc12 hbc12 (row_sh hkc hp hrow) (kd_sh hkc hp hkd) (in_sh hkc hp hinj) hof) ?_
          intro v9 M9 h9
          obtain ⟨rfl, hco⟩ := h9
          refine j_il dX9_move_90 rfl ?_
          exact j_iretX dX9_move_92 rfl rfl (Nat.le_of_ble_eq_true rfl) (Nat.le_of_ble_eq_true rfl) ⟨k, p, hkc, hke, hkr, hp, rfl, hsb, rfl, hco⟩
        · have hsb := bI_eq.mp h63
          refine j_aln dX9_move_66 rfl rfl ?_
          refine j_iln dX9_move_67 rfl rfl ?_
          refine j_il dX9_move_68 rfl ?_
          refine j_V2n mf_X2_shift ml_X9_148 dX9_move_70 (Nat.le_of_ble_eq_true rfl) (Nat.le_of_ble_eq_true rfl) (Nat.le_of_ble_eq_true rfl) ⟨(Nat.le_of_ble_eq_true rfl), (Nat.le_of_ble_eq_true rfl)⟩ (by first | assumption | decide | (simp only [nv] at *; omega)) rfl rfl (c_X2_shift (show p < 12 by omega) (show k < 12 by omega)) ?_
          exact j_throwS (text := "a feature would stand ahead of one that it needs") hl9 thr_57 (by decide +kernel) dX9_move_73 dX9_move_76 dX9_move_77 dX9_move_79 dX9_move_82 (Nat.le_of_ble_eq_true rfl) (Nat.le_of_ble_eq_true rfl) ⟨Or.inr (Or.inr ⟨k, p, hkc, hke, hkr, hp, rfl, hsb, rfl⟩), by rw [sI_sI]; exact (congrArg (sI M 24) shf_shf).trans (sI_id M 24)⟩
      · have hx : ¬ (¬ y < 0 ∧ y < nI cnt) := fun q => h39 q.2
        exact j_throwS (text := "no such place") hl9 thr_143 (by decide +kernel) dX9_move_42 dX9_move_45 dX9_move_46 dX9_move_48 dX9_move_51 (Nat.le_of_ble_eq_true rfl) (Nat.le_of_ble_eq_true rfl) ⟨Or.inr (Or.inl ⟨hk, hx, rfl⟩), rfl⟩
  · exact hnse _ _ _ _ _ _ _ _ _ _ _ "no such feature" (by decide +kernel) dX9_move_20 dX9_move_23 dX9_move_24 dX9_move_26 dX9_move_29 (Nat.le_of_ble_eq_true rfl) (Nat.le_of_ble_eq_true rfl) ⟨Or.inl ⟨Int32.not_le.mp h17, rfl⟩, rfl⟩
