/-! the object: features, first -/
def cocP (M : Mm) (bar bc : Nat) (fr : Nat → Nat) (M1 : Mm) : Prop := ∃ lo Mp, lo ≤ bar ∧ lo ≤ bc ∧ (∀ k, k < lo → acX M k (fr k) = true) ∧ (lo < bar → lo < bc → acX M lo (fr lo) = false) ∧ LI M Mp fr lo bar ∧ M1 = sI Mp 1 (upd (mI Mp 1) 11 (nI bar))
theorem fp_n {cnt : Nat} {row : Nat → Int32} {x : Int32} (h : ¬ fpX cnt row x < 0) : ∃ k, k < cnt ∧ fpX cnt row x = nI k ∧ row k = x := by
  unfold fpX at *
  cases e : fpN cnt row x with
  | none => rw [e] at h; exact absurd (show (-1 : Int32) < 0 by decide) h
  | some k =>
    unfold fpN at e
    have h1 := List.mem_of_find?_eq_some e
    have h2 := List.find?_some e
    exact ⟨k, List.mem_range.mp h1, rfl, of_decide_eq_true h2⟩
theorem fp_f {cnt : Nat} {row : Nat → Int32} {fr : Nat → Nat} {x : Int32} (hrow : ∀ k, k < cnt → row k = nI (fr k) ∧ fr k < 40) (h : ¬ fpX cnt row x < 0) : ∃ g, g < 40 ∧ x = nI g := by
  obtain ⟨k, hk, _, h2⟩ := fp_n h
  exact ⟨fr k, (hrow k hk).2, h2.symm.trans (hrow k hk).1⟩
theorem nn_le {x : Int32} {n : Nat} (hn : n < 2 ^ 31) (h0 : ¬ x < 0) (h1 : x ≤ nI n) : ∃ w, w ≤ n ∧ x = nI w := by
  have e0 : 0 ≤ x.toInt := by
    have := Int32.not_lt.mp h0
    rw [Int32.le_iff_toInt_le] at this
    exact this
  have e1 : x.toInt ≤ n := by
    rw [Int32.le_iff_toInt_le, nI_toInt hn] at h1
    exact h1
  exact ⟨x.toInt.toNat, by omega, Int32.toInt_inj.mp (by rw [nI_toInt (by omega)]; omega)⟩
set_option maxRecDepth 100000 in
set_option maxHeartbeats 4000000 in
theorem c_X9_state {l : Launch} {E : Ev} {M : Mm} (hl9 : l.stackTraces = false) (hnse : NseR l E) {cnt bar : Nat} {fr : Nat → Nat} {x : Int32} (hcnt : mI M 2 5 = nI cnt) (hc12 : cnt ≤ 12) (hrow : ∀ k, k < cnt → mI M 24 k = nI (fr k) ∧ fr k < 40) (hbar : mI M 2 7 = nI bar) (hbr : bar ≤ cnt) (hz28 : ∀ g, g < 40 → narrow .char (.int (mI M 28 g)) = .int (mI M 28 g)) : CtX l E yX9_state cX9_state 4 (some .char) 6 [.ref (eA E 0 0), .int x] M (fun v M1 => ¬ fpX cnt (mI M 24) x < 0 ∧ v = some (.int (if ¬ mI M 27 (ntX x) = 0 then nI 111 else if fpX cnt (mI M 24) x < nI bar then mI M 28 (ntX x) else nI 98)) ∧ M1 = M) (fun c M1 => fpX cnt (mI M 24) x < 0 ∧ c = "java/util/NoSuchElementException" ∧ M1 = M) := by
  refine CtX.of (own := RX9) rfl [some (.ref (eA E 0 0)), some (.int x), none, none] (by decide) (Nat.le_of_ble_eq_true rfl) rfl ?_
  refine j_aln dX9_state_0 rfl rfl ?_
  refine g_X9_0 dX9_state_1 fl_X9_10 ?_
  refine g_X3_0 dX9_state_4 fl_X9_43 ?_
  refine j_ast_2 dX9_state_7 (by decide) rfl ?_
  refine j_aln dX9_state_8 rfl rfl ?_
  refine j_iln dX9_state_9 rfl rfl ?_
  refine j_V1d mf_X2_findPlace ml_X9_123 dX9_state_10 (Nat.le_of_ble_eq_true rfl) (Nat.le_of_ble_eq_true rfl) (Nat.le_of_ble_eq_true rfl) ⟨(Nat.le_of_ble_eq_true rfl), (Nat.le_of_ble_eq_true rfl)⟩ (by first | assumption | decide | (simp only [nv] at *; omega)) rfl rfl (c_X2_findPlace hcnt hc12) ?_
  refine j_ist_3 dX9_state_13 (by decide) rfl ?_
  refine j_iln dX9_state_14 rfl rfl ?_
  refine j_ifge (tgt := 28) dX9_state_15 (by decide) (fun h15 => ?_) (fun h15 => ?_)
  · have hk := Int32.not_lt.mpr h15
    obtain ⟨g, hg, rfl⟩ := fp_f hrow hk
    rw [ntX_nI (show g < 2 ^ 31 by omega)]
    refine j_aln dX9_state_28 rfl rfl ?_
    refine g_X2_4 dX9_state_29 fl_X9_152 ?_
    refine j_iln dX9_state_32 rfl rfl ?_
    refine j_azldN dX9_state_33 rfl rfl rfl (by decide) (by omega) ?_
    refine j_ifeq (tgt := 40) dX9_state_34 (by decide) (fun h34 => ?_) (fun h34 => ?_)
    · refine j_iln dX9_state_40 rfl rfl ?_
      refine j_aln dX9_state_41 rfl rfl ?_
      refine g_X2_7 dX9_state_42 fl_X9_156 ?_
      refine j_topi hbar ?_
      refine j_iclt (tgt := 53) dX9_state_45 (by decide) (fun h45 => ?_) (fun h45 => ?_)
      · refine j_aln dX9_state_53 rfl rfl ?_
        refine g_X9_0 dX9_state_54 fl_X9_10 ?_
        refine g_X3_1 dX9_state_57 fl_X9_159 ?_
        refine j_iln dX9_state_60 rfl rfl ?_
        refine j_acldN dX9_state_61 rfl rfl rfl (by decide) (by omega) ?_
        exact j_iretX dX9_state_62 rfl (by first | rfl | exact hz28 _ (by omega)) (Nat.le_of_ble_eq_true rfl) (Nat.le_of_ble_eq_true rfl) ⟨hk, by first | (rw [if_neg (fun q => q h34), if_pos h45]; done) | (rw [if_neg (fun q => q h34), if_neg h45]; done), rfl⟩
      · refine j_biN 98 dX9_state_48 rfl ?_
        refine j_goto (tgt := 62) dX9_state_50 (by decide) ?_
        exact j_iretX dX9_state_62 rfl (by first | rfl | exact hz28 _ (by omega)) (Nat.le_of_ble_eq_true rfl) (Nat.le_of_ble_eq_true rfl) ⟨hk, by first | (rw [if_neg (fun q => q h34), if_pos h45]; done) | (rw [if_neg (fun q => q h34), if_neg h45]; done), rfl⟩
    · refine j_biN 111 dX9_state_37 rfl ?_
      exact j_iretX dX9_state_39 rfl rfl (Nat.le_of_ble_eq_true rfl) (Nat.le_of_ble_eq_true rfl) ⟨hk, by rw [if_pos h34], rfl⟩
  · exact hnse _ _ _ _ _ _ _ _ _ _ _ "no such feature" (by decide +kernel) dX9_state_18 dX9_state_21 dX9_state_22 dX9_state_24 dX9_state_27 (Nat.le_of_ble_eq_true rfl) (Nat.le_of_ble_eq_true rfl) ⟨Int32.not_le.mp h15, rfl, rfl⟩
set_option maxRecDepth 100000 in
set_option maxHeartbeats 4000000 in
theorem c_X9_nameOf {l : Launch} {E : Ev} {M : Mm} (hl9 : l.stackTraces = false) (hnse : NseR l E) {bar : Nat} {x y z s : Int32} (hbar : mI M 2 7 = nI bar) (hb12 : bar ≤ 12) : CtX l E yX9_nameOf cX9_nameOf 6 (some .int) 6 [.ref (eA E 0 0), .int x, .int y, .int z, .int s] M (fun v M1 => insd x y z = true ∧ sdX s = true ∧ ¬ mkr (mL M bar) (mK M bar) (ntX x) (ntX y) (ntX z) (ntX s) < 0 ∧ v = some (.int (mkr (mL M bar) (mK M bar) (ntX x) (ntX y) (ntX z) (ntX s))) ∧ M1 = M) (fun c M1 => ((insd x y z = false ∧ c = "java/lang/IndexOutOfBoundsException") ∨ (insd x y z = true ∧ sdX s = false ∧ c = "java/lang/IllegalArgumentException") ∨ (insd x y z = true ∧ sdX s = true ∧ mkr (mL M bar) (mK M bar) (ntX x) (ntX y) (ntX z) (ntX s) < 0 ∧ c = "java/util/NoSuchElementException")) ∧ M1 = M) := by
  refine CtX.of (own := RX9) rfl [some (.ref (eA E 0 0)), some (.int x), some (.int y), some (.int z), some (.int s), none] (by decide) (Nat.le_of_ble_eq_true rfl) rfl ?_
  refine j_iln dX9_nameOf_0 rfl rfl ?_
  refine j_iln dX9_nameOf_1 rfl rfl ?_
  refine j_iln dX9_nameOf_2 rfl rfl ?_
  refine j_S3d mf_X1_isInside ml_X9_166 dX9_nameOf_3 (Nat.le_of_ble_eq_true rfl) (Nat.le_of_ble_eq_true rfl) (Nat.le_of_ble_eq_true rfl) ⟨(Nat.le_of_ble_eq_true rfl), (Nat.le_of_ble_eq_true rfl)⟩ c_X1_isInside ?_
  refine j_ifne (tgt := 19) dX9_nameOf_6 (by decide) (fun h6 => ?_) (fun h6 => ?_)
  · have hk := bI_ne.mp h6
    refine j_il dX9_nameOf_19 rfl ?_
    refine j_S1d mf_X9_isSide ml_X9_189 dX9_nameOf_21 (Nat.le_of_ble_eq_true rfl) (Nat.le_of_ble_eq_true rfl) (Nat.le_of_ble_eq_true rfl) ⟨(Nat.le_of_ble_eq_true rfl), (Nat.le_of_ble_eq_true rfl)⟩ c_X9_isSide ?_
    refine j_ifne (tgt := 37) dX9_nameOf_24 (by decide) (fun h24 => ?_) (fun h24 => ?_)
    · have hs := bI_ne.mp h24
      have hI := of_decide_eq_true hk
      obtain ⟨a, ha, rfl⟩ := nn_lt (n := 8) (by decide) hI.1 hI.2.1
      obtain ⟨b, hb, rfl⟩ := nn_lt (n := 8) (by decide) hI.2.2.1 hI.2.2.2.1
      obtain ⟨d, hd, rfl⟩ := nn_lt (n := 8) (by decide) hI.2.2.2.2.1 hI.2.2.2.2.2
      obtain ⟨t, ht, rfl⟩ := sd_n hs
      rw [ntX_nI (show a < 2 ^ 31 by omega), ntX_nI (show b < 2 ^ 31 by omega), ntX_nI (show d < 2 ^ 31 by omega), ntX_nI (show t < 2 ^ 31 by omega)]
      refine j_aln dX9_nameOf_37 rfl rfl ?_
      refine g_X9_0 dX9_nameOf_38 fl_X9_10 ?_
      refine j_V0d mf_X3_body ml_X9_173 dX9_nameOf_41 (Nat.le_of_ble_eq_true rfl) (Nat.le_of_ble_eq_true rfl) (Nat.le_of_ble_eq_true rfl) ⟨(Nat.le_of_ble_eq_true rfl), (Nat.le_of_ble_eq_true rfl)⟩ (by first | assumption | decide | (simp only [nv] at *; omega)) rfl rfl (c_X3_body hbar hb12) ?_
      refine j_iln dX9_nameOf_44 rfl rfl ?_
      refine j_iln dX9_nameOf_45 rfl rfl ?_
      refine j_iln dX9_nameOf_46 rfl rfl ?_
      refine j_il dX9_nameOf_47 rfl ?_
      refine j_V4d mf_X0_makerOf ml_X9_194 dX9_nameOf_49 (Nat.le_of_ble_eq_true rfl) (Nat.le_of_ble_eq_true rfl) (Nat.le_of_ble_eq_true rfl) ⟨(Nat.le_of_ble_eq_true rfl), (Nat.le_of_ble_eq_true rfl)⟩ (by first | assumption | decide | (simp only [nv] at *; omega)) rfl rfl (c_X0_makerOf (show bar < 15 by omega) ha hb hd ht) ?_
      refine j_ist_5 dX9_nameOf_52 (by decide) rfl ?_
      refine j_il dX9_nameOf_54 rfl ?_
      refine j_ifge (tgt := 69) dX9_nameOf_56 (by decide) (fun h56 => ?_) (fun h56 => ?_)
      · refine j_il dX9_nameOf_69 rfl ?_
        exact j_iretX dX9_nameOf_71 rfl rfl (Nat.le_of_ble_eq_true rfl) (Nat.le_of_ble_eq_true rfl) ⟨hk, hs, Int32.not_lt.mpr h56, rfl, rfl⟩
      · exact hnse _ _ _ _ _ _ _ _ _ _ _ "no square of the body" (by decide +kernel) dX9_nameOf_59 dX9_nameOf_62 dX9_nameOf_63 dX9_nameOf_65 dX9_nameOf_68 (Nat.le_of_ble_eq_true rfl) (Nat.le_of_ble_eq_true rfl) ⟨Or.inr (Or.inr ⟨hk, hs, Int32.not_le.mp h56, rfl⟩), rfl⟩
    · have hs : sdX s = false := bI_eq.mp h24
      exact j_throwS (text := "no such side") hl9 thr_36 (by decide +kernel) dX9_nameOf_27 dX9_nameOf_30 dX9_nameOf_31 dX9_nameOf_33 dX9_nameOf_36 (Nat.le_of_ble_eq_true rfl) (Nat.le_of_ble_eq_true rfl) ⟨Or.inr (Or.inl ⟨hk, hs, rfl⟩), rfl⟩
  · have hk : insd x y z = false := bI_eq.mp h6
    exact j_throwS (text := "no such cell") hl9 thr_143 (by decide +kernel) dX9_nameOf_9 dX9_nameOf_12 dX9_nameOf_13 dX9_nameOf_15 dX9_nameOf_18 (Nat.le_of_ble_eq_true rfl) (Nat.le_of_ble_eq_true rfl) ⟨Or.inl ⟨hk, rfl⟩, rfl⟩
set_option maxRecDepth 100000 in
set_option maxHeartbeats 4000000 in
theorem c_X9_setBar {l : Launch} {E : Ev} {M : Mm} (hl9 : l.stackTraces = false) {cnt bar bc : Nat} {fr : Nat → Nat} {x : Int32} (hcnt : mI M 2 5 = nI cnt) (hc12 : cnt ≤ 12) (hrow : ∀ k, k < cnt → mI M 24 k = nI (fr k) ∧ fr k < 40) (hbar : mI M 2 7 = nI bar) (hbr : bar ≤ cnt) (hbc : mI M 1 11 = nI bc) (hbc12 : bc ≤ 12) (hkd : ∀ k, k < cnt → seven (mI M 25 (fr k))) (hinj : ∀ i j, i < cnt → j < cnt → fr i = fr j → i = j) (hof : ∀ g, g < 40 → vp_nar .boolean (mI M 27 g) = mI M 27 g) : CtX l E yX9_setBar cX9_setBar 4 (some .int) 7 [.ref (eA E 0 0), .int x] M (fun v M1 => ∃ p, p ≤ cnt ∧ x = nI p ∧ v = some (.int (nI bar)) ∧ cocP (sI M 2 (upd (mI M 2) 7 (nI p))) p bc fr M1) (fun c M1 => ¬ (¬ x < 0 ∧ x ≤ nI cnt) ∧ c = "java/lang/IndexOutOfBoundsException" ∧ M1 = M) := by
  refine CtX.of (own := RX9) rfl [some (.ref (eA E 0 0)), some (.int x), none, none] (by decide) (Nat.le_of_ble_eq_true rfl) rfl ?_
  refine j_aln dX9_setBar_0 rfl rfl ?_
  refine g_X9_0 dX9_setBar_1 fl_X9_10 ?_
  refine g_X3_0 dX9_setBar_4 fl_X9_43 ?_
  refine j_ast_2 dX9_setBar_7 (by decide) rfl ?_
  refine j_iln dX9_setBar_8 rfl rfl ?_
  refine j_iflt (tgt := 20) dX9_setBar_9 (by decide) (fun h9 => ?_) (fun h9 => ?_)
  · have hx : ¬ (¬ x < 0 ∧ x ≤ nI cnt) := fun q => q.1 h9
    exact j_throwS (text := "no such place") hl9 thr_143 (by decide +kernel) dX9_setBar_20 dX9_setBar_23 dX9_setBar_24 dX9_setBar_26 dX9_setBar_29 (Nat.le_of_ble_eq_true rfl) (Nat.le_of_ble_eq_true rfl) ⟨hx, rfl, rfl⟩
  · refine j_iln dX9_setBar_12 rfl rfl ?_
    refine j_aln dX9_setBar_13 rfl rfl ?_
    refine g_X2_5 dX9_setBar_14 fl_X9_104 ?_
    refine j_topi hcnt ?_
    refine j_icle (tgt := 30) dX9_setBar_17 (by decide) (fun h17 => ?_) (fun h17 => ?_)
    · obtain ⟨p, hp, rfl⟩ := nn_le (by omega) h9 h17
      refine j_aln dX9_setBar_30 rfl rfl ?_
      refine g_X2_7 dX9_setBar_31 fl_X9_156 ?_
      refine j_topi hbar ?_
      refine j_ist_3 dX9_setBar_34 (by decide) rfl ?_
      refine j_aln dX9_setBar_35 rfl rfl ?_
      refine j_iln dX9_setBar_36 rfl rfl ?_
      refine p_X2_7 dX9_setBar_37 fl_X9_156 ?_
      refine j_aln dX9_setBar_40 rfl rfl ?_
      refine g_X9_0 dX9_setBar_41 fl_X9_10 ?_
      refine j_V0g mf_X3_carryOutChanged ml_X9_83 dX9_setBar_44 (Nat.le_of_ble_eq_true rfl) (Nat.le_of_ble_eq_true rfl) (Nat.le_of_ble_eq_true rfl) ⟨(Nat.le_of_ble_eq_true rfl), (Nat.le_of_ble_eq_true rfl)⟩ (by first | assumption | decide | (simp only [nv] at *; omega)) rfl rfl (c_X3_carryOutChanged (M := (sI M 2 (upd (mI M 2) 7 (nI p)))) (cnt := cnt) (bar := p) (bc := bc) (fr := fr) rfl hbc hp hc12 hbc12 hrow hkd hinj hof) ?_
      intro v9 M9 h9
      obtain ⟨rfl, hco⟩ := h9
      refine j_iln dX9_setBar_47 rfl rfl ?_
      exact j_iretX dX9_setBar_48 rfl rfl (Nat.le_of_ble_eq_true rfl) (Nat.le_of_ble_eq_true rfl) ⟨p, hp, rfl, rfl, hco⟩
    · have hx : ¬ (¬ x < 0 ∧ x ≤ nI cnt) := fun q => h17 q.2
      exact j_throwS (text := "no such place") hl9 thr_143 (by decide +kernel) dX9_setBar_20 dX9_setBar_23 dX9_setBar_24 dX9_setBar_26 dX9_setBar_29 (Nat.le_of_ble_eq_true rfl) (Nat.le_of_ble_eq_true rfl) ⟨hx, rfl, rfl⟩
set_option maxRecDepth 100000 in
set_option maxHeartbeats 4000000 in
theorem c_X9_putOff {l : Launch} {E : Ev} {M : Mm} (hl9 : l.stackTraces = false) (hnse : NseR l E) {cnt bar bc : Nat} {fr : Nat → Nat} {x : Int32} {b : Bool} (hcnt : mI M 2 5 = nI cnt) (hc12 : cnt ≤ 12) (hrow : ∀ k, k < cnt → mI M 24 k = nI (fr k) ∧ fr k < 40) (hbar : mI M 2 7 = nI bar) (hbr : bar ≤ cnt) (hbc : mI M 1 11 = nI bc) (hbc12 : bc ≤ 12) (hkd : ∀ k, k < cnt → seven (mI M 25 (fr k))) (hinj : ∀ i j, i < cnt → j < cnt → fr i = fr j → i = j) (hof : ∀ g, g < 40 → vp_nar .boolean (mI M 27 g) = mI M 27 g) : CtX l E yX9_putOff cX9_putOff 5 (some .boolean) 7 [.ref (eA E 0 0), .int x, .int (bI b)] M (fun v M1 => ¬ fpX cnt (mI M 24) x < 0 ∧ ∃ g, g < 40 ∧ x = nI g ∧ v = some (.int (if mI M 27 g = bI b then nI 0 else nI 1)) ∧ cocP (sI M 27 (upd (mI M 27) g (bI b))) bar bc fr M1) (fun c M1 => fpX cnt (mI M 24) x < 0 ∧ c = "java/util/NoSuchElementException" ∧ M1 = M) := by
  refine CtX.of (own := RX9) rfl [some (.ref (eA E 0 0)), some (.int x), some (.int (bI b)), none, none] (by decide) (Nat.le_of_ble_eq_true rfl) rfl ?_
  refine j_aln dX9_putOff_0 rfl rfl ?_
  refine g_X9_0 dX9_putOff_1 fl_X9_10 ?_
  refine g_X3_0 dX9_putOff_4 fl_X9_43 ?_
  refine j_ast_3 dX9_putOff_7 (by decide) rfl ?_
  refine j_aln dX9_putOff_8 rfl rfl ?_
  refine j_iln dX9_putOff_9 rfl rfl ?_
  refine j_V1d mf_X2_findPlace ml_X9_123 dX9_putOff_10 (Nat.le_of_ble_eq_true rfl) (Nat.le_of_ble_eq_true rfl) (Nat.le_of_ble_eq_true rfl) ⟨(Nat.le_of_ble_eq_true rfl), (Nat.le_of_ble_eq_true rfl)⟩ (by first | assumption | decide | (simp only [nv] at *; omega)) rfl rfl (c_X2_findPlace hcnt hc12) ?_
  refine j_ifge (tgt := 26) dX9_putOff_13 (by decide) (fun h13 => ?_) (fun h13 => ?_)
  · have hk := Int32.not_lt.mpr h13
    obtain ⟨g, hg, rfl⟩ := fp_f hrow hk
    refine j_aln dX9_putOff_26 rfl rfl ?_
    refine g_X2_4 dX9_putOff_27 fl_X9_152 ?_
    refine j_iln dX9_putOff_30 rfl rfl ?_
    refine j_azldN dX9_putOff_31 rfl rfl rfl (by decide) (by omega) ?_
    refine j_iln dX9_putOff_32 rfl rfl ?_
    refine j_iceq (tgt := 40) dX9_putOff_33 (by decide) (fun h33 => ?_) (fun h33 => ?_)
    · refine j_icN 0 dX9_putOff_40 rfl ?_
      refine j_ist_4 dX9_putOff_41 (by decide) rfl ?_
      refine j_aln dX9_putOff_43 rfl rfl ?_
      refine g_X2_4 dX9_putOff_44 fl_X9_152 ?_
      refine j_iln dX9_putOff_47 rfl rfl ?_
      refine j_iln dX9_putOff_48 rfl rfl ?_
      refine j_azstN dX9_putOff_49 rfl (fun _ => rfl) rfl (by decide) (by omega) (bI_vp b) ?_
      refine j_aln dX9_putOff_50 rfl rfl ?_
      refine g_X9_0 dX9_putOff_51 fl_X9_10 ?_
      refine j_V0g mf_X3_carryOutChanged ml_X9_83 dX9_putOff_54 (Nat.le_of_ble_eq_true rfl) (Nat.le_of_ble_eq_true rfl) (Nat.le_of_ble_eq_true rfl) ⟨(Nat.le_of_ble_eq_true rfl), (Nat.le_of_ble_eq_true rfl)⟩ (by first | assumption | decide | (simp only [nv] at *; omega)) rfl rfl (c_X3_carryOutChanged (M := (sI M 27 (upd (mI M 27) g (bI b)))) (cnt := cnt) (bar := bar) (bc := bc) (fr := fr) hbar hbc hbr hc12 hbc12 hrow hkd hinj (fun g9 h9 => by show vp_nar .boolean (if g9 = g then bI b else mI M 27 g9) = if g9 = g then bI b else mI M 27 g9; split; exact bI_vp b; exact hof g9 h9)) ?_
      intro v9 M9 h9
      obtain ⟨rfl, hco⟩ := h9
      refine j_il dX9_putOff_57 rfl ?_
      exact j_iretX dX9_putOff_59 rfl (by decide) (Nat.le_of_ble_eq_true rfl) (Nat.le_of_ble_eq_true rfl) ⟨hk, g, hg, rfl, by first | (rw [if_pos h33]; done) | (rw [if_neg h33]; done), hco⟩
    · refine j_icN 1 dX9_putOff_36 rfl ?_
      refine j_goto (tgt := 41) dX9_putOff_37 (by decide) ?_
      refine j_ist_4 dX9_putOff_41 (by decide) rfl ?_
      refine j_aln dX9_putOff_43 rfl rfl ?_
      refine g_X2_4 dX9_putOff_44 fl_X9_152 ?_
      refine j_iln dX9_putOff_47 rfl rfl ?_
      refine j_iln dX9_putOff_48 rfl rfl ?_
      refine j_azstN dX9_putOff_49 rfl (fun _ => rfl) rfl (by decide) (by omega) (bI_vp b) ?_
      refine j_aln dX9_putOff_50 rfl rfl ?_
      refine g_X9_0 dX9_putOff_51 fl_X9_10 ?_
      refine j_V0g mf_X3_carryOutChanged ml_X9_83 dX9_putOff_54 (Nat.le_of_ble_eq_true rfl) (Nat.le_of_ble_eq_true rfl) (Nat.le_of_ble_eq_true rfl) ⟨(Nat.le_of_ble_eq_true rfl), (Nat.le_of_ble_eq_true rfl)⟩ (by first | assumption | decide | (simp only [nv] at *; omega)) rfl rfl (c_X3_carryOutChanged (M := (sI M 27 (upd (mI M 27) g (bI b)))) (cnt := cnt) (bar := bar) (bc := bc) (fr := fr) hbar hbc hbr hc12 hbc12 hrow hkd hinj (fun g9 h9 => by show vp_nar .boolean (if g9 = g then bI b else mI M 27 g9) = if g9 = g then bI b else mI M 27 g9; split; exact bI_vp b; exact hof g9 h9)) ?_
      intro v9 M9 h9
      obtain ⟨rfl, hco⟩ := h9
      refine j_il dX9_putOff_57 rfl ?_
      exact j_iretX dX9_putOff_59 rfl (by decide) (Nat.le_of_ble_eq_true rfl) (Nat.le_of_ble_eq_true rfl) ⟨hk, g, hg, rfl, by first | (rw [if_pos h33]; done) | (rw [if_neg h33]; done), hco⟩
  · exact hnse _ _ _ _ _ _ _ _ _ _ _ "no such feature" (by decide +kernel) dX9_putOff_16 dX9_putOff_19 dX9_putOff_20 dX9_putOff_22 dX9_putOff_25 (Nat.le_of_ble_eq_true rfl) (Nat.le_of_ble_eq_true rfl) ⟨Int32.not_le.mp h13, rfl, rfl⟩
