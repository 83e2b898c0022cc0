/-! the object: sizes, formulas -/
abbrev pfM (M : Mm) (f w : Nat) (x : Int32) : Mm := sI M 26 (upd (mI M 26) (f * 6 + 3 + w) x)
abbrev pfV (M : Mm) (f w : Nat) (x : Int32) : Int32 := if szX (pfM M f w x) f (3 + w) = szX M f (3 + w) then nI 0 else nI 1
theorem putF_t {M : Mm} {n t : Nat} {x c y : Int32} (h : ¬ (20 ≤ t ∧ t ≤ 23)) : mI (putF M n x c y) t = mI M t := by
  unfold putF put3
  simp only [mI_sI]
  rw [if_neg (by omega), if_neg (by omega), if_neg (by omega), if_neg (by omega)]
theorem op_vp {c : Int32} (h : isOp c = true) : vp_nar .char c = c := by
  rcases of_decide_eq_true h with h | h | h <;> subst h <;> rfl
set_option maxRecDepth 100000 in
set_option maxHeartbeats 4000000 in
theorem c_X9_setSize {l : Launch} {E : Ev} {M : Mm} (hl9 : l.stackTraces = false) (hnse : NseR l E) {cnt bar bc : Nat} {fr : Nat → Nat} {x a b c : Int32} (hcnt : mI M 2 5 = nI cnt) (hc12 : cnt ≤ 12) (hrow : ∀ k, k < cnt → mI M 24 k = nI (fr k) ∧ fr k < 40) (hbar : mI M 2 7 = nI bar) (hbr : bar ≤ cnt) (hbc : mI M 1 11 = nI bc) (hbc12 : bc ≤ 12) (hkd : ∀ k, k < cnt → seven (mI M 25 (fr k))) (hinj : ∀ i j, i < cnt → j < cnt → fr i = fr j → i = j) (hof : ∀ g, g < 40 → vp_nar .boolean (mI M 27 g) = mI M 27 g) : CtX l E yX9_setSize cX9_setSize 7 (some .int) 7 [.ref (eA E 0 0), .int x, .int a, .int b, .int c] M (fun v M1 => ¬ fpX cnt (mI M 24) x < 0 ∧ aT a b c = true ∧ ∃ f, f < 40 ∧ x = nI f ∧ v = some (.int (pfV M f 0 a + pfV (pfM M f 0 a) f 1 b + pfV (pfM (pfM M f 0 a) f 1 b) f 2 c)) ∧ cocP (pfM (pfM (pfM M f 0 a) f 1 b) f 2 c) bar bc fr M1) (fun c9 M1 => ((fpX cnt (mI M 24) x < 0 ∧ c9 = "java/util/NoSuchElementException") ∨ (¬ fpX cnt (mI M 24) x < 0 ∧ aT a b c = false ∧ c9 = "java/lang/IllegalArgumentException")) ∧ M1 = M) := by
  refine CtX.of (own := RX9) rfl [some (.ref (eA E 0 0)), some (.int x), some (.int a), some (.int b), some (.int c), none, none] (by decide) (Nat.le_of_ble_eq_true rfl) rfl ?_
  refine j_aln dX9_setSize_0 rfl rfl ?_
  refine g_X9_0 dX9_setSize_1 fl_X9_10 ?_
  refine g_X3_0 dX9_setSize_4 fl_X9_43 ?_
  refine j_ast_5 dX9_setSize_7 (by decide) rfl ?_
  refine j_al dX9_setSize_9 rfl ?_
  refine j_iln dX9_setSize_11 rfl rfl ?_
  refine j_V1d mf_X2_findPlace ml_X9_123 dX9_setSize_12 (Nat.le_of_ble_eq_true rfl) (Nat.le_of_ble_eq_true rfl) (Nat.le_of_ble_eq_true rfl) ⟨(Nat.le_of_ble_eq_true rfl), (Nat.le_of_ble_eq_true rfl)⟩ (by first | assumption | decide | (simp only [nv] at *; omega)) rfl rfl (c_X2_findPlace hcnt hc12) ?_
  refine j_ifge (tgt := 28) dX9_setSize_15 (by decide) (fun h15 => ?_) (fun h15 => ?_)
  · have hk := Int32.not_lt.mpr h15
    refine j_iln dX9_setSize_28 rfl rfl ?_
    refine j_iln dX9_setSize_29 rfl rfl ?_
    refine j_il dX9_setSize_30 rfl ?_
    refine j_S3d mf_X9_areTerms ml_X9_99 dX9_setSize_32 (Nat.le_of_ble_eq_true rfl) (Nat.le_of_ble_eq_true rfl) (Nat.le_of_ble_eq_true rfl) ⟨(Nat.le_of_ble_eq_true rfl), (Nat.le_of_ble_eq_true rfl)⟩ c_X9_areTerms ?_
    refine j_ifne (tgt := 48) dX9_setSize_35 (by decide) (fun h35 => ?_) (fun h35 => ?_)
    · have ht := bI_ne.mp h35
      obtain ⟨f, hf, rfl⟩ := fp_f hrow hk
      refine j_al dX9_setSize_48 rfl ?_
      refine j_iln dX9_setSize_50 rfl rfl ?_
      refine j_icN 0 dX9_setSize_51 rfl ?_
      refine j_iln dX9_setSize_52 rfl rfl ?_
      refine j_V3d mf_X2_putFurther ml_X9_133 dX9_setSize_53 (Nat.le_of_ble_eq_true rfl) (Nat.le_of_ble_eq_true rfl) (Nat.le_of_ble_eq_true rfl) ⟨(Nat.le_of_ble_eq_true rfl), (Nat.le_of_ble_eq_true rfl)⟩ (by first | assumption | decide | (simp only [nv] at *; omega)) rfl rfl (c_X2_putFurther hf (show 0 < 3 by decide)) ?_
      refine j_ist_6 dX9_setSize_56 (by decide) rfl ?_
      refine j_il dX9_setSize_58 rfl ?_
      refine j_al dX9_setSize_60 rfl ?_
      refine j_iln dX9_setSize_62 rfl rfl ?_
      refine j_icN 1 dX9_setSize_63 rfl ?_
      refine j_iln dX9_setSize_64 rfl rfl ?_
      refine j_V3d mf_X2_putFurther ml_X9_133 dX9_setSize_65 (Nat.le_of_ble_eq_true rfl) (Nat.le_of_ble_eq_true rfl) (Nat.le_of_ble_eq_true rfl) ⟨(Nat.le_of_ble_eq_true rfl), (Nat.le_of_ble_eq_true rfl)⟩ (by first | assumption | decide | (simp only [nv] at *; omega)) rfl rfl (c_X2_putFurther hf (show 1 < 3 by decide)) ?_
      refine j_iadd dX9_setSize_68 ?_
      refine j_ist_6 dX9_setSize_69 (by decide) rfl ?_
      refine j_il dX9_setSize_71 rfl ?_
      refine j_al dX9_setSize_73 rfl ?_
      refine j_iln dX9_setSize_75 rfl rfl ?_
      refine j_icN 2 dX9_setSize_76 rfl ?_
      refine j_il dX9_setSize_77 rfl ?_
      refine j_V3d mf_X2_putFurther ml_X9_133 dX9_setSize_79 (Nat.le_of_ble_eq_true rfl) (Nat.le_of_ble_eq_true rfl) (Nat.le_of_ble_eq_true rfl) ⟨(Nat.le_of_ble_eq_true rfl), (Nat.le_of_ble_eq_true rfl)⟩ (by first | assumption | decide | (simp only [nv] at *; omega)) rfl rfl (c_X2_putFurther hf (show 2 < 3 by decide)) ?_
      refine j_iadd dX9_setSize_82 ?_
      refine j_ist_6 dX9_setSize_83 (by decide) rfl ?_
      refine j_aln dX9_setSize_85 rfl rfl ?_
      refine g_X9_0 dX9_setSize_86 fl_X9_10 ?_
      refine j_V0g mf_X3_carryOutChanged ml_X9_83 dX9_setSize_89 (Nat.le_of_ble_eq_true rfl) (Nat.le_of_ble_eq_true rfl) (Nat.le_of_ble_eq_true rfl) ⟨(Nat.le_of_ble_eq_true rfl), (Nat.le_of_ble_eq_true rfl)⟩ (by first | assumption | decide | (simp only [nv] at *; omega)) rfl rfl (c_X3_carryOutChanged (M := (pfM (pfM (pfM M f 0 a) f 1 b) f 2 c)) (cnt := cnt) (bar := bar) (bc := bc) (fr := fr) hbar hbc hbr hc12 hbc12 hrow hkd hinj hof) ?_
      intro v9 M9 h9
      obtain ⟨rfl, hco⟩ := h9
      refine j_il dX9_setSize_92 rfl ?_
      exact j_iretX dX9_setSize_94 rfl rfl (Nat.le_of_ble_eq_true rfl) (Nat.le_of_ble_eq_true rfl) ⟨hk, ht, f, hf, rfl, rfl, hco⟩
    · have ht : aT a b c = false := bI_eq.mp h35
      exact j_throwS (text := "no such dimension") hl9 thr_36 (by decide +kernel) dX9_setSize_38 dX9_setSize_41 dX9_setSize_42 dX9_setSize_44 dX9_setSize_47 (Nat.le_of_ble_eq_true rfl) (Nat.le_of_ble_eq_true rfl) ⟨Or.inr ⟨hk, ht, rfl⟩, rfl⟩
  · exact hnse _ _ _ _ _ _ _ _ _ _ _ "no such feature" (by decide +kernel) dX9_setSize_18 dX9_setSize_21 dX9_setSize_22 dX9_setSize_24 dX9_setSize_27 (Nat.le_of_ble_eq_true rfl) (Nat.le_of_ble_eq_true rfl) ⟨Or.inl ⟨Int32.not_le.mp h15, rfl⟩, rfl⟩
set_option maxRecDepth 100000 in
set_option maxHeartbeats 4000000 in
theorem c_X9_setNumber {l : Launch} {E : Ev} {M : Mm} (hl9 : l.stackTraces = false) {cnt bar bc : Nat} {fr : Nat → Nat} {x a c b : Int32} (hcnt : mI M 2 5 = nI cnt) (hc12 : cnt ≤ 12) (hrow : ∀ k, k < cnt → mI M 24 k = nI (fr k) ∧ fr k < 40) (hbar : mI M 2 7 = nI bar) (hbr : bar ≤ cnt) (hbc : mI M 1 11 = nI bc) (hbc12 : bc ≤ 12) (hkd : ∀ k, k < cnt → seven (mI M 25 (fr k))) (hinj : ∀ i j, i < cnt → j < cnt → fr i = fr j → i = j) (hof : ∀ g, g < 40 → vp_nar .boolean (mI M 27 g) = mI M 27 g) (hop : ∀ n, n < 8 → vp_nar .char (mI M 21 n) = mI M 21 n) : CtX l E yX9_setNumber cX9_setNumber 9 (some .int) 7 [.ref (eA E 0 0), .int x, .int a, .int c, .int b] M (fun v M1 => (isNm x = true ∧ isOp c = true ∧ isT a = true ∧ isT b = true) ∧ ∃ n, n < 8 ∧ x = nI n ∧ hasB (ndR (mI M 20) (mI M 22) (needX a ||| needX b) 8) n = false ∧ sbN (putF M n a c b) cnt fr = true ∧ v = some (.int (mI (putF M n a c b) 23 n)) ∧ cocP (putF M n a c b) bar bc fr M1) (fun c9 M1 => (¬ (isNm x = true ∧ isOp c = true ∧ isT a = true ∧ isT b = true) ∧ c9 = "java/lang/IllegalArgumentException" ∧ M1 = M) ∨ ((isNm x = true ∧ isOp c = true ∧ isT a = true ∧ isT b = true) ∧ ∃ n, n < 8 ∧ x = nI n ∧ hasB (ndR (mI M 20) (mI M 22) (needX a ||| needX b) 8) n = true ∧ c9 = "java/lang/UnsupportedOperationException" ∧ M1 = M) ∨ ((isNm x = true ∧ isOp c = true ∧ isT a = true ∧ isT b = true) ∧ ∃ n, n < 8 ∧ x = nI n ∧ hasB (ndR (mI M 20) (mI M 22) (needX a ||| needX b) 8) n = false ∧ sbN (putF M n a c b) cnt fr = false ∧ c9 = "java/lang/UnsupportedOperationException" ∧ M1 = putF (putF M n a c b) n (mI M 20 n) (mI M 21 n) (mI M 22 n))) := by
  refine CtX.of (own := RX9) rfl [some (.ref (eA E 0 0)), some (.int x), some (.int a), some (.int c), some (.int b), none, none, none, none] (by decide) (Nat.le_of_ble_eq_true rfl) rfl ?_
  refine j_iln dX9_setNumber_0 rfl rfl ?_
  refine j_S1d mf_X5_isName ml_X9_23 dX9_setNumber_1 (Nat.le_of_ble_eq_true rfl) (Nat.le_of_ble_eq_true rfl) (Nat.le_of_ble_eq_true rfl) ⟨(Nat.le_of_ble_eq_true rfl), (Nat.le_of_ble_eq_true rfl)⟩ c_X5_isName ?_
  refine j_ifeq (tgt := 29) dX9_setNumber_4 (by decide) (fun h4 => ?_) (fun h4 => ?_)
  · have hx : ¬ (isNm x = true ∧ isOp c = true ∧ isT a = true ∧ isT b = true) := fun q => by have e := bI_eq.mp h4; rw [q.1] at e; exact absurd e (by decide)
    exact j_throwS (text := "no such name, term or operation") hl9 thr_36 (by decide +kernel) dX9_setNumber_29 dX9_setNumber_32 dX9_setNumber_33 dX9_setNumber_35 dX9_setNumber_38 (Nat.le_of_ble_eq_true rfl) (Nat.le_of_ble_eq_true rfl) (Or.inl ⟨hx, rfl, rfl⟩)
  · refine j_iln dX9_setNumber_7 rfl rfl ?_
    refine j_S1d mf_X5_isOperation ml_X9_29 dX9_setNumber_8 (Nat.le_of_ble_eq_true rfl) (Nat.le_of_ble_eq_true rfl) (Nat.le_of_ble_eq_true rfl) ⟨(Nat.le_of_ble_eq_true rfl), (Nat.le_of_ble_eq_true rfl)⟩ c_X5_isOperation ?_
    refine j_ifeq (tgt := 29) dX9_setNumber_11 (by decide) (fun h11 => ?_) (fun h11 => ?_)
    · have hx : ¬ (isNm x = true ∧ isOp c = true ∧ isT a = true ∧ isT b = true) := fun q => by have e := bI_eq.mp h11; rw [q.2.1] at e; exact absurd e (by decide)
      exact j_throwS (text := "no such name, term or operation") hl9 thr_36 (by decide +kernel) dX9_setNumber_29 dX9_setNumber_32 dX9_setNumber_33 dX9_setNumber_35 dX9_setNumber_38 (Nat.le_of_ble_eq_true rfl) (Nat.le_of_ble_eq_true rfl) (Or.inl ⟨hx, rfl, rfl⟩)
    · refine j_iln dX9_setNumber_14 rfl rfl ?_
      refine j_S1d mf_X5_isTerm ml_X9_33 dX9_setNumber_15 (Nat.le_of_ble_eq_true rfl) (Nat.le_of_ble_eq_true rfl) (Nat.le_of_ble_eq_true rfl) ⟨(Nat.le_of_ble_eq_true rfl), (Nat.le_of_ble_eq_true rfl)⟩ c_X5_isTerm ?_
      refine j_ifeq (tgt := 29) dX9_setNumber_18 (by decide) (fun h18 => ?_) (fun h18 => ?_)
      · have hx : ¬ (isNm x = true ∧ isOp c = true ∧ isT a = true ∧ isT b = true) := fun q => by have e := bI_eq.mp h18; rw [q.2.2.1] at e; exact absurd e (by decide)
        exact j_throwS (text := "no such name, term or operation") hl9 thr_36 (by decide +kernel) dX9_setNumber_29 dX9_setNumber_32 dX9_setNumber_33 dX9_setNumber_35 dX9_setNumber_38 (Nat.le_of_ble_eq_true rfl) (Nat.le_of_ble_eq_true rfl) (Or.inl ⟨hx, rfl, rfl⟩)
      · refine j_il dX9_setNumber_21 rfl ?_
        refine j_S1d mf_X5_isTerm ml_X9_33 dX9_setNumber_23 (Nat.le_of_ble_eq_true rfl) (Nat.le_of_ble_eq_true rfl) (Nat.le_of_ble_eq_true rfl) ⟨(Nat.le_of_ble_eq_true rfl), (Nat.le_of_ble_eq_true rfl)⟩ c_X5_isTerm ?_
        refine j_ifne (tgt := 39) dX9_setNumber_26 (by decide) (fun h26 => ?_) (fun h26 => ?_)
        · have hk : (isNm x = true ∧ isOp c = true ∧ isT a = true ∧ isT b = true) := ⟨bI_ne.mp h4, bI_ne.mp h11, bI_ne.mp h18, bI_ne.mp h26⟩
          obtain ⟨n, hn, rfl⟩ := nm_n hk.1
          refine j_aln dX9_setNumber_39 rfl rfl ?_
          refine g_X9_0 dX9_setNumber_40 fl_X9_10 ?_
          refine g_X3_0 dX9_setNumber_43 fl_X9_43 ?_
          refine g_X2_0 dX9_setNumber_46 fl_X9_47 ?_
          refine j_ast_5 dX9_setNumber_49 (by decide) rfl ?_
          refine j_al dX9_setNumber_51 rfl ?_
          refine j_iln dX9_setNumber_53 rfl rfl ?_
          refine j_iln dX9_setNumber_54 rfl rfl ?_
          refine j_il dX9_setNumber_55 rfl ?_
          refine j_V3d mf_X5_wouldNeedItself ml_X9_53 dX9_setNumber_57 (Nat.le_of_ble_eq_true rfl) (Nat.le_of_ble_eq_true rfl) (Nat.le_of_ble_eq_true rfl) ⟨(Nat.le_of_ble_eq_true rfl), (Nat.le_of_ble_eq_true rfl)⟩ (by first | assumption | decide | (simp only [nv] at *; omega)) rfl rfl (c_X5_wouldNeedItself hn) ?_
          refine j_ifeq (tgt := 73) dX9_setNumber_60 (by decide) (fun h60 => ?_) (fun h60 => ?_)
          · have hnd := bI_eq.mp h60
            refine j_al dX9_setNumber_73 rfl ?_
            refine g_X5_0 dX9_setNumber_75 fl_X9_62 ?_
            refine j_iln dX9_setNumber_78 rfl rfl ?_
            refine j_aildN dX9_setNumber_79 rfl rfl rfl (by decide) (by omega) ?_
            refine j_ist_6 dX9_setNumber_80 (by decide) rfl ?_
            refine j_al dX9_setNumber_82 rfl ?_
            refine g_X5_1 dX9_setNumber_84 fl_X9_66 ?_
            refine j_iln dX9_setNumber_87 rfl rfl ?_
            refine j_acldN dX9_setNumber_88 rfl rfl rfl (by decide) (by omega) ?_
            refine j_ist_7 dX9_setNumber_89 (by decide) rfl ?_
            refine j_al dX9_setNumber_91 rfl ?_
            refine g_X5_2 dX9_setNumber_93 fl_X9_70 ?_
            refine j_iln dX9_setNumber_96 rfl rfl ?_
            refine j_aildN dX9_setNumber_97 rfl rfl rfl (by decide) (by omega) ?_
            refine j_ist_8 dX9_setNumber_98 (by decide) rfl ?_
            refine j_al dX9_setNumber_100 rfl ?_
            refine j_iln dX9_setNumber_102 rfl rfl ?_
            refine j_iln dX9_setNumber_103 rfl rfl ?_
            refine j_iln dX9_setNumber_104 rfl rfl ?_
            refine j_il dX9_setNumber_105 rfl ?_
            refine j_V4n mf_X5_putFormula ml_X9_73 dX9_setNumber_107 (Nat.le_of_ble_eq_true rfl) (Nat.le_of_ble_eq_true rfl) (Nat.le_of_ble_eq_true rfl) ⟨(Nat.le_of_ble_eq_true rfl), (Nat.le_of_ble_eq_true rfl)⟩ (by first | assumption | decide | (simp only [nv] at *; omega)) rfl rfl (c_X5_putFormula hn (op_vp hk.2.1)) ?_
            refine j_aln dX9_setNumber_110 rfl rfl ?_
            refine g_X9_0 dX9_setNumber_111 fl_X9_10 ?_
            refine g_X3_0 dX9_setNumber_114 fl_X9_43 ?_
            refine j_V0d mf_X2_standBehindNeeded ml_X9_77 dX9_setNumber_117 (Nat.le_of_ble_eq_true rfl) (Nat.le_of_ble_eq_true rfl) (Nat.le_of_ble_eq_true rfl) ⟨(Nat.le_of_ble_eq_true rfl), (Nat.le_of_ble_eq_true rfl)⟩ (by first | assumption | decide | (simp only [nv] at *; omega)) rfl rfl (c_X2_standBehindNeeded (M := (putF M n a c b)) (fr := fr) ((congrFun (putF_t (t := 2) (by decide)) 5).trans hcnt) hc12 (fun k hk => by rw [putF_t (by decide)]; exact hrow k hk)) ?_
            refine j_ifne (tgt := 145) dX9_setNumber_120 (by decide) (fun h120 => ?_) (fun h120 => ?_)
            · have hsb := bI_ne.mp h120
              refine j_aln dX9_setNumber_145 rfl rfl ?_
              refine g_X9_0 dX9_setNumber_146 fl_X9_10 ?_
              refine j_V0g mf_X3_carryOutChanged ml_X9_83 dX9_setNumber_149 (Nat.le_of_ble_eq_true rfl) (Nat.le_of_ble_eq_true rfl) (Nat.le_of_ble_eq_true rfl) ⟨(Nat.le_of_ble_eq_true rfl), (Nat.le_of_ble_eq_true rfl)⟩ (by first | assumption | decide | (simp only [nv] at *; omega)) rfl rfl (c_X3_carryOutChanged (M := (putF M n a c b)) (cnt := cnt) (bar := bar) (bc := bc) (fr := fr) ((congrFun (putF_t (t := 2) (by decide)) 7).trans hbar) ((congrFun (putF_t (t := 1) (by decide)) 11).trans hbc) hbr hc12 hbc12 (fun k hk => by rw [putF_t (by decide)]; exact hrow k hk) (fun k hk => by rw [putF_t (by decide)]; exact hkd k hk) hinj (fun g hg => by rw [putF_t (by decide)]; exact hof g hg)) ?_
              intro v9 M9 h9
              obtain ⟨rfl, hco⟩ := h9
              refine j_al dX9_setNumber_152 rfl ?_
              refine g_X5_3 dX9_setNumber_154 fl_X9_86 ?_
              refine j_iln dX9_setNumber_157 rfl rfl ?_
              refine j_aildN dX9_setNumber_158 rfl rfl rfl (by decide) (by omega) ?_
              exact j_iretX dX9_setNumber_159 rfl rfl (Nat.le_of_ble_eq_true rfl) (Nat.le_of_ble_eq_true rfl) ⟨hk, n, hn, rfl, hnd, hsb, by rw [coc_fr hco (t := 23) (by decide) (by decide)], hco⟩
            · have hsb := bI_eq.mp h120
              refine j_al dX9_setNumber_123 rfl ?_
              refine j_iln dX9_setNumber_125 rfl rfl ?_
              refine j_il dX9_setNumber_126 rfl ?_
              refine j_il dX9_setNumber_128 rfl ?_
              refine j_il dX9_setNumber_130 rfl ?_
              refine j_V4n mf_X5_putFormula ml_X9_73 dX9_setNumber_132 (Nat.le_of_ble_eq_true rfl) (Nat.le_of_ble_eq_true rfl) (Nat.le_of_ble_eq_true rfl) ⟨(Nat.le_of_ble_eq_true rfl), (Nat.le_of_ble_eq_true rfl)⟩ (by first | assumption | decide | (simp only [nv] at *; omega)) rfl rfl (c_X5_putFormula hn (hop n hn)) ?_
              exact j_throwS (text := "a feature would stand ahead of one that it needs") hl9 thr_57 (by decide +kernel) dX9_setNumber_135 dX9_setNumber_138 dX9_setNumber_139 dX9_setNumber_141 dX9_setNumber_144 (Nat.le_of_ble_eq_true rfl) (Nat.le_of_ble_eq_true rfl) (Or.inr (Or.inr ⟨hk, n, hn, rfl, hnd, hsb, rfl, rfl⟩))
          · have hnd := bI_ne.mp h60
            exact j_throwS (text := "a named number would need itself") hl9 thr_57 (by decide +kernel) dX9_setNumber_63 dX9_setNumber_66 dX9_setNumber_67 dX9_setNumber_69 dX9_setNumber_72 (Nat.le_of_ble_eq_true rfl) (Nat.le_of_ble_eq_true rfl) (Or.inr (Or.inl ⟨hk, n, hn, rfl, hnd, rfl, rfl⟩))
        · have hx : ¬ (isNm x = true ∧ isOp c = true ∧ isT a = true ∧ isT b = true) := fun q => by have e := bI_eq.mp h26; rw [q.2.2.2] at e; exact absurd e (by decide)
          exact j_throwS (text := "no such name, term or operation") hl9 thr_36 (by decide +kernel) dX9_setNumber_29 dX9_setNumber_32 dX9_setNumber_33 dX9_setNumber_35 dX9_setNumber_38 (Nat.le_of_ble_eq_true rfl) (Nat.le_of_ble_eq_true rfl) (Or.inl ⟨hx, rfl, rfl⟩)
