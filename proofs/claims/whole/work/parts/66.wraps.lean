/-! the law's wrappers: what is thrown becomes a number -/
def MfW (y : MethodName) (cc : ByteArray) (nL : Nat) (ret : Option FieldType) (hh : List (Nat × Nat × Nat × Nat)) (a : Nat) : Prop :=
  (y.cls ≠ "java/lang/invoke/MethodHandle" ∧ y.cls ≠ "java/lang/invoke/VarHandle" ∧ (parseMethodDescriptor y.desc).map (fun d => d.parameters.length) = some a) ∧ Cond.static y ∈ wsG ∧ Cond.initialized y.cls ∈ wsG ∧ Cond.codeWith y cc nL ret hh ∈ wsG
theorem cast_13 : Cond.castable "java/lang/IllegalArgumentException" "java/lang/IllegalArgumentException" ∈ badS := by decide +kernel
theorem cast_15 : Cond.castable "java/lang/UnsupportedOperationException" "java/lang/UnsupportedOperationException" ∈ badS := by decide +kernel
theorem cast_25 : Cond.castable "java/lang/IllegalStateException" "java/lang/IllegalStateException" ∈ badS := by decide +kernel
theorem cast_31 : Cond.castable "java/util/NoSuchElementException" "java/util/NoSuchElementException" ∈ badS := by decide +kernel
theorem cast_40 : Cond.castable "java/lang/IndexOutOfBoundsException" "java/lang/IndexOutOfBoundsException" ∈ badS := by decide +kernel
theorem cast_73 : Cond.castable "java/lang/ArithmeticException" "java/lang/ArithmeticException" ∈ badS := by decide +kernel
theorem mw_setNumber : MfW yL_setNumber cL_setNumber 7 (some .int) [(0, 14, 17, 13), (0, 14, 21, 15)] 6 := ⟨⟨by decide +kernel, by decide +kernel, by decide +kernel⟩, (wg3 (i := 32) rfl rfl), (wg1 (i := 0) rfl rfl), (wg3 (i := 33) rfl rfl)⟩
set_option maxRecDepth 100000 in
set_option maxHeartbeats 4000000 in
theorem cw_setNumber {l : Launch} {E : Ev} {M : Mm} {lv' : Nat} {post : Option Value → Mm → Prop} {px : String → Mm → Prop} {p0 p1 p2 p3 : Int32} (hlv : lv' ≤ 7) (hC : CtX l E yX9_setNumber cX9_setNumber 9 (some .int) lv' [.ref (eA E 0 0), .int p0, .int p1, .int p2, .int p3] M post px) (hpx : ∀ N M', px N M' → N = "java/lang/IllegalArgumentException" ∨ N = "java/lang/UnsupportedOperationException") (hpo : ∀ v M', post v M' → ∃ w, v = some (.int w)) : CtW l E yL_setNumber cL_setNumber 7 (some .int) [(0, 14, 17, 13), (0, 14, 21, 15)] 8 1 6 [.ref (eA E 0 0), .int p0, .int p1, .int p2, .int p3, .ref (eA E 14 0)] M (fun v M1 => (∃ w M', post (some (.int w)) M' ∧ v = some (.int (nI 0)) ∧ M1 = sW M' 2 w.toInt64) ∨ (px "java/lang/IllegalArgumentException" M1 ∧ v = some (.int (nI 1))) ∨ (px "java/lang/UnsupportedOperationException" M1 ∧ v = some (.int (nI 2)))) := by
  refine CtW.of (own := RL) rfl [some (.ref (eA E 0 0)), some (.int p0), some (.int p1), some (.int p2), some (.int p3), some (.ref (eA E 14 0)), none] (by decide) (Nat.le_of_ble_eq_true rfl) rfl ?_
  refine j_al dL_setNumber_0 rfl ?_
  refine j_icN 0 dL_setNumber_2 rfl ?_
  refine j_aln dL_setNumber_3 rfl rfl ?_
  refine j_iln dL_setNumber_4 rfl rfl ?_
  refine j_iln dL_setNumber_5 rfl rfl ?_
  refine j_iln dL_setNumber_6 rfl rfl ?_
  refine j_il dL_setNumber_7 rfl ?_
  refine j_callX (rest := [.int (nI 0), .ref (eA E 14 0)]) mf_X9_setNumber ml_L_7 (show lv' + 1 ≤ 8 by omega) (Nat.le_of_ble_eq_true rfl) hC (by decide) rfl rfl rfl rfl (Nat.le_of_ble_eq_true rfl) dL_setNumber_9 ⟨(Nat.le_of_ble_eq_true rfl), (Nat.le_of_ble_eq_true rfl)⟩ (fun N M9 hx9 => ?_) (fun v M9 hp9 => ?_)
  · rcases hpx N M9 hx9 with hN | hN
    · subst hN
      refine j_catch [] ⟨0, 14, 17, 13⟩ [⟨0, 14, 21, 15⟩] rfl (by decide +kernel) (fun _ h => absurd h List.not_mem_nil) (by decide +kernel) (by decide) cl_L_13 cast_13 (fun q => ?_)
      refine j_ast_6 dL_setNumber_17 (by decide) rfl ?_
      refine j_icN 1 dL_setNumber_19 rfl ?_
      exact j_iret dL_setNumber_20 rfl rfl (Nat.le_of_ble_eq_true rfl) (Nat.le_of_ble_eq_true rfl) (Or.inr (Or.inl ⟨hx9, rfl⟩))
    · subst hN
      refine j_catch [⟨0, 14, 17, 13⟩] ⟨0, 14, 21, 15⟩ [] rfl (by decide +kernel) (List.forall_mem_cons.mpr ⟨⟨by decide, "java/lang/IllegalArgumentException", by decide +kernel, by decide +kernel, cl_L_13⟩, (fun _ h => absurd h List.not_mem_nil)⟩) (by decide +kernel) (by decide) cl_L_15 cast_15 (fun q => ?_)
      refine j_ast_6 dL_setNumber_21 (by decide) rfl ?_
      refine j_icN 2 dL_setNumber_23 rfl ?_
      exact j_iret dL_setNumber_24 rfl rfl (Nat.le_of_ble_eq_true rfl) (Nat.le_of_ble_eq_true rfl) (Or.inr (Or.inr (⟨hx9, rfl⟩)))
  · obtain ⟨w, hv⟩ := hpo v M9 hp9
    subst hv
    refine j_i2l dL_setNumber_12 ?_
    refine j_astO dL_setNumber_13 rfl ?_
    refine j_goto (tgt := 25) dL_setNumber_14 (by decide) ?_
    refine j_icN 0 dL_setNumber_25 rfl ?_
    exact j_iret dL_setNumber_26 rfl rfl (Nat.le_of_ble_eq_true rfl) (Nat.le_of_ble_eq_true rfl) (Or.inl ⟨w, M9, hp9, rfl, rfl⟩)
theorem mw_number : MfW yL_number cL_number 4 (some .int) [(0, 9, 12, 13)] 3 := ⟨⟨by decide +kernel, by decide +kernel, by decide +kernel⟩, (wg3 (i := 182) rfl rfl), (wg1 (i := 0) rfl rfl), (wg3 (i := 183) rfl rfl)⟩
set_option maxRecDepth 100000 in
set_option maxHeartbeats 4000000 in
theorem cw_number {l : Launch} {E : Ev} {M : Mm} {lv' : Nat} {post : Option Value → Mm → Prop} {px : String → Mm → Prop} {p0 : Int32} (hlv : lv' ≤ 7) (hC : CtX l E yX9_number cX9_number 2 (some .int) lv' [.ref (eA E 0 0), .int p0] M post px) (hpx : ∀ N M', px N M' → N = "java/lang/IllegalArgumentException") (hpo : ∀ v M', post v M' → ∃ w, v = some (.int w)) : CtW l E yL_number cL_number 4 (some .int) [(0, 9, 12, 13)] 8 1 6 [.ref (eA E 0 0), .int p0, .ref (eA E 14 0)] M (fun v M1 => (∃ w M', post (some (.int w)) M' ∧ v = some (.int (nI 0)) ∧ M1 = sW M' 2 w.toInt64) ∨ (px "java/lang/IllegalArgumentException" M1 ∧ v = some (.int (nI 1)))) := by
  refine CtW.of (own := RL) rfl [some (.ref (eA E 0 0)), some (.int p0), some (.ref (eA E 14 0)), none] (by decide) (Nat.le_of_ble_eq_true rfl) rfl ?_
  refine j_aln dL_number_0 rfl rfl ?_
  refine j_icN 0 dL_number_1 rfl ?_
  refine j_aln dL_number_2 rfl rfl ?_
  refine j_iln dL_number_3 rfl rfl ?_
  refine j_callX (rest := [.int (nI 0), .ref (eA E 14 0)]) mf_X9_number ml_L_17 (show lv' + 1 ≤ 8 by omega) (Nat.le_of_ble_eq_true rfl) hC (by decide) rfl rfl rfl rfl (Nat.le_of_ble_eq_true rfl) dL_number_4 ⟨(Nat.le_of_ble_eq_true rfl), (Nat.le_of_ble_eq_true rfl)⟩ (fun N M9 hx9 => ?_) (fun v M9 hp9 => ?_)
  · have hN := hpx N M9 hx9
    subst hN
    refine j_catch [] ⟨0, 9, 12, 13⟩ [] rfl (by decide +kernel) (fun _ h => absurd h List.not_mem_nil) (by decide +kernel) (by decide) cl_L_13 cast_13 (fun q => ?_)
    refine j_ast_3 dL_number_12 (by decide) rfl ?_
    refine j_icN 1 dL_number_13 rfl ?_
    exact j_iret dL_number_14 rfl rfl (Nat.le_of_ble_eq_true rfl) (Nat.le_of_ble_eq_true rfl) (Or.inr (⟨hx9, rfl⟩))
  · obtain ⟨w, hv⟩ := hpo v M9 hp9
    subst hv
    refine j_i2l dL_number_7 ?_
    refine j_astO dL_number_8 rfl ?_
    refine j_goto (tgt := 15) dL_number_9 (by decide) ?_
    refine j_icN 0 dL_number_15 rfl ?_
    exact j_iret dL_number_16 rfl rfl (Nat.le_of_ble_eq_true rfl) (Nat.le_of_ble_eq_true rfl) (Or.inl ⟨w, M9, hp9, rfl, rfl⟩)
theorem mw_addFeature : MfW yL_addFeature cL_addFeature 7 (some .int) [(0, 14, 17, 13), (0, 14, 21, 25), (0, 14, 25, 15)] 6 := ⟨⟨by decide +kernel, by decide +kernel, by decide +kernel⟩, (wg3 (i := 190) rfl rfl), (wg1 (i := 0) rfl rfl), (wg3 (i := 191) rfl rfl)⟩
set_option maxRecDepth 100000 in
set_option maxHeartbeats 4000000 in
theorem cw_addFeature {l : Launch} {E : Ev} {M : Mm} {lv' : Nat} {post : Option Value → Mm → Prop} {px : String → Mm → Prop} {p0 p1 p2 p3 : Int32} (hlv : lv' ≤ 7) (hC : CtX l E yX9_addFeature cX9_addFeature 7 (some .int) lv' [.ref (eA E 0 0), .int p0, .int p1, .int p2, .int p3] M post px) (hpx : ∀ N M', px N M' → N = "java/lang/IllegalArgumentException" ∨ N = "java/lang/IllegalStateException" ∨ N = "java/lang/UnsupportedOperationException") (hpo : ∀ v M', post v M' → ∃ w, v = some (.int w)) : CtW l E yL_addFeature cL_addFeature 7 (some .int) [(0, 14, 17, 13), (0, 14, 21, 25), (0, 14, 25, 15)] 8 1 6 [.ref (eA E 0 0), .int p0, .int p1, .int p2, .int p3, .ref (eA E 14 0)] M (fun v M1 => (∃ w M', post (some (.int w)) M' ∧ v = some (.int (nI 0)) ∧ M1 = sW M' 2 w.toInt64) ∨ (px "java/lang/IllegalArgumentException" M1 ∧ v = some (.int (nI 1))) ∨ (px "java/lang/IllegalStateException" M1 ∧ v = some (.int (nI 2))) ∨ (px "java/lang/UnsupportedOperationException" M1 ∧ v = some (.int (nI 3)))) := by
  refine CtW.of (own := RL) rfl [some (.ref (eA E 0 0)), some (.int p0), some (.int p1), some (.int p2), some (.int p3), some (.ref (eA E 14 0)), none] (by decide) (Nat.le_of_ble_eq_true rfl) rfl ?_
  refine j_al dL_addFeature_0 rfl ?_
  refine j_icN 0 dL_addFeature_2 rfl ?_
  refine j_aln dL_addFeature_3 rfl rfl ?_
  refine j_iln dL_addFeature_4 rfl rfl ?_
  refine j_iln dL_addFeature_5 rfl rfl ?_
  refine j_iln dL_addFeature_6 rfl rfl ?_
  refine j_il dL_addFeature_7 rfl ?_
  refine j_callX (rest := [.int (nI 0), .ref (eA E 14 0)]) mf_X9_addFeature ml_L_21 (show lv' + 1 ≤ 8 by omega) (Nat.le_of_ble_eq_true rfl) hC (by decide) rfl rfl rfl rfl (Nat.le_of_ble_eq_true rfl) dL_addFeature_9 ⟨(Nat.le_of_ble_eq_true rfl), (Nat.le_of_ble_eq_true rfl)⟩ (fun N M9 hx9 => ?_) (fun v M9 hp9 => ?_)
  · rcases hpx N M9 hx9 with hN | hN | hN
    · subst hN
      refine j_catch [] ⟨0, 14, 17, 13⟩ [⟨0, 14, 21, 25⟩, ⟨0, 14, 25, 15⟩] rfl (by decide +kernel) (fun _ h => absurd h List.not_mem_nil) (by decide +kernel) (by decide) cl_L_13 cast_13 (fun q => ?_)
      refine j_ast_6 dL_addFeature_17 (by decide) rfl ?_
      refine j_icN 1 dL_addFeature_19 rfl ?_
      exact j_iret dL_addFeature_20 rfl rfl (Nat.le_of_ble_eq_true rfl) (Nat.le_of_ble_eq_true rfl) (Or.inr (Or.inl ⟨hx9, rfl⟩))
    · subst hN
      refine j_catch [⟨0, 14, 17, 13⟩] ⟨0, 14, 21, 25⟩ [⟨0, 14, 25, 15⟩] rfl (by decide +kernel) (List.forall_mem_cons.mpr ⟨⟨by decide, "java/lang/IllegalArgumentException", by decide +kernel, by decide +kernel, cl_L_13⟩, (fun _ h => absurd h List.not_mem_nil)⟩) (by decide +kernel) (by decide) cl_L_25 cast_25 (fun q => ?_)
      refine j_ast_6 dL_addFeature_21 (by decide) rfl ?_
      refine j_icN 2 dL_addFeature_23 rfl ?_
      exact j_iret dL_addFeature_24 rfl rfl (Nat.le_of_ble_eq_true rfl) (Nat.le_of_ble_eq_true rfl) (Or.inr (Or.inr (Or.inl ⟨hx9, rfl⟩)))
    · subst hN
      refine j_catch [⟨0, 14, 17, 13⟩, ⟨0, 14, 21, 25⟩] ⟨0, 14, 25, 15⟩ [] rfl (by decide +kernel) (List.forall_mem_cons.mpr ⟨⟨by decide, "java/lang/IllegalArgumentException", by decide +kernel, by decide +kernel, cl_L_13⟩, (List.forall_mem_cons.mpr ⟨⟨by decide, "java/lang/IllegalStateException", by decide +kernel, by decide +kernel, cl_L_25⟩, (fun _ h => absurd h List.not_mem_nil)⟩)⟩) (by decide +kernel) (by decide) cl_L_15 cast_15 (fun q => ?_)
      refine j_ast_6 dL_addFeature_25 (by decide) rfl ?_
      refine j_icN 3 dL_addFeature_27 rfl ?_
      exact j_iret dL_addFeature_28 rfl rfl (Nat.le_of_ble_eq_true rfl) (Nat.le_of_ble_eq_true rfl) (Or.inr (Or.inr (Or.inr (⟨hx9, rfl⟩))))
  · obtain ⟨w, hv⟩ := hpo v M9 hp9
    subst hv
    refine j_i2l dL_addFeature_12 ?_
    refine j_astO dL_addFeature_13 rfl ?_
    refine j_goto (tgt := 29) dL_addFeature_14 (by decide) ?_
    refine j_icN 0 dL_addFeature_29 rfl ?_
    exact j_iret dL_addFeature_30 rfl rfl (Nat.le_of_ble_eq_true rfl) (Nat.le_of_ble_eq_true rfl) (Or.inl ⟨w, M9, hp9, rfl, rfl⟩)
theorem mw_setSize : MfW yL_setSize cL_setSize 7 (some .int) [(0, 14, 17, 31), (0, 14, 21, 13)] 6 := ⟨⟨by decide +kernel, by decide +kernel, by decide +kernel⟩, (wg4 (i := 69) rfl rfl), (wg1 (i := 0) rfl rfl), (wg4 (i := 70) rfl rfl)⟩
set_option maxRecDepth 100000 in
set_option maxHeartbeats 4000000 in
theorem cw_setSize {l : Launch} {E : Ev} {M : Mm} {lv' : Nat} {post : Option Value → Mm → Prop} {px : String → Mm → Prop} {p0 p1 p2 p3 : Int32} (hlv : lv' ≤ 7) (hC : CtX l E yX9_setSize cX9_setSize 7 (some .int) lv' [.ref (eA E 0 0), .int p0, .int p1, .int p2, .int p3] M post px) (hpx : ∀ N M', px N M' → N = "java/util/NoSuchElementException" ∨ N = "java/lang/IllegalArgumentException") (hpo : ∀ v M', post v M' → ∃ w, v = some (.int w)) : CtW l E yL_setSize cL_setSize 7 (some .int) [(0, 14, 17, 31), (0, 14, 21, 13)] 8 1 6 [.ref (eA E 0 0), .int p0, .int p1, .int p2, .int p3, .ref (eA E 14 0)] M (fun v M1 => (∃ w M', post (some (.int w)) M' ∧ v = some (.int (nI 0)) ∧ M1 = sW M' 2 w.toInt64) ∨ (px "java/util/NoSuchElementException" M1 ∧ v = some (.int (nI 1))) ∨ (px "java/lang/IllegalArgumentException" M1 ∧ v = some (.int (nI 2)))) := by
  refine CtW.of (own := RL) rfl [some (.ref (eA E 0 0)), some (.int p0), some (.int p1), some (.int p2), some (.int p3), some (.ref (eA E 14 0)), none] (by decide) (Nat.le_of_ble_eq_true rfl) rfl ?_
  refine j_al dL_setSize_0 rfl ?_
  refine j_icN 0 dL_setSize_2 rfl ?_
  refine j_aln dL_setSize_3 rfl rfl ?_
  refine j_iln dL_setSize_4 rfl rfl ?_
  refine j_iln dL_setSize_5 rfl rfl ?_
  refine j_iln dL_setSize_6 rfl rfl ?_
  refine j_il dL_setSize_7 rfl ?_
  refine j_callX (rest := [.int (nI 0), .ref (eA E 14 0)]) mf_X9_setSize ml_L_27 (show lv' + 1 ≤ 8 by omega) (Nat.le_of_ble_eq_true rfl) hC (by decide) rfl rfl rfl rfl (Nat.le_of_ble_eq_true rfl) dL_setSize_9 ⟨(Nat.le_of_ble_eq_true rfl), (Nat.le_of_ble_eq_true rfl)⟩ (fun N M9 hx9 => ?_) (fun v M9 hp9 => ?_)
  · rcases hpx N M9 hx9 with hN | hN
    · subst hN
      refine j_catch [] ⟨0, 14, 17, 31⟩ [⟨0, 14, 21, 13⟩] rfl (by decide +kernel) (fun _ h => absurd h List.not_mem_nil) (by decide +kernel) (by decide) cl_L_31 cast_31 (fun q => ?_)
      refine j_ast_6 dL_setSize_17 (by decide) rfl ?_
      refine j_icN 1 dL_setSize_19 rfl ?_
      exact j_iret dL_setSize_20 rfl rfl (Nat.le_of_ble_eq_true rfl) (Nat.le_of_ble_eq_true rfl) (Or.inr (Or.inl ⟨hx9, rfl⟩))
    · subst hN
      refine j_catch [⟨0, 14, 17, 31⟩] ⟨0, 14, 21, 13⟩ [] rfl (by decide +kernel) (List.forall_mem_cons.mpr ⟨⟨by decide, "java/util/NoSuchElementException", by decide +kernel, by decide +kernel, cl_L_31⟩, (fun _ h => absurd h List.not_mem_nil)⟩) (by decide +kernel) (by decide) cl_L_13 cast_13 (fun q => ?_)
      refine j_ast_6 dL_setSize_21 (by decide) rfl ?_
      refine j_icN 2 dL_setSize_23 rfl ?_
      exact j_iret dL_setSize_24 rfl rfl (Nat.le_of_ble_eq_true rfl) (Nat.le_of_ble_eq_true rfl) (Or.inr (Or.inr (⟨hx9, rfl⟩)))
  · obtain ⟨w, hv⟩ := hpo v M9 hp9
    subst hv
    refine j_i2l dL_setSize_12 ?_
    refine j_astO dL_setSize_13 rfl ?_
    refine j_goto (tgt := 25) dL_setSize_14 (by decide) ?_
    refine j_icN 0 dL_setSize_25 rfl ?_
    exact j_iret dL_setSize_26 rfl rfl (Nat.le_of_ble_eq_true rfl) (Nat.le_of_ble_eq_true rfl) (Or.inl ⟨w, M9, hp9, rfl, rfl⟩)
theorem mw_remove : MfW yL_remove cL_remove 4 (some .int) [(0, 9, 12, 31), (0, 9, 15, 15)] 3 := ⟨⟨by decide +kernel, by decide +kernel, by decide +kernel⟩, (wg4 (i := 99) rfl rfl), (wg1 (i := 0) rfl rfl), (wg4 (i := 100) rfl rfl)⟩
set_option maxRecDepth 100000 in
set_option maxHeartbeats 4000000 in
theorem cw_remove {l : Launch} {E : Ev} {M : Mm} {lv' : Nat} {post : Option Value → Mm → Prop} {px : String → Mm → Prop} {p0 : Int32} (hlv : lv' ≤ 7) (hC : CtX l E yX9_remove cX9_remove 4 (some .int) lv' [.ref (eA E 0 0), .int p0] M post px) (hpx : ∀ N M', px N M' → N = "java/util/NoSuchElementException" ∨ N = "java/lang/UnsupportedOperationException") (hpo : ∀ v M', post v M' → ∃ w, v = some (.int w)) : CtW l E yL_remove cL_remove 4 (some .int) [(0, 9, 12, 31), (0, 9, 15, 15)] 8 1 6 [.ref (eA E 0 0), .int p0, .ref (eA E 14 0)] M (fun v M1 => (∃ w M', post (some (.int w)) M' ∧ v = some (.int (nI 0)) ∧ M1 = sW M' 2 w.toInt64) ∨ (px "java/util/NoSuchElementException" M1 ∧ v = some (.int (nI 1))) ∨ (px "java/lang/UnsupportedOperationException" M1 ∧ v = some (.int (nI 2)))) := by
  refine CtW.of (own := RL) rfl [some (.ref (eA E 0 0)), some (.int p0), some (.ref (eA E 14 0)), none] (by decide) (Nat.le_of_ble_eq_true rfl) rfl ?_
  refine j_aln dL_remove_0 rfl rfl ?_
  refine j_icN 0 dL_remove_1 rfl ?_
  refine j_aln dL_remove_2 rfl rfl ?_
  refine j_iln dL_remove_3 rfl rfl ?_
  refine j_callX (rest := [.int (nI 0), .ref (eA E 14 0)]) mf_X9_remove ml_L_33 (show lv' + 1 ≤ 8 by omega) (Nat.le_of_ble_eq_true rfl) hC (by decide) rfl rfl rfl rfl (Nat.le_of_ble_eq_true rfl) dL_remove_4 ⟨(Nat.le_of_ble_eq_true rfl), (Nat.le_of_ble_eq_true rfl)⟩ (fun N M9 hx9 => ?_) (fun v M9 hp9 => ?_)
  · rcases hpx N M9 hx9 with hN | hN
    · subst hN
      refine j_catch [] ⟨0, 9, 12, 31⟩ [⟨0, 9, 15, 15⟩] rfl (by decide +kernel) (fun _ h => absurd h List.not_mem_nil) (by decide +kernel) (by decide) cl_L_31 cast_31 (fun q => ?_)
      refine j_ast_3 dL_remove_12 (by decide) rfl ?_
      refine j_icN 1 dL_remove_13 rfl ?_
      exact j_iret dL_remove_14 rfl rfl (Nat.le_of_ble_eq_true rfl) (Nat.le_of_ble_eq_true rfl) (Or.inr (Or.inl ⟨hx9, rfl⟩))
    · subst hN
      refine j_catch [⟨0, 9, 12, 31⟩] ⟨0, 9, 15, 15⟩ [] rfl (by decide +kernel) (List.forall_mem_cons.mpr ⟨⟨by decide, "java/util/NoSuchElementException", by decide +kernel, by decide +kernel, cl_L_31⟩, (fun _ h => absurd h List.not_mem_nil)⟩) (by decide +kernel) (by decide) cl_L_15 cast_15 (fun q => ?_)
      refine j_ast_3 dL_remove_15 (by decide) rfl ?_
      refine j_icN 2 dL_remove_16 rfl ?_
      exact j_iret dL_remove_17 rfl rfl (Nat.le_of_ble_eq_true rfl) (Nat.le_of_ble_eq_true rfl) (Or.inr (Or.inr (⟨hx9, rfl⟩)))
  · obtain ⟨w, hv⟩ := hpo v M9 hp9
    subst hv
    refine j_i2l dL_remove_7 ?_
    refine j_astO dL_remove_8 rfl ?_
    refine j_goto (tgt := 18) dL_remove_9 (by decide) ?_
    refine j_icN 0 dL_remove_18 rfl ?_
    exact j_iret dL_remove_19 rfl rfl (Nat.le_of_ble_eq_true rfl) (Nat.le_of_ble_eq_true rfl) (Or.inl ⟨w, M9, hp9, rfl, rfl⟩)
theorem mw_move : MfW yL_move cL_move 5 (some .int) [(0, 10, 13, 31), (0, 10, 17, 40), (0, 10, 21, 15)] 4 := ⟨⟨by decide +kernel, by decide +kernel, by decide +kernel⟩, (wg4 (i := 116) rfl rfl), (wg1 (i := 0) rfl rfl), (wg4 (i := 117) rfl rfl)⟩
set_option maxRecDepth 100000 in
set_option maxHeartbeats 4000000 in
theorem cw_move {l : Launch} {E : Ev} {M : Mm} {lv' : Nat} {post : Option Value → Mm → Prop} {px : String → Mm → Prop} {p0 p1 : Int32} (hlv : lv' ≤ 7) (hC : CtX l E yX9_move cX9_move 5 (some .int) lv' [.ref (eA E 0 0), .int p0, .int p1] M post px) (hpx : ∀ N M', px N M' → N = "java/util/NoSuchElementException" ∨ N = "java/lang/IndexOutOfBoundsException" ∨ N = "java/lang/UnsupportedOperationException") (hpo : ∀ v M', post v M' → ∃ w, v = some (.int w)) : CtW l E yL_move cL_move 5 (some .int) [(0, 10, 13, 31), (0, 10, 17, 40), (0, 10, 21, 15)] 8 1 6 [.ref (eA E 0 0), .int p0, .int p1, .ref (eA E 14 0)] M (fun v M1 => (∃ w M', post (some (.int w)) M' ∧ v = some (.int (nI 0)) ∧ M1 = sW M' 2 w.toInt64) ∨ (px "java/util/NoSuchElementException" M1 ∧ v = some (.int (nI 1))) ∨ (px "java/lang/IndexOutOfBoundsException" M1 ∧ v = some (.int (nI 2))) ∨ (px "java/lang/UnsupportedOperationException" M1 ∧ v = some (.int (nI 3)))) := by
  refine CtW.of (own := RL) rfl [some (.ref (eA E 0 0)), some (.int p0), some (.int p1), some (.ref (eA E 14 0)), none] (by decide) (Nat.le_of_ble_eq_true rfl) rfl ?_
  refine j_aln dL_move_0 rfl rfl ?_
  refine j_icN 0 dL_move_1 rfl ?_
  refine j_aln dL_move_2 rfl rfl ?_
  refine j_iln dL_move_3 rfl rfl ?_
  refine j_iln dL_move_4 rfl rfl ?_
  refine j_callX (rest := [.int (nI 0), .ref (eA E 14 0)]) mf_X9_move ml_L_36 (show lv' + 1 ≤ 8 by omega) (Nat.le_of_ble_eq_true rfl) hC (by decide) rfl rfl rfl rfl (Nat.le_of_ble_eq_true rfl) dL_move_5 ⟨(Nat.le_of_ble_eq_true rfl), (Nat.le_of_ble_eq_true rfl)⟩ (fun N M9 hx9 => ?_) (fun v M9 hp9 => ?_)
  · rcases hpx N M9 hx9 with hN | hN | hN
    · subst hN
      refine j_catch [] ⟨0, 10, 13, 31⟩ [⟨0, 10, 17, 40⟩, ⟨0, 10, 21, 15⟩] rfl (by decide +kernel) (fun _ h => absurd h List.not_mem_nil) (by decide +kernel) (by decide) cl_L_31 cast_31 (fun q => ?_)
      refine j_ast_4 dL_move_13 (by decide) rfl ?_
      refine j_icN 1 dL_move_15 rfl ?_
      exact j_iret dL_move_16 rfl rfl (Nat.le_of_ble_eq_true rfl) (Nat.le_of_ble_eq_true rfl) (Or.inr (Or.inl ⟨hx9, rfl⟩))
    · subst hN
      refine j_catch [⟨0, 10, 13, 31⟩] ⟨0, 10, 17, 40⟩ [⟨0, 10, 21, 15⟩] rfl (by decide +kernel) (List.forall_mem_cons.mpr ⟨⟨by decide, "java/util/NoSuchElementException", by decide +kernel, by decide +kernel, cl_L_31⟩, (fun _ h => absurd h List.not_mem_nil)⟩) (by decide +kernel) (by decide) cl_L_40 cast_40 (fun q => ?_)
      refine j_ast_4 dL_move_17 (by decide) rfl ?_
      refine j_icN 2 dL_move_19 rfl ?_
      exact j_iret dL_move_20 rfl rfl (Nat.le_of_ble_eq_true rfl) (Nat.le_of_ble_eq_true rfl) (Or.inr (Or.inr (Or.inl ⟨hx9, rfl⟩)))
    · subst hN
      refine j_catch [⟨0, 10, 13, 31⟩, ⟨0, 10, 17, 40⟩] ⟨0, 10, 21, 15⟩ [] rfl (by decide +kernel) (List.forall_mem_cons.mpr ⟨⟨by decide, "java/util/NoSuchElementException", by decide +kernel, by decide +kernel, cl_L_31⟩, (List.forall_mem_cons.mpr ⟨⟨by decide, "java/lang/IndexOutOfBoundsException", by decide +kernel, by decide +kernel, cl_L_40⟩, (fun _ h => absurd h List.not_mem_nil)⟩)⟩) (by decide +kernel) (by decide) cl_L_15 cast_15 (fun q => ?_)
      refine j_ast_4 dL_move_21 (by decide) rfl ?_
      refine j_icN 3 dL_move_23 rfl ?_
      exact j_iret dL_move_24 rfl rfl (Nat.le_of_ble_eq_true rfl) (Nat.le_of_ble_eq_true rfl) (Or.inr (Or.inr (Or.inr (⟨hx9, rfl⟩))))
  · obtain ⟨w, hv⟩ := hpo v M9 hp9
    subst hv
    refine j_i2l dL_move_8 ?_
    refine j_astO dL_move_9 rfl ?_
    refine j_goto (tgt := 25) dL_move_10 (by decide) ?_
    refine j_icN 0 dL_move_25 rfl ?_
    exact j_iret dL_move_26 rfl rfl (Nat.le_of_ble_eq_true rfl) (Nat.le_of_ble_eq_true rfl) (Or.inl ⟨w, M9, hp9, rfl, rfl⟩)
theorem mw_putOff : MfW yL_putOff cL_putOff 5 (some .int) [(0, 17, 20, 31)] 4 := ⟨⟨by decide +kernel, by decide +kernel, by decide +kernel⟩, (wg4 (i := 161) rfl rfl), (wg1 (i := 0) rfl rfl), (wg4 (i := 162) rfl rfl)⟩
set_option maxRecDepth 100000 in
set_option maxHeartbeats 4000000 in
theorem cw_putOff {l : Launch} {E : Ev} {M : Mm} {lv' : Nat} {post : Option Value → Mm → Prop} {px : String → Mm → Prop} {p0 p1 : Int32} (hlv : lv' ≤ 7) (hC : CtX l E yX9_putOff cX9_putOff 5 (some .boolean) lv' [.ref (eA E 0 0), .int p0, .int p1] M post px) (hpx : ∀ N M', px N M' → N = "java/util/NoSuchElementException") (hpo : ∀ v M', post v M' → ∃ w, v = some (.int w)) : CtW l E yL_putOff cL_putOff 5 (some .int) [(0, 17, 20, 31)] 8 1 6 [.ref (eA E 0 0), .int p0, .int p1, .ref (eA E 14 0)] M (fun v M1 => (∃ w M', post (some (.int w)) M' ∧ v = some (.int (nI 0)) ∧ M1 = sW M' 2 (if w = 0 then 0 else 1)) ∨ (px "java/util/NoSuchElementException" M1 ∧ v = some (.int (nI 1)))) := by
  refine CtW.of (own := RL) rfl [some (.ref (eA E 0 0)), some (.int p0), some (.int p1), some (.ref (eA E 14 0)), none] (by decide) (Nat.le_of_ble_eq_true rfl) rfl ?_
  refine j_aln dL_putOff_0 rfl rfl ?_
  refine j_icN 0 dL_putOff_1 rfl ?_
  refine j_aln dL_putOff_2 rfl rfl ?_
  refine j_iln dL_putOff_3 rfl rfl ?_
  refine j_iln dL_putOff_4 rfl rfl ?_
  refine j_callX (rest := [.int (nI 0), .ref (eA E 14 0)]) mf_X9_putOff ml_L_42 (show lv' + 1 ≤ 8 by omega) (Nat.le_of_ble_eq_true rfl) hC (by decide) rfl rfl rfl rfl (Nat.le_of_ble_eq_true rfl) dL_putOff_5 ⟨(Nat.le_of_ble_eq_true rfl), (Nat.le_of_ble_eq_true rfl)⟩ (fun N M9 hx9 => ?_) (fun v M9 hp9 => ?_)
  · have hN := hpx N M9 hx9
    subst hN
    refine j_catch [] ⟨0, 17, 20, 31⟩ [] rfl (by decide +kernel) (fun _ h => absurd h List.not_mem_nil) (by decide +kernel) (by decide) cl_L_31 cast_31 (fun q => ?_)
    refine j_ast_4 dL_putOff_20 (by decide) rfl ?_
    refine j_icN 1 dL_putOff_22 rfl ?_
    exact j_iret dL_putOff_23 rfl rfl (Nat.le_of_ble_eq_true rfl) (Nat.le_of_ble_eq_true rfl) (Or.inr (⟨hx9, rfl⟩))
  · obtain ⟨w, hv⟩ := hpo v M9 hp9
    subst hv
    refine j_ifeq (tgt := 15) dL_putOff_8 (by decide) (fun h8 => ?_) (fun h8 => ?_)
    · have hw : (if w = 0 then 0 else 1 : Int64) = 0 := if_pos h8
      refine j_lc (v := 0) dL_putOff_15 (by decide) ?_
      refine j_astO dL_putOff_16 rfl ?_
      refine j_goto (tgt := 24) dL_putOff_17 (by decide) ?_
      refine j_icN 0 dL_putOff_24 rfl ?_
      exact j_iret dL_putOff_25 rfl rfl (Nat.le_of_ble_eq_true rfl) (Nat.le_of_ble_eq_true rfl) (Or.inl ⟨w, M9, hp9, rfl, by rw [hw]⟩)
    · have hw : (if w = 0 then 0 else 1 : Int64) = 1 := if_neg h8
      refine j_lc (v := 1) dL_putOff_11 (by decide) ?_
      refine j_goto (tgt := 16) dL_putOff_12 (by decide) ?_
      refine j_astO dL_putOff_16 rfl ?_
      refine j_goto (tgt := 24) dL_putOff_17 (by decide) ?_
      refine j_icN 0 dL_putOff_24 rfl ?_
      exact j_iret dL_putOff_25 rfl rfl (Nat.le_of_ble_eq_true rfl) (Nat.le_of_ble_eq_true rfl) (Or.inl ⟨w, M9, hp9, rfl, by rw [hw]⟩)
theorem mw_setBar : MfW yL_setBar cL_setBar 4 (some .int) [(0, 9, 12, 40)] 3 := ⟨⟨by decide +kernel, by decide +kernel, by decide +kernel⟩, (wg4 (i := 168) rfl rfl), (wg1 (i := 0) rfl rfl), (wg4 (i := 169) rfl rfl)⟩
set_option maxRecDepth 100000 in
set_option maxHeartbeats 4000000 in
theorem cw_setBar {l : Launch} {E : Ev} {M : Mm} {lv' : Nat} {post : Option Value → Mm → Prop} {px : String → Mm → Prop} {p0 : Int32} (hlv : lv' ≤ 7) (hC : CtX l E yX9_setBar cX9_setBar 4 (some .int) lv' [.ref (eA E 0 0), .int p0] M post px) (hpx : ∀ N M', px N M' → N = "java/lang/IndexOutOfBoundsException") (hpo : ∀ v M', post v M' → ∃ w, v = some (.int w)) : CtW l E yL_setBar cL_setBar 4 (some .int) [(0, 9, 12, 40)] 8 1 6 [.ref (eA E 0 0), .int p0, .ref (eA E 14 0)] M (fun v M1 => (∃ w M', post (some (.int w)) M' ∧ v = some (.int (nI 0)) ∧ M1 = sW M' 2 w.toInt64) ∨ (px "java/lang/IndexOutOfBoundsException" M1 ∧ v = some (.int (nI 1)))) := by
  refine CtW.of (own := RL) rfl [some (.ref (eA E 0 0)), some (.int p0), some (.ref (eA E 14 0)), none] (by decide) (Nat.le_of_ble_eq_true rfl) rfl ?_
  refine j_aln dL_setBar_0 rfl rfl ?_
  refine j_icN 0 dL_setBar_1 rfl ?_
  refine j_aln dL_setBar_2 rfl rfl ?_
  refine j_iln dL_setBar_3 rfl rfl ?_
  refine j_callX (rest := [.int (nI 0), .ref (eA E 14 0)]) mf_X9_setBar ml_L_46 (show lv' + 1 ≤ 8 by omega) (Nat.le_of_ble_eq_true rfl) hC (by decide) rfl rfl rfl rfl (Nat.le_of_ble_eq_true rfl) dL_setBar_4 ⟨(Nat.le_of_ble_eq_true rfl), (Nat.le_of_ble_eq_true rfl)⟩ (fun N M9 hx9 => ?_) (fun v M9 hp9 => ?_)
  · have hN := hpx N M9 hx9
    subst hN
    refine j_catch [] ⟨0, 9, 12, 40⟩ [] rfl (by decide +kernel) (fun _ h => absurd h List.not_mem_nil) (by decide +kernel) (by decide) cl_L_40 cast_40 (fun q => ?_)
    refine j_ast_3 dL_setBar_12 (by decide) rfl ?_
    refine j_icN 1 dL_setBar_13 rfl ?_
    exact j_iret dL_setBar_14 rfl rfl (Nat.le_of_ble_eq_true rfl) (Nat.le_of_ble_eq_true rfl) (Or.inr (⟨hx9, rfl⟩))
  · obtain ⟨w, hv⟩ := hpo v M9 hp9
    subst hv
    refine j_i2l dL_setBar_7 ?_
    refine j_astO dL_setBar_8 rfl ?_
    refine j_goto (tgt := 15) dL_setBar_9 (by decide) ?_
    refine j_icN 0 dL_setBar_15 rfl ?_
    exact j_iret dL_setBar_16 rfl rfl (Nat.le_of_ble_eq_true rfl) (Nat.le_of_ble_eq_true rfl) (Or.inl ⟨w, M9, hp9, rfl, rfl⟩)
theorem mw_place : MfW yL_place cL_place 4 (some .int) [(0, 9, 12, 31)] 3 := ⟨⟨by decide +kernel, by decide +kernel, by decide +kernel⟩, (wg4 (i := 175) rfl rfl), (wg1 (i := 0) rfl rfl), (wg4 (i := 176) rfl rfl)⟩
set_option maxRecDepth 100000 in
set_option maxHeartbeats 4000000 in
theorem cw_place {l : Launch} {E : Ev} {M : Mm} {lv' : Nat} {post : Option Value → Mm → Prop} {px : String → Mm → Prop} {p0 : Int32} (hlv : lv' ≤ 7) (hC : CtX l E yX9_place cX9_place 3 (some .int) lv' [.ref (eA E 0 0), .int p0] M post px) (hpx : ∀ N M', px N M' → N = "java/util/NoSuchElementException") (hpo : ∀ v M', post v M' → ∃ w, v = some (.int w)) : CtW l E yL_place cL_place 4 (some .int) [(0, 9, 12, 31)] 8 1 6 [.ref (eA E 0 0), .int p0, .ref (eA E 14 0)] M (fun v M1 => (∃ w M', post (some (.int w)) M' ∧ v = some (.int (nI 0)) ∧ M1 = sW M' 2 w.toInt64) ∨ (px "java/util/NoSuchElementException" M1 ∧ v = some (.int (nI 1)))) := by
  refine CtW.of (own := RL) rfl [some (.ref (eA E 0 0)), some (.int p0), some (.ref (eA E 14 0)), none] (by decide) (Nat.le_of_ble_eq_true rfl) rfl ?_
  refine j_aln dL_place_0 rfl rfl ?_
  refine j_icN 0 dL_place_1 rfl ?_
  refine j_aln dL_place_2 rfl rfl ?_
  refine j_iln dL_place_3 rfl rfl ?_
  refine j_callX (rest := [.int (nI 0), .ref (eA E 14 0)]) mf_X9_place ml_L_49 (show lv' + 1 ≤ 8 by omega) (Nat.le_of_ble_eq_true rfl) hC (by decide) rfl rfl rfl rfl (Nat.le_of_ble_eq_true rfl) dL_place_4 ⟨(Nat.le_of_ble_eq_true rfl), (Nat.le_of_ble_eq_true rfl)⟩ (fun N M9 hx9 => ?_) (fun v M9 hp9 => ?_)
  · have hN := hpx N M9 hx9
    subst hN
    refine j_catch [] ⟨0, 9, 12, 31⟩ [] rfl (by decide +kernel) (fun _ h => absurd h List.not_mem_nil) (by decide +kernel) (by decide) cl_L_31 cast_31 (fun q => ?_)
    refine j_ast_3 dL_place_12 (by decide) rfl ?_
    refine j_icN 1 dL_place_13 rfl ?_
    exact j_iret dL_place_14 rfl rfl (Nat.le_of_ble_eq_true rfl) (Nat.le_of_ble_eq_true rfl) (Or.inr (⟨hx9, rfl⟩))
  · obtain ⟨w, hv⟩ := hpo v M9 hp9
    subst hv
    refine j_i2l dL_place_7 ?_
    refine j_astO dL_place_8 rfl ?_
    refine j_goto (tgt := 15) dL_place_9 (by decide) ?_
    refine j_icN 0 dL_place_15 rfl ?_
    exact j_iret dL_place_16 rfl rfl (Nat.le_of_ble_eq_true rfl) (Nat.le_of_ble_eq_true rfl) (Or.inl ⟨w, M9, hp9, rfl, rfl⟩)
theorem mw_state : MfW yL_state cL_state 4 (some .int) [(0, 9, 12, 31)] 3 := ⟨⟨by decide +kernel, by decide +kernel, by decide +kernel⟩, (wg4 (i := 182) rfl rfl), (wg1 (i := 0) rfl rfl), (wg4 (i := 183) rfl rfl)⟩
set_option maxRecDepth 100000 in
set_option maxHeartbeats 4000000 in
theorem cw_state {l : Launch} {E : Ev} {M : Mm} {lv' : Nat} {post : Option Value → Mm → Prop} {px : String → Mm → Prop} {p0 : Int32} (hlv : lv' ≤ 7) (hC : CtX l E yX9_state cX9_state 4 (some .char) lv' [.ref (eA E 0 0), .int p0] M post px) (hpx : ∀ N M', px N M' → N = "java/util/NoSuchElementException") (hpo : ∀ v M', post v M' → ∃ w, v = some (.int w)) : CtW l E yL_state cL_state 4 (some .int) [(0, 9, 12, 31)] 8 1 6 [.ref (eA E 0 0), .int p0, .ref (eA E 14 0)] M (fun v M1 => (∃ w M', post (some (.int w)) M' ∧ v = some (.int (nI 0)) ∧ M1 = sW M' 2 w.toInt64) ∨ (px "java/util/NoSuchElementException" M1 ∧ v = some (.int (nI 1)))) := by
  refine CtW.of (own := RL) rfl [some (.ref (eA E 0 0)), some (.int p0), some (.ref (eA E 14 0)), none] (by decide) (Nat.le_of_ble_eq_true rfl) rfl ?_
  refine j_aln dL_state_0 rfl rfl ?_
  refine j_icN 0 dL_state_1 rfl ?_
  refine j_aln dL_state_2 rfl rfl ?_
  refine j_iln dL_state_3 rfl rfl ?_
  refine j_callX (rest := [.int (nI 0), .ref (eA E 14 0)]) mf_X9_state ml_L_52 (show lv' + 1 ≤ 8 by omega) (Nat.le_of_ble_eq_true rfl) hC (by decide) rfl rfl rfl rfl (Nat.le_of_ble_eq_true rfl) dL_state_4 ⟨(Nat.le_of_ble_eq_true rfl), (Nat.le_of_ble_eq_true rfl)⟩ (fun N M9 hx9 => ?_) (fun v M9 hp9 => ?_)
  · have hN := hpx N M9 hx9
    subst hN
    refine j_catch [] ⟨0, 9, 12, 31⟩ [] rfl (by decide +kernel) (fun _ h => absurd h List.not_mem_nil) (by decide +kernel) (by decide) cl_L_31 cast_31 (fun q => ?_)
    refine j_ast_3 dL_state_12 (by decide) rfl ?_
    refine j_icN 1 dL_state_13 rfl ?_
    exact j_iret dL_state_14 rfl rfl (Nat.le_of_ble_eq_true rfl) (Nat.le_of_ble_eq_true rfl) (Or.inr (⟨hx9, rfl⟩))
  · obtain ⟨w, hv⟩ := hpo v M9 hp9
    subst hv
    refine j_i2l dL_state_7 ?_
    refine j_astO dL_state_8 rfl ?_
    refine j_goto (tgt := 15) dL_state_9 (by decide) ?_
    refine j_icN 0 dL_state_15 rfl ?_
    exact j_iret dL_state_16 rfl rfl (Nat.le_of_ble_eq_true rfl) (Nat.le_of_ble_eq_true rfl) (Or.inl ⟨w, M9, hp9, rfl, rfl⟩)
theorem mw_has : MfW yL_has cL_has 6 (some .int) [(0, 19, 22, 40)] 5 := ⟨⟨by decide +kernel, by decide +kernel, by decide +kernel⟩, (wg4 (i := 189) rfl rfl), (wg1 (i := 0) rfl rfl), (wg4 (i := 190) rfl rfl)⟩
set_option maxRecDepth 100000 in
set_option maxHeartbeats 4000000 in
theorem cw_has {l : Launch} {E : Ev} {M : Mm} {lv' : Nat} {post : Option Value → Mm → Prop} {px : String → Mm → Prop} {p0 p1 p2 : Int32} (hlv : lv' ≤ 7) (hC : CtX l E yX9_has cX9_has 4 (some .boolean) lv' [.ref (eA E 0 0), .int p0, .int p1, .int p2] M post px) (hpx : ∀ N M', px N M' → N = "java/lang/IndexOutOfBoundsException") (hpo : ∀ v M', post v M' → ∃ w, v = some (.int w)) : CtW l E yL_has cL_has 6 (some .int) [(0, 19, 22, 40)] 8 1 6 [.ref (eA E 0 0), .int p0, .int p1, .int p2, .ref (eA E 14 0)] M (fun v M1 => (∃ w M', post (some (.int w)) M' ∧ v = some (.int (nI 0)) ∧ M1 = sW M' 2 (if w = 0 then 0 else 1)) ∨ (px "java/lang/IndexOutOfBoundsException" M1 ∧ v = some (.int (nI 1)))) := by
  refine CtW.of (own := RL) rfl [some (.ref (eA E 0 0)), some (.int p0), some (.int p1), some (.int p2), some (.ref (eA E 14 0)), none] (by decide) (Nat.le_of_ble_eq_true rfl) rfl ?_
  refine j_al dL_has_0 rfl ?_
  refine j_icN 0 dL_has_2 rfl ?_
  refine j_aln dL_has_3 rfl rfl ?_
  refine j_iln dL_has_4 rfl rfl ?_
  refine j_iln dL_has_5 rfl rfl ?_
  refine j_iln dL_has_6 rfl rfl ?_
  refine j_callX (rest := [.int (nI 0), .ref (eA E 14 0)]) mf_X9_has ml_L_56 (show lv' + 1 ≤ 8 by omega) (Nat.le_of_ble_eq_true rfl) hC (by decide) rfl rfl rfl rfl (Nat.le_of_ble_eq_true rfl) dL_has_7 ⟨(Nat.le_of_ble_eq_true rfl), (Nat.le_of_ble_eq_true rfl)⟩ (fun N M9 hx9 => ?_) (fun v M9 hp9 => ?_)
  · have hN := hpx N M9 hx9
    subst hN
    refine j_catch [] ⟨0, 19, 22, 40⟩ [] rfl (by decide +kernel) (fun _ h => absurd h List.not_mem_nil) (by decide +kernel) (by decide) cl_L_40 cast_40 (fun q => ?_)
    refine j_ast_5 dL_has_22 (by decide) rfl ?_
    refine j_icN 1 dL_has_24 rfl ?_
    exact j_iret dL_has_25 rfl rfl (Nat.le_of_ble_eq_true rfl) (Nat.le_of_ble_eq_true rfl) (Or.inr (⟨hx9, rfl⟩))
  · obtain ⟨w, hv⟩ := hpo v M9 hp9
    subst hv
    refine j_ifeq (tgt := 17) dL_has_10 (by decide) (fun h10 => ?_) (fun h10 => ?_)
    · have hw : (if w = 0 then 0 else 1 : Int64) = 0 := if_pos h10
      refine j_lc (v := 0) dL_has_17 (by decide) ?_
      refine j_astO dL_has_18 rfl ?_
      refine j_goto (tgt := 26) dL_has_19 (by decide) ?_
      refine j_icN 0 dL_has_26 rfl ?_
      exact j_iret dL_has_27 rfl rfl (Nat.le_of_ble_eq_true rfl) (Nat.le_of_ble_eq_true rfl) (Or.inl ⟨w, M9, hp9, rfl, by rw [hw]⟩)
    · have hw : (if w = 0 then 0 else 1 : Int64) = 1 := if_neg h10
      refine j_lc (v := 1) dL_has_13 (by decide) ?_
      refine j_goto (tgt := 18) dL_has_14 (by decide) ?_
      refine j_astO dL_has_18 rfl ?_
      refine j_goto (tgt := 26) dL_has_19 (by decide) ?_
      refine j_icN 0 dL_has_26 rfl ?_
      exact j_iret dL_has_27 rfl rfl (Nat.le_of_ble_eq_true rfl) (Nat.le_of_ble_eq_true rfl) (Or.inl ⟨w, M9, hp9, rfl, by rw [hw]⟩)
theorem mw_hasAnew : MfW yL_hasAnew cL_hasAnew 6 (some .int) [(0, 19, 22, 40)] 5 := ⟨⟨by decide +kernel, by decide +kernel, by decide +kernel⟩, (wg4 (i := 199) rfl rfl), (wg1 (i := 0) rfl rfl), (wg4 (i := 200) rfl rfl)⟩
set_option maxRecDepth 100000 in
set_option maxHeartbeats 4000000 in
theorem cw_hasAnew {l : Launch} {E : Ev} {M : Mm} {lv' : Nat} {post : Option Value → Mm → Prop} {px : String → Mm → Prop} {p0 p1 p2 : Int32} (hlv : lv' ≤ 7) (hC : CtX l E yX9_hasAnew cX9_hasAnew 4 (some .boolean) lv' [.ref (eA E 0 0), .int p0, .int p1, .int p2] M post px) (hpx : ∀ N M', px N M' → N = "java/lang/IndexOutOfBoundsException") (hpo : ∀ v M', post v M' → ∃ w, v = some (.int w)) : CtW l E yL_hasAnew cL_hasAnew 6 (some .int) [(0, 19, 22, 40)] 8 1 6 [.ref (eA E 0 0), .int p0, .int p1, .int p2, .ref (eA E 14 0)] M (fun v M1 => (∃ w M', post (some (.int w)) M' ∧ v = some (.int (nI 0)) ∧ M1 = sW M' 2 (if w = 0 then 0 else 1)) ∨ (px "java/lang/IndexOutOfBoundsException" M1 ∧ v = some (.int (nI 1)))) := by
  refine CtW.of (own := RL) rfl [some (.ref (eA E 0 0)), some (.int p0), some (.int p1), some (.int p2), some (.ref (eA E 14 0)), none] (by decide) (Nat.le_of_ble_eq_true rfl) rfl ?_
  refine j_al dL_hasAnew_0 rfl ?_
  refine j_icN 0 dL_hasAnew_2 rfl ?_
  refine j_aln dL_hasAnew_3 rfl rfl ?_
  refine j_iln dL_hasAnew_4 rfl rfl ?_
  refine j_iln dL_hasAnew_5 rfl rfl ?_
  refine j_iln dL_hasAnew_6 rfl rfl ?_
  refine j_callX (rest := [.int (nI 0), .ref (eA E 14 0)]) mf_X9_hasAnew ml_L_60 (show lv' + 1 ≤ 8 by omega) (Nat.le_of_ble_eq_true rfl) hC (by decide) rfl rfl rfl rfl (Nat.le_of_ble_eq_true rfl) dL_hasAnew_7 ⟨(Nat.le_of_ble_eq_true rfl), (Nat.le_of_ble_eq_true rfl)⟩ (fun N M9 hx9 => ?_) (fun v M9 hp9 => ?_)
  · have hN := hpx N M9 hx9
    subst hN
    refine j_catch [] ⟨0, 19, 22, 40⟩ [] rfl (by decide +kernel) (fun _ h => absurd h List.not_mem_nil) (by decide +kernel) (by decide) cl_L_40 cast_40 (fun q => ?_)
    refine j_ast_5 dL_hasAnew_22 (by decide) rfl ?_
    refine j_icN 1 dL_hasAnew_24 rfl ?_
    exact j_iret dL_hasAnew_25 rfl rfl (Nat.le_of_ble_eq_true rfl) (Nat.le_of_ble_eq_true rfl) (Or.inr (⟨hx9, rfl⟩))
  · obtain ⟨w, hv⟩ := hpo v M9 hp9
    subst hv
    refine j_ifeq (tgt := 17) dL_hasAnew_10 (by decide) (fun h10 => ?_) (fun h10 => ?_)
    · have hw : (if w = 0 then 0 else 1 : Int64) = 0 := if_pos h10
      refine j_lc (v := 0) dL_hasAnew_17 (by decide) ?_
      refine j_astO dL_hasAnew_18 rfl ?_
      refine j_goto (tgt := 26) dL_hasAnew_19 (by decide) ?_
      refine j_icN 0 dL_hasAnew_26 rfl ?_
      exact j_iret dL_hasAnew_27 rfl rfl (Nat.le_of_ble_eq_true rfl) (Nat.le_of_ble_eq_true rfl) (Or.inl ⟨w, M9, hp9, rfl, by rw [hw]⟩)
    · have hw : (if w = 0 then 0 else 1 : Int64) = 1 := if_neg h10
      refine j_lc (v := 1) dL_hasAnew_13 (by decide) ?_
      refine j_goto (tgt := 18) dL_hasAnew_14 (by decide) ?_
      refine j_astO dL_hasAnew_18 rfl ?_
      refine j_goto (tgt := 26) dL_hasAnew_19 (by decide) ?_
      refine j_icN 0 dL_hasAnew_26 rfl ?_
      exact j_iret dL_hasAnew_27 rfl rfl (Nat.le_of_ble_eq_true rfl) (Nat.le_of_ble_eq_true rfl) (Or.inl ⟨w, M9, hp9, rfl, by rw [hw]⟩)
theorem mw_nameOf : MfW yL_nameOf cL_nameOf 7 (some .int) [(0, 14, 17, 40), (0, 14, 21, 13), (0, 14, 25, 31)] 6 := ⟨⟨by decide +kernel, by decide +kernel, by decide +kernel⟩, (wg4 (i := 206) rfl rfl), (wg1 (i := 0) rfl rfl), (wg4 (i := 207) rfl rfl)⟩
set_option maxRecDepth 100000 in
set_option maxHeartbeats 4000000 in
theorem cw_nameOf {l : Launch} {E : Ev} {M : Mm} {lv' : Nat} {post : Option Value → Mm → Prop} {px : String → Mm → Prop} {p0 p1 p2 p3 : Int32} (hlv : lv' ≤ 7) (hC : CtX l E yX9_nameOf cX9_nameOf 6 (some .int) lv' [.ref (eA E 0 0), .int p0, .int p1, .int p2, .int p3] M post px) (hpx : ∀ N M', px N M' → N = "java/lang/IndexOutOfBoundsException" ∨ N = "java/lang/IllegalArgumentException" ∨ N = "java/util/NoSuchElementException") (hpo : ∀ v M', post v M' → ∃ w, v = some (.int w)) : CtW l E yL_nameOf cL_nameOf 7 (some .int) [(0, 14, 17, 40), (0, 14, 21, 13), (0, 14, 25, 31)] 8 1 6 [.ref (eA E 0 0), .int p0, .int p1, .int p2, .int p3, .ref (eA E 14 0)] M (fun v M1 => (∃ w M', post (some (.int w)) M' ∧ v = some (.int (nI 0)) ∧ M1 = sW M' 2 w.toInt64) ∨ (px "java/lang/IndexOutOfBoundsException" M1 ∧ v = some (.int (nI 1))) ∨ (px "java/lang/IllegalArgumentException" M1 ∧ v = some (.int (nI 2))) ∨ (px "java/util/NoSuchElementException" M1 ∧ v = some (.int (nI 3)))) := by
  refine CtW.of (own := RL) rfl [some (.ref (eA E 0 0)), some (.int p0), some (.int p1), some (.int p2), some (.int p3), some (.ref (eA E 14 0)), none] (by decide) (Nat.le_of_ble_eq_true rfl) rfl ?_
  refine j_al dL_nameOf_0 rfl ?_
  refine j_icN 0 dL_nameOf_2 rfl ?_
  refine j_aln dL_nameOf_3 rfl rfl ?_
  refine j_iln dL_nameOf_4 rfl rfl ?_
  refine j_iln dL_nameOf_5 rfl rfl ?_
  refine j_iln dL_nameOf_6 rfl rfl ?_
  refine j_il dL_nameOf_7 rfl ?_
  refine j_callX (rest := [.int (nI 0), .ref (eA E 14 0)]) mf_X9_nameOf ml_L_63 (show lv' + 1 ≤ 8 by omega) (Nat.le_of_ble_eq_true rfl) hC (by decide) rfl rfl rfl rfl (Nat.le_of_ble_eq_true rfl) dL_nameOf_9 ⟨(Nat.le_of_ble_eq_true rfl), (Nat.le_of_ble_eq_true rfl)⟩ (fun N M9 hx9 => ?_) (fun v M9 hp9 => ?_)
  · rcases hpx N M9 hx9 with hN | hN | hN
    · subst hN
      refine j_catch [] ⟨0, 14, 17, 40⟩ [⟨0, 14, 21, 13⟩, ⟨0, 14, 25, 31⟩] rfl (by decide +kernel) (fun _ h => absurd h List.not_mem_nil) (by decide +kernel) (by decide) cl_L_40 cast_40 (fun q => ?_)
      refine j_ast_6 dL_nameOf_17 (by decide) rfl ?_
      refine j_icN 1 dL_nameOf_19 rfl ?_
      exact j_iret dL_nameOf_20 rfl rfl (Nat.le_of_ble_eq_true rfl) (Nat.le_of_ble_eq_true rfl) (Or.inr (Or.inl ⟨hx9, rfl⟩))
    · subst hN
      refine j_catch [⟨0, 14, 17, 40⟩] ⟨0, 14, 21, 13⟩ [⟨0, 14, 25, 31⟩] rfl (by decide +kernel) (List.forall_mem_cons.mpr ⟨⟨by decide, "java/lang/IndexOutOfBoundsException", by decide +kernel, by decide +kernel, cl_L_40⟩, (fun _ h => absurd h List.not_mem_nil)⟩) (by decide +kernel) (by decide) cl_L_13 cast_13 (fun q => ?_)
      refine j_ast_6 dL_nameOf_21 (by decide) rfl ?_
      refine j_icN 2 dL_nameOf_23 rfl ?_
      exact j_iret dL_nameOf_24 rfl rfl (Nat.le_of_ble_eq_true rfl) (Nat.le_of_ble_eq_true rfl) (Or.inr (Or.inr (Or.inl ⟨hx9, rfl⟩)))
    · subst hN
      refine j_catch [⟨0, 14, 17, 40⟩, ⟨0, 14, 21, 13⟩] ⟨0, 14, 25, 31⟩ [] rfl (by decide +kernel) (List.forall_mem_cons.mpr ⟨⟨by decide, "java/lang/IndexOutOfBoundsException", by decide +kernel, by decide +kernel, cl_L_40⟩, (List.forall_mem_cons.mpr ⟨⟨by decide, "java/lang/IllegalArgumentException", by decide +kernel, by decide +kernel, cl_L_13⟩, (fun _ h => absurd h List.not_mem_nil)⟩)⟩) (by decide +kernel) (by decide) cl_L_31 cast_31 (fun q => ?_)
      refine j_ast_6 dL_nameOf_25 (by decide) rfl ?_
      refine j_icN 3 dL_nameOf_27 rfl ?_
      exact j_iret dL_nameOf_28 rfl rfl (Nat.le_of_ble_eq_true rfl) (Nat.le_of_ble_eq_true rfl) (Or.inr (Or.inr (Or.inr (⟨hx9, rfl⟩))))
  · obtain ⟨w, hv⟩ := hpo v M9 hp9
    subst hv
    refine j_i2l dL_nameOf_12 ?_
    refine j_astO dL_nameOf_13 rfl ?_
    refine j_goto (tgt := 29) dL_nameOf_14 (by decide) ?_
    refine j_icN 0 dL_nameOf_29 rfl ?_
    exact j_iret dL_nameOf_30 rfl rfl (Nat.le_of_ble_eq_true rfl) (Nat.le_of_ble_eq_true rfl) (Or.inl ⟨w, M9, hp9, rfl, rfl⟩)
theorem mw_squares : MfW yL_squares cL_squares 5 (some .int) [(0, 10, 13, 13)] 4 := ⟨⟨by decide +kernel, by decide +kernel, by decide +kernel⟩, (wg4 (i := 221) rfl rfl), (wg1 (i := 0) rfl rfl), (wg4 (i := 222) rfl rfl)⟩
set_option maxRecDepth 100000 in
set_option maxHeartbeats 4000000 in
theorem cw_squares {l : Launch} {E : Ev} {M : Mm} {lv' : Nat} {post : Option Value → Mm → Prop} {px : String → Mm → Prop} {p0 p1 : Int32} (hlv : lv' ≤ 7) (hC : CtX l E yX9_squares cX9_squares 3 (some .int) lv' [.ref (eA E 0 0), .int p0, .int p1] M post px) (hpx : ∀ N M', px N M' → N = "java/lang/IllegalArgumentException") (hpo : ∀ v M', post v M' → ∃ w, v = some (.int w)) : CtW l E yL_squares cL_squares 5 (some .int) [(0, 10, 13, 13)] 8 1 6 [.ref (eA E 0 0), .int p0, .int p1, .ref (eA E 14 0)] M (fun v M1 => (∃ w M', post (some (.int w)) M' ∧ v = some (.int (nI 0)) ∧ M1 = sW M' 2 w.toInt64) ∨ (px "java/lang/IllegalArgumentException" M1 ∧ v = some (.int (nI 1)))) := by
  refine CtW.of (own := RL) rfl [some (.ref (eA E 0 0)), some (.int p0), some (.int p1), some (.ref (eA E 14 0)), none] (by decide) (Nat.le_of_ble_eq_true rfl) rfl ?_
  refine j_aln dL_squares_0 rfl rfl ?_
  refine j_icN 0 dL_squares_1 rfl ?_
  refine j_aln dL_squares_2 rfl rfl ?_
  refine j_iln dL_squares_3 rfl rfl ?_
  refine j_iln dL_squares_4 rfl rfl ?_
  refine j_callX (rest := [.int (nI 0), .ref (eA E 14 0)]) mf_X9_squares ml_L_66 (show lv' + 1 ≤ 8 by omega) (Nat.le_of_ble_eq_true rfl) hC (by decide) rfl rfl rfl rfl (Nat.le_of_ble_eq_true rfl) dL_squares_5 ⟨(Nat.le_of_ble_eq_true rfl), (Nat.le_of_ble_eq_true rfl)⟩ (fun N M9 hx9 => ?_) (fun v M9 hp9 => ?_)
  · have hN := hpx N M9 hx9
    subst hN
    refine j_catch [] ⟨0, 10, 13, 13⟩ [] rfl (by decide +kernel) (fun _ h => absurd h List.not_mem_nil) (by decide +kernel) (by decide) cl_L_13 cast_13 (fun q => ?_)
    refine j_ast_4 dL_squares_13 (by decide) rfl ?_
    refine j_icN 1 dL_squares_15 rfl ?_
    exact j_iret dL_squares_16 rfl rfl (Nat.le_of_ble_eq_true rfl) (Nat.le_of_ble_eq_true rfl) (Or.inr (⟨hx9, rfl⟩))
  · obtain ⟨w, hv⟩ := hpo v M9 hp9
    subst hv
    refine j_i2l dL_squares_8 ?_
    refine j_astO dL_squares_9 rfl ?_
    refine j_goto (tgt := 17) dL_squares_10 (by decide) ?_
    refine j_icN 0 dL_squares_17 rfl ?_
    exact j_iret dL_squares_18 rfl rfl (Nat.le_of_ble_eq_true rfl) (Nat.le_of_ble_eq_true rfl) (Or.inl ⟨w, M9, hp9, rfl, rfl⟩)
theorem mw_centre : MfW yL_centre cL_centre 4 (some .int) [(0, 8, 11, 13), (0, 8, 14, 73)] 3 := ⟨⟨by decide +kernel, by decide +kernel, by decide +kernel⟩, (wg4 (i := 238) rfl rfl), (wg1 (i := 0) rfl rfl), (wg4 (i := 239) rfl rfl)⟩
set_option maxRecDepth 100000 in
set_option maxHeartbeats 4000000 in
theorem cw_centre {l : Launch} {E : Ev} {M : Mm} {lv' : Nat} {post : Option Value → Mm → Prop} {px : String → Mm → Prop} {p0 : Int32} (hlv : lv' ≤ 7) (hC : CtX l E yX9_centre cX9_centre 4 (some .double) lv' [.ref (eA E 0 0), .int p0] M post px) (hpx : ∀ N M', px N M' → N = "java/lang/IllegalArgumentException" ∨ N = "java/lang/ArithmeticException") (hpo : ∀ v M', post v M' → ∃ w, v = some (.double w)) : CtW l E yL_centre cL_centre 4 (some .int) [(0, 8, 11, 13), (0, 8, 14, 73)] 8 1 6 [.ref (eA E 0 0), .int p0, .ref (eA E 15 0)] M (fun v M1 => (∃ w M', post (some (.double w)) M' ∧ v = some (.int (nI 0)) ∧ M1 = sD M' w) ∨ (px "java/lang/IllegalArgumentException" M1 ∧ v = some (.int (nI 1))) ∨ (px "java/lang/ArithmeticException" M1 ∧ v = some (.int (nI 2)))) := by
  refine CtW.of (own := RL) rfl [some (.ref (eA E 0 0)), some (.int p0), some (.ref (eA E 15 0)), none] (by decide) (Nat.le_of_ble_eq_true rfl) rfl ?_
  refine j_aln dL_centre_0 rfl rfl ?_
  refine j_icN 0 dL_centre_1 rfl ?_
  refine j_aln dL_centre_2 rfl rfl ?_
  refine j_iln dL_centre_3 rfl rfl ?_
  refine j_callX (rest := [.int (nI 0), .ref (eA E 15 0)]) mf_X9_centre ml_L_69 (show lv' + 1 ≤ 8 by omega) (Nat.le_of_ble_eq_true rfl) hC (by decide) rfl rfl rfl rfl (Nat.le_of_ble_eq_true rfl) dL_centre_4 ⟨(Nat.le_of_ble_eq_true rfl), (Nat.le_of_ble_eq_true rfl)⟩ (fun N M9 hx9 => ?_) (fun v M9 hp9 => ?_)
  · rcases hpx N M9 hx9 with hN | hN
    · subst hN
      refine j_catch [] ⟨0, 8, 11, 13⟩ [⟨0, 8, 14, 73⟩] rfl (by decide +kernel) (fun _ h => absurd h List.not_mem_nil) (by decide +kernel) (by decide) cl_L_13 cast_13 (fun q => ?_)
      refine j_ast_3 dL_centre_11 (by decide) rfl ?_
      refine j_icN 1 dL_centre_12 rfl ?_
      exact j_iret dL_centre_13 rfl rfl (Nat.le_of_ble_eq_true rfl) (Nat.le_of_ble_eq_true rfl) (Or.inr (Or.inl ⟨hx9, rfl⟩))
    · subst hN
      refine j_catch [⟨0, 8, 11, 13⟩] ⟨0, 8, 14, 73⟩ [] rfl (by decide +kernel) (List.forall_mem_cons.mpr ⟨⟨by decide, "java/lang/IllegalArgumentException", by decide +kernel, by decide +kernel, cl_L_13⟩, (fun _ h => absurd h List.not_mem_nil)⟩) (by decide +kernel) (by decide) cl_L_73 cast_73 (fun q => ?_)
      refine j_ast_3 dL_centre_14 (by decide) rfl ?_
      refine j_icN 2 dL_centre_15 rfl ?_
      exact j_iret dL_centre_16 rfl rfl (Nat.le_of_ble_eq_true rfl) (Nat.le_of_ble_eq_true rfl) (Or.inr (Or.inr (⟨hx9, rfl⟩)))
  · obtain ⟨w, hv⟩ := hpo v M9 hp9
    subst hv
    refine j_astD dL_centre_7 rfl ?_
    refine j_goto (tgt := 17) dL_centre_8 (by decide) ?_
    refine j_icN 0 dL_centre_17 rfl ?_
    exact j_iret dL_centre_18 rfl rfl (Nat.le_of_ble_eq_true rfl) (Nat.le_of_ble_eq_true rfl) (Or.inl ⟨w, M9, hp9, rfl, rfl⟩)
theorem mw_addPart : MfW yL_addPart cL_addPart 6 (some .int) [(0, 12, 15, 13), (0, 12, 19, 25)] 5 := ⟨⟨by decide +kernel, by decide +kernel, by decide +kernel⟩, (wg5 (i := 28) rfl rfl), (wg1 (i := 0) rfl rfl), (wg5 (i := 29) rfl rfl)⟩
set_option maxRecDepth 100000 in
set_option maxHeartbeats 4000000 in
theorem cw_addPart {l : Launch} {E : Ev} {M : Mm} {lv' : Nat} {post : Option Value → Mm → Prop} {px : String → Mm → Prop} {p0 p1 p2 : Int32} (hlv : lv' ≤ 7) (hC : CtX l E yX9_addPart cX9_addPart 4 (some .int) lv' [.ref (eA E 0 0), .int p0, .int p1, .int p2] M post px) (hpx : ∀ N M', px N M' → N = "java/lang/IllegalArgumentException" ∨ N = "java/lang/IllegalStateException") (hpo : ∀ v M', post v M' → ∃ w, v = some (.int w)) : CtW l E yL_addPart cL_addPart 6 (some .int) [(0, 12, 15, 13), (0, 12, 19, 25)] 8 1 6 [.ref (eA E 0 0), .int p0, .int p1, .int p2, .ref (eA E 14 0)] M (fun v M1 => (∃ w M', post (some (.int w)) M' ∧ v = some (.int (nI 0)) ∧ M1 = sW M' 2 w.toInt64) ∨ (px "java/lang/IllegalArgumentException" M1 ∧ v = some (.int (nI 1))) ∨ (px "java/lang/IllegalStateException" M1 ∧ v = some (.int (nI 2)))) := by
  refine CtW.of (own := RL) rfl [some (.ref (eA E 0 0)), some (.int p0), some (.int p1), some (.int p2), some (.ref (eA E 14 0)), none] (by decide) (Nat.le_of_ble_eq_true rfl) rfl ?_
  refine j_al dL_addPart_0 rfl ?_
  refine j_icN 0 dL_addPart_2 rfl ?_
  refine j_aln dL_addPart_3 rfl rfl ?_
  refine j_iln dL_addPart_4 rfl rfl ?_
  refine j_iln dL_addPart_5 rfl rfl ?_
  refine j_iln dL_addPart_6 rfl rfl ?_
  refine j_callX (rest := [.int (nI 0), .ref (eA E 14 0)]) mf_X9_addPart ml_L_75 (show lv' + 1 ≤ 8 by omega) (Nat.le_of_ble_eq_true rfl) hC (by decide) rfl rfl rfl rfl (Nat.le_of_ble_eq_true rfl) dL_addPart_7 ⟨(Nat.le_of_ble_eq_true rfl), (Nat.le_of_ble_eq_true rfl)⟩ (fun N M9 hx9 => ?_) (fun v M9 hp9 => ?_)
  · rcases hpx N M9 hx9 with hN | hN
    · subst hN
      refine j_catch [] ⟨0, 12, 15, 13⟩ [⟨0, 12, 19, 25⟩] rfl (by decide +kernel) (fun _ h => absurd h List.not_mem_nil) (by decide +kernel) (by decide) cl_L_13 cast_13 (fun q => ?_)
      refine j_ast_5 dL_addPart_15 (by decide) rfl ?_
      refine j_icN 1 dL_addPart_17 rfl ?_
      exact j_iret dL_addPart_18 rfl rfl (Nat.le_of_ble_eq_true rfl) (Nat.le_of_ble_eq_true rfl) (Or.inr (Or.inl ⟨hx9, rfl⟩))
    · subst hN
      refine j_catch [⟨0, 12, 15, 13⟩] ⟨0, 12, 19, 25⟩ [] rfl (by decide +kernel) (List.forall_mem_cons.mpr ⟨⟨by decide, "java/lang/IllegalArgumentException", by decide +kernel, by decide +kernel, cl_L_13⟩, (fun _ h => absurd h List.not_mem_nil)⟩) (by decide +kernel) (by decide) cl_L_25 cast_25 (fun q => ?_)
      refine j_ast_5 dL_addPart_19 (by decide) rfl ?_
      refine j_icN 2 dL_addPart_21 rfl ?_
      exact j_iret dL_addPart_22 rfl rfl (Nat.le_of_ble_eq_true rfl) (Nat.le_of_ble_eq_true rfl) (Or.inr (Or.inr (⟨hx9, rfl⟩)))
  · obtain ⟨w, hv⟩ := hpo v M9 hp9
    subst hv
    refine j_i2l dL_addPart_10 ?_
    refine j_astO dL_addPart_11 rfl ?_
    refine j_goto (tgt := 23) dL_addPart_12 (by decide) ?_
    refine j_icN 0 dL_addPart_23 rfl ?_
    exact j_iret dL_addPart_24 rfl rfl (Nat.le_of_ble_eq_true rfl) (Nat.le_of_ble_eq_true rfl) (Or.inl ⟨w, M9, hp9, rfl, rfl⟩)
theorem mw_freeze : MfW yL_freeze cL_freeze 5 (some .int) [(0, 17, 20, 40)] 4 := ⟨⟨by decide +kernel, by decide +kernel, by decide +kernel⟩, (wg5 (i := 42) rfl rfl), (wg1 (i := 0) rfl rfl), (wg5 (i := 43) rfl rfl)⟩
set_option maxRecDepth 100000 in
set_option maxHeartbeats 4000000 in
theorem cw_freeze {l : Launch} {E : Ev} {M : Mm} {lv' : Nat} {post : Option Value → Mm → Prop} {px : String → Mm → Prop} {p0 p1 : Int32} (hlv : lv' ≤ 7) (hC : CtX l E yX9_freeze cX9_freeze 4 (some .boolean) lv' [.ref (eA E 0 0), .int p0, .int p1] M post px) (hpx : ∀ N M', px N M' → N = "java/lang/IndexOutOfBoundsException") (hpo : ∀ v M', post v M' → ∃ w, v = some (.int w)) : CtW l E yL_freeze cL_freeze 5 (some .int) [(0, 17, 20, 40)] 8 1 6 [.ref (eA E 0 0), .int p0, .int p1, .ref (eA E 14 0)] M (fun v M1 => (∃ w M', post (some (.int w)) M' ∧ v = some (.int (nI 0)) ∧ M1 = sW M' 2 (if w = 0 then 0 else 1)) ∨ (px "java/lang/IndexOutOfBoundsException" M1 ∧ v = some (.int (nI 1)))) := by
  refine CtW.of (own := RL) rfl [some (.ref (eA E 0 0)), some (.int p0), some (.int p1), some (.ref (eA E 14 0)), none] (by decide) (Nat.le_of_ble_eq_true rfl) rfl ?_
  refine j_aln dL_freeze_0 rfl rfl ?_
  refine j_icN 0 dL_freeze_1 rfl ?_
  refine j_aln dL_freeze_2 rfl rfl ?_
  refine j_iln dL_freeze_3 rfl rfl ?_
  refine j_iln dL_freeze_4 rfl rfl ?_
  refine j_callX (rest := [.int (nI 0), .ref (eA E 14 0)]) mf_X9_freeze ml_L_79 (show lv' + 1 ≤ 8 by omega) (Nat.le_of_ble_eq_true rfl) hC (by decide) rfl rfl rfl rfl (Nat.le_of_ble_eq_true rfl) dL_freeze_5 ⟨(Nat.le_of_ble_eq_true rfl), (Nat.le_of_ble_eq_true rfl)⟩ (fun N M9 hx9 => ?_) (fun v M9 hp9 => ?_)
  · have hN := hpx N M9 hx9
    subst hN
    refine j_catch [] ⟨0, 17, 20, 40⟩ [] rfl (by decide +kernel) (fun _ h => absurd h List.not_mem_nil) (by decide +kernel) (by decide) cl_L_40 cast_40 (fun q => ?_)
    refine j_ast_4 dL_freeze_20 (by decide) rfl ?_
    refine j_icN 1 dL_freeze_22 rfl ?_
    exact j_iret dL_freeze_23 rfl rfl (Nat.le_of_ble_eq_true rfl) (Nat.le_of_ble_eq_true rfl) (Or.inr (⟨hx9, rfl⟩))
  · obtain ⟨w, hv⟩ := hpo v M9 hp9
    subst hv
    refine j_ifeq (tgt := 15) dL_freeze_8 (by decide) (fun h8 => ?_) (fun h8 => ?_)
    · have hw : (if w = 0 then 0 else 1 : Int64) = 0 := if_pos h8
      refine j_lc (v := 0) dL_freeze_15 (by decide) ?_
      refine j_astO dL_freeze_16 rfl ?_
      refine j_goto (tgt := 24) dL_freeze_17 (by decide) ?_
      refine j_icN 0 dL_freeze_24 rfl ?_
      exact j_iret dL_freeze_25 rfl rfl (Nat.le_of_ble_eq_true rfl) (Nat.le_of_ble_eq_true rfl) (Or.inl ⟨w, M9, hp9, rfl, by rw [hw]⟩)
    · have hw : (if w = 0 then 0 else 1 : Int64) = 1 := if_neg h8
      refine j_lc (v := 1) dL_freeze_11 (by decide) ?_
      refine j_goto (tgt := 16) dL_freeze_12 (by decide) ?_
      refine j_astO dL_freeze_16 rfl ?_
      refine j_goto (tgt := 24) dL_freeze_17 (by decide) ?_
      refine j_icN 0 dL_freeze_24 rfl ?_
      exact j_iret dL_freeze_25 rfl rfl (Nat.le_of_ble_eq_true rfl) (Nat.le_of_ble_eq_true rfl) (Or.inl ⟨w, M9, hp9, rfl, by rw [hw]⟩)
theorem mw_mate : MfW yL_mate cL_mate 7 (some .int) [(0, 14, 17, 40), (0, 14, 21, 13), (0, 14, 25, 15), (0, 14, 29, 25)] 6 := ⟨⟨by decide +kernel, by decide +kernel, by decide +kernel⟩, (wg5 (i := 55) rfl rfl), (wg1 (i := 0) rfl rfl), (wg5 (i := 56) rfl rfl)⟩
set_option maxRecDepth 100000 in
set_option maxHeartbeats 4000000 in
theorem cw_mate {l : Launch} {E : Ev} {M : Mm} {lv' : Nat} {post : Option Value → Mm → Prop} {px : String → Mm → Prop} {p0 p1 p2 p3 : Int32} (hlv : lv' ≤ 7) (hC : CtX l E yX9_mate cX9_mate 5 (some .int) lv' [.ref (eA E 0 0), .int p0, .int p1, .int p2, .int p3] M post px) (hpx : ∀ N M', px N M' → N = "java/lang/IndexOutOfBoundsException" ∨ N = "java/lang/IllegalArgumentException" ∨ N = "java/lang/UnsupportedOperationException" ∨ N = "java/lang/IllegalStateException") (hpo : ∀ v M', post v M' → ∃ w, v = some (.int w)) : CtW l E yL_mate cL_mate 7 (some .int) [(0, 14, 17, 40), (0, 14, 21, 13), (0, 14, 25, 15), (0, 14, 29, 25)] 8 1 6 [.ref (eA E 0 0), .int p0, .int p1, .int p2, .int p3, .ref (eA E 14 0)] M (fun v M1 => (∃ w M', post (some (.int w)) M' ∧ v = some (.int (nI 0)) ∧ M1 = sW M' 2 w.toInt64) ∨ (px "java/lang/IndexOutOfBoundsException" M1 ∧ v = some (.int (nI 1))) ∨ (px "java/lang/IllegalArgumentException" M1 ∧ v = some (.int (nI 2))) ∨ (px "java/lang/UnsupportedOperationException" M1 ∧ v = some (.int (nI 3))) ∨ (px "java/lang/IllegalStateException" M1 ∧ v = some (.int (nI 4)))) := by
  refine CtW.of (own := RL) rfl [some (.ref (eA E 0 0)), some (.int p0), some (.int p1), some (.int p2), some (.int p3), some (.ref (eA E 14 0)), none] (by decide) (Nat.le_of_ble_eq_true rfl) rfl ?_
  refine j_al dL_mate_0 rfl ?_
  refine j_icN 0 dL_mate_2 rfl ?_
  refine j_aln dL_mate_3 rfl rfl ?_
  refine j_iln dL_mate_4 rfl rfl ?_
  refine j_iln dL_mate_5 rfl rfl ?_
  refine j_iln dL_mate_6 rfl rfl ?_
  refine j_il dL_mate_7 rfl ?_
  refine j_callX (rest := [.int (nI 0), .ref (eA E 14 0)]) mf_X9_mate ml_L_82 (show lv' + 1 ≤ 8 by omega) (Nat.le_of_ble_eq_true rfl) hC (by decide) rfl rfl rfl rfl (Nat.le_of_ble_eq_true rfl) dL_mate_9 ⟨(Nat.le_of_ble_eq_true rfl), (Nat.le_of_ble_eq_true rfl)⟩ (fun N M9 hx9 => ?_) (fun v M9 hp9 => ?_)
  · rcases hpx N M9 hx9 with hN | hN | hN | hN
    · subst hN
      refine j_catch [] ⟨0, 14, 17, 40⟩ [⟨0, 14, 21, 13⟩, ⟨0, 14, 25, 15⟩, ⟨0, 14, 29, 25⟩] rfl (by decide +kernel) (fun _ h => absurd h List.not_mem_nil) (by decide +kernel) (by decide) cl_L_40 cast_40 (fun q => ?_)
      refine j_ast_6 dL_mate_17 (by decide) rfl ?_
      refine j_icN 1 dL_mate_19 rfl ?_
      exact j_iret dL_mate_20 rfl rfl (Nat.le_of_ble_eq_true rfl) (Nat.le_of_ble_eq_true rfl) (Or.inr (Or.inl ⟨hx9, rfl⟩))
    · subst hN
      refine j_catch [⟨0, 14, 17, 40⟩] ⟨0, 14, 21, 13⟩ [⟨0, 14, 25, 15⟩, ⟨0, 14, 29, 25⟩] rfl (by decide +kernel) (List.forall_mem_cons.mpr ⟨⟨by decide, "java/lang/IndexOutOfBoundsException", by decide +kernel, by decide +kernel, cl_L_40⟩, (fun _ h => absurd h List.not_mem_nil)⟩) (by decide +kernel) (by decide) cl_L_13 cast_13 (fun q => ?_)
      refine j_ast_6 dL_mate_21 (by decide) rfl ?_
      refine j_icN 2 dL_mate_23 rfl ?_
      exact j_iret dL_mate_24 rfl rfl (Nat.le_of_ble_eq_true rfl) (Nat.le_of_ble_eq_true rfl) (Or.inr (Or.inr (Or.inl ⟨hx9, rfl⟩)))
    · subst hN
      refine j_catch [⟨0, 14, 17, 40⟩, ⟨0, 14, 21, 13⟩] ⟨0, 14, 25, 15⟩ [⟨0, 14, 29, 25⟩] rfl (by decide +kernel) (List.forall_mem_cons.mpr ⟨⟨by decide, "java/lang/IndexOutOfBoundsException", by decide +kernel, by decide +kernel, cl_L_40⟩, (List.forall_mem_cons.mpr ⟨⟨by decide, "java/lang/IllegalArgumentException", by decide +kernel, by decide +kernel, cl_L_13⟩, (fun _ h => absurd h List.not_mem_nil)⟩)⟩) (by decide +kernel) (by decide) cl_L_15 cast_15 (fun q => ?_)
      refine j_ast_6 dL_mate_25 (by decide) rfl ?_
      refine j_icN 3 dL_mate_27 rfl ?_
      exact j_iret dL_mate_28 rfl rfl (Nat.le_of_ble_eq_true rfl) (Nat.le_of_ble_eq_true rfl) (Or.inr (Or.inr (Or.inr (Or.inl ⟨hx9, rfl⟩))))
    · subst hN
      refine j_catch [⟨0, 14, 17, 40⟩, ⟨0, 14, 21, 13⟩, ⟨0, 14, 25, 15⟩] ⟨0, 14, 29, 25⟩ [] rfl (by decide +kernel) (List.forall_mem_cons.mpr ⟨⟨by decide, "java/lang/IndexOutOfBoundsException", by decide +kernel, by decide +kernel, cl_L_40⟩, (List.forall_mem_cons.mpr ⟨⟨by decide, "java/lang/IllegalArgumentException", by decide +kernel, by decide +kernel, cl_L_13⟩, (List.forall_mem_cons.mpr ⟨⟨by decide, "java/lang/UnsupportedOperationException", by decide +kernel, by decide +kernel, cl_L_15⟩, (fun _ h => absurd h List.not_mem_nil)⟩)⟩)⟩) (by decide +kernel) (by decide) cl_L_25 cast_25 (fun q => ?_)
      refine j_ast_6 dL_mate_29 (by decide) rfl ?_
      refine j_icN 4 dL_mate_31 rfl ?_
      exact j_iret dL_mate_32 rfl rfl (Nat.le_of_ble_eq_true rfl) (Nat.le_of_ble_eq_true rfl) (Or.inr (Or.inr (Or.inr (Or.inr (⟨hx9, rfl⟩)))))
  · obtain ⟨w, hv⟩ := hpo v M9 hp9
    subst hv
    refine j_i2l dL_mate_12 ?_
    refine j_astO dL_mate_13 rfl ?_
    refine j_goto (tgt := 33) dL_mate_14 (by decide) ?_
    refine j_icN 0 dL_mate_33 rfl ?_
    exact j_iret dL_mate_34 rfl rfl (Nat.le_of_ble_eq_true rfl) (Nat.le_of_ble_eq_true rfl) (Or.inl ⟨w, M9, hp9, rfl, rfl⟩)
theorem mw_drag : MfW yL_drag cL_drag 6 (some .int) [(0, 12, 15, 40), (0, 12, 19, 13), (0, 12, 23, 15)] 5 := ⟨⟨by decide +kernel, by decide +kernel, by decide +kernel⟩, (wg5 (i := 85) rfl rfl), (wg1 (i := 0) rfl rfl), (wg5 (i := 86) rfl rfl)⟩
set_option maxRecDepth 100000 in
set_option maxHeartbeats 4000000 in
theorem cw_drag {l : Launch} {E : Ev} {M : Mm} {lv' : Nat} {post : Option Value → Mm → Prop} {px : String → Mm → Prop} {p0 p1 p2 : Int32} (hlv : lv' ≤ 7) (hC : CtX l E yX9_drag cX9_drag 4 (some .int) lv' [.ref (eA E 0 0), .int p0, .int p1, .int p2] M post px) (hpx : ∀ N M', px N M' → N = "java/lang/IndexOutOfBoundsException" ∨ N = "java/lang/IllegalArgumentException" ∨ N = "java/lang/UnsupportedOperationException") (hpo : ∀ v M', post v M' → ∃ w, v = some (.int w)) : CtW l E yL_drag cL_drag 6 (some .int) [(0, 12, 15, 40), (0, 12, 19, 13), (0, 12, 23, 15)] 8 1 6 [.ref (eA E 0 0), .int p0, .int p1, .int p2, .ref (eA E 14 0)] M (fun v M1 => (∃ w M', post (some (.int w)) M' ∧ v = some (.int (nI 0)) ∧ M1 = sW M' 2 w.toInt64) ∨ (px "java/lang/IndexOutOfBoundsException" M1 ∧ v = some (.int (nI 1))) ∨ (px "java/lang/IllegalArgumentException" M1 ∧ v = some (.int (nI 2))) ∨ (px "java/lang/UnsupportedOperationException" M1 ∧ v = some (.int (nI 3)))) := by
  refine CtW.of (own := RL) rfl [some (.ref (eA E 0 0)), some (.int p0), some (.int p1), some (.int p2), some (.ref (eA E 14 0)), none] (by decide) (Nat.le_of_ble_eq_true rfl) rfl ?_
  refine j_al dL_drag_0 rfl ?_
  refine j_icN 0 dL_drag_2 rfl ?_
  refine j_aln dL_drag_3 rfl rfl ?_
  refine j_iln dL_drag_4 rfl rfl ?_
  refine j_iln dL_drag_5 rfl rfl ?_
  refine j_iln dL_drag_6 rfl rfl ?_
  refine j_callX (rest := [.int (nI 0), .ref (eA E 14 0)]) mf_X9_drag ml_L_85 (show lv' + 1 ≤ 8 by omega) (Nat.le_of_ble_eq_true rfl) hC (by decide) rfl rfl rfl rfl (Nat.le_of_ble_eq_true rfl) dL_drag_7 ⟨(Nat.le_of_ble_eq_true rfl), (Nat.le_of_ble_eq_true rfl)⟩ (fun N M9 hx9 => ?_) (fun v M9 hp9 => ?_)
  · rcases hpx N M9 hx9 with hN | hN | hN
    · subst hN
      refine j_catch [] ⟨0, 12, 15, 40⟩ [⟨0, 12, 19, 13⟩, ⟨0, 12, 23, 15⟩] rfl (by decide +kernel) (fun _ h => absurd h List.not_mem_nil) (by decide +kernel) (by decide) cl_L_40 cast_40 (fun q => ?_)
      refine j_ast_5 dL_drag_15 (by decide) rfl ?_
      refine j_icN 1 dL_drag_17 rfl ?_
      exact j_iret dL_drag_18 rfl rfl (Nat.le_of_ble_eq_true rfl) (Nat.le_of_ble_eq_true rfl) (Or.inr (Or.inl ⟨hx9, rfl⟩))
    · subst hN
      refine j_catch [⟨0, 12, 15, 40⟩] ⟨0, 12, 19, 13⟩ [⟨0, 12, 23, 15⟩] rfl (by decide +kernel) (List.forall_mem_cons.mpr ⟨⟨by decide, "java/lang/IndexOutOfBoundsException", by decide +kernel, by decide +kernel, cl_L_40⟩, (fun _ h => absurd h List.not_mem_nil)⟩) (by decide +kernel) (by decide) cl_L_13 cast_13 (fun q => ?_)
      refine j_ast_5 dL_drag_19 (by decide) rfl ?_
      refine j_icN 2 dL_drag_21 rfl ?_
      exact j_iret dL_drag_22 rfl rfl (Nat.le_of_ble_eq_true rfl) (Nat.le_of_ble_eq_true rfl) (Or.inr (Or.inr (Or.inl ⟨hx9, rfl⟩)))
    · subst hN
      refine j_catch [⟨0, 12, 15, 40⟩, ⟨0, 12, 19, 13⟩] ⟨0, 12, 23, 15⟩ [] rfl (by decide +kernel) (List.forall_mem_cons.mpr ⟨⟨by decide, "java/lang/IndexOutOfBoundsException", by decide +kernel, by decide +kernel, cl_L_40⟩, (List.forall_mem_cons.mpr ⟨⟨by decide, "java/lang/IllegalArgumentException", by decide +kernel, by decide +kernel, cl_L_13⟩, (fun _ h => absurd h List.not_mem_nil)⟩)⟩) (by decide +kernel) (by decide) cl_L_15 cast_15 (fun q => ?_)
      refine j_ast_5 dL_drag_23 (by decide) rfl ?_
      refine j_icN 3 dL_drag_25 rfl ?_
      exact j_iret dL_drag_26 rfl rfl (Nat.le_of_ble_eq_true rfl) (Nat.le_of_ble_eq_true rfl) (Or.inr (Or.inr (Or.inr (⟨hx9, rfl⟩))))
  · obtain ⟨w, hv⟩ := hpo v M9 hp9
    subst hv
    refine j_i2l dL_drag_10 ?_
    refine j_astO dL_drag_11 rfl ?_
    refine j_goto (tgt := 27) dL_drag_12 (by decide) ?_
    refine j_icN 0 dL_drag_27 rfl ?_
    exact j_iret dL_drag_28 rfl rfl (Nat.le_of_ble_eq_true rfl) (Nat.le_of_ble_eq_true rfl) (Or.inl ⟨w, M9, hp9, rfl, rfl⟩)
theorem mw_moved : MfW yL_moved cL_moved 5 (some .int) [(0, 10, 13, 40), (0, 10, 17, 13)] 4 := ⟨⟨by decide +kernel, by decide +kernel, by decide +kernel⟩, (wg5 (i := 96) rfl rfl), (wg1 (i := 0) rfl rfl), (wg5 (i := 97) rfl rfl)⟩
set_option maxRecDepth 100000 in
set_option maxHeartbeats 4000000 in
theorem cw_moved {l : Launch} {E : Ev} {M : Mm} {lv' : Nat} {post : Option Value → Mm → Prop} {px : String → Mm → Prop} {p0 p1 : Int32} (hlv : lv' ≤ 7) (hC : CtX l E yX9_moved cX9_moved 3 (some .int) lv' [.ref (eA E 0 0), .int p0, .int p1] M post px) (hpx : ∀ N M', px N M' → N = "java/lang/IndexOutOfBoundsException" ∨ N = "java/lang/IllegalArgumentException") (hpo : ∀ v M', post v M' → ∃ w, v = some (.int w)) : CtW l E yL_moved cL_moved 5 (some .int) [(0, 10, 13, 40), (0, 10, 17, 13)] 8 1 6 [.ref (eA E 0 0), .int p0, .int p1, .ref (eA E 14 0)] M (fun v M1 => (∃ w M', post (some (.int w)) M' ∧ v = some (.int (nI 0)) ∧ M1 = sW M' 2 w.toInt64) ∨ (px "java/lang/IndexOutOfBoundsException" M1 ∧ v = some (.int (nI 1))) ∨ (px "java/lang/IllegalArgumentException" M1 ∧ v = some (.int (nI 2)))) := by
  refine CtW.of (own := RL) rfl [some (.ref (eA E 0 0)), some (.int p0), some (.int p1), some (.ref (eA E 14 0)), none] (by decide) (Nat.le_of_ble_eq_true rfl) rfl ?_
  refine j_aln dL_moved_0 rfl rfl ?_
  refine j_icN 0 dL_moved_1 rfl ?_
  refine j_aln dL_moved_2 rfl rfl ?_
  refine j_iln dL_moved_3 rfl rfl ?_
  refine j_iln dL_moved_4 rfl rfl ?_
  refine j_callX (rest := [.int (nI 0), .ref (eA E 14 0)]) mf_X9_moved ml_L_88 (show lv' + 1 ≤ 8 by omega) (Nat.le_of_ble_eq_true rfl) hC (by decide) rfl rfl rfl rfl (Nat.le_of_ble_eq_true rfl) dL_moved_5 ⟨(Nat.le_of_ble_eq_true rfl), (Nat.le_of_ble_eq_true rfl)⟩ (fun N M9 hx9 => ?_) (fun v M9 hp9 => ?_)
  · rcases hpx N M9 hx9 with hN | hN
    · subst hN
      refine j_catch [] ⟨0, 10, 13, 40⟩ [⟨0, 10, 17, 13⟩] rfl (by decide +kernel) (fun _ h => absurd h List.not_mem_nil) (by decide +kernel) (by decide) cl_L_40 cast_40 (fun q => ?_)
      refine j_ast_4 dL_moved_13 (by decide) rfl ?_
      refine j_icN 1 dL_moved_15 rfl ?_
      exact j_iret dL_moved_16 rfl rfl (Nat.le_of_ble_eq_true rfl) (Nat.le_of_ble_eq_true rfl) (Or.inr (Or.inl ⟨hx9, rfl⟩))
    · subst hN
      refine j_catch [⟨0, 10, 13, 40⟩] ⟨0, 10, 17, 13⟩ [] rfl (by decide +kernel) (List.forall_mem_cons.mpr ⟨⟨by decide, "java/lang/IndexOutOfBoundsException", by decide +kernel, by decide +kernel, cl_L_40⟩, (fun _ h => absurd h List.not_mem_nil)⟩) (by decide +kernel) (by decide) cl_L_13 cast_13 (fun q => ?_)
      refine j_ast_4 dL_moved_17 (by decide) rfl ?_
      refine j_icN 2 dL_moved_19 rfl ?_
      exact j_iret dL_moved_20 rfl rfl (Nat.le_of_ble_eq_true rfl) (Nat.le_of_ble_eq_true rfl) (Or.inr (Or.inr (⟨hx9, rfl⟩)))
  · obtain ⟨w, hv⟩ := hpo v M9 hp9
    subst hv
    refine j_i2l dL_moved_8 ?_
    refine j_astO dL_moved_9 rfl ?_
    refine j_goto (tgt := 21) dL_moved_10 (by decide) ?_
    refine j_icN 0 dL_moved_21 rfl ?_
    exact j_iret dL_moved_22 rfl rfl (Nat.le_of_ble_eq_true rfl) (Nat.le_of_ble_eq_true rfl) (Or.inl ⟨w, M9, hp9, rfl, rfl⟩)
theorem mw_clashes : MfW yL_clashes cL_clashes 5 (some .int) [(0, 10, 13, 40), (0, 10, 17, 13)] 4 := ⟨⟨by decide +kernel, by decide +kernel, by decide +kernel⟩, (wg5 (i := 104) rfl rfl), (wg1 (i := 0) rfl rfl), (wg5 (i := 105) rfl rfl)⟩
set_option maxRecDepth 100000 in
set_option maxHeartbeats 4000000 in
theorem cw_clashes {l : Launch} {E : Ev} {M : Mm} {lv' : Nat} {post : Option Value → Mm → Prop} {px : String → Mm → Prop} {p0 p1 : Int32} (hlv : lv' ≤ 7) (hC : CtX l E yX9_clashes cX9_clashes 3 (some .int) lv' [.ref (eA E 0 0), .int p0, .int p1] M post px) (hpx : ∀ N M', px N M' → N = "java/lang/IndexOutOfBoundsException" ∨ N = "java/lang/IllegalArgumentException") (hpo : ∀ v M', post v M' → ∃ w, v = some (.int w)) : CtW l E yL_clashes cL_clashes 5 (some .int) [(0, 10, 13, 40), (0, 10, 17, 13)] 8 1 6 [.ref (eA E 0 0), .int p0, .int p1, .ref (eA E 14 0)] M (fun v M1 => (∃ w M', post (some (.int w)) M' ∧ v = some (.int (nI 0)) ∧ M1 = sW M' 2 w.toInt64) ∨ (px "java/lang/IndexOutOfBoundsException" M1 ∧ v = some (.int (nI 1))) ∨ (px "java/lang/IllegalArgumentException" M1 ∧ v = some (.int (nI 2)))) := by
  refine CtW.of (own := RL) rfl [some (.ref (eA E 0 0)), some (.int p0), some (.int p1), some (.ref (eA E 14 0)), none] (by decide) (Nat.le_of_ble_eq_true rfl) rfl ?_
  refine j_aln dL_clashes_0 rfl rfl ?_
  refine j_icN 0 dL_clashes_1 rfl ?_
  refine j_aln dL_clashes_2 rfl rfl ?_
  refine j_iln dL_clashes_3 rfl rfl ?_
  refine j_iln dL_clashes_4 rfl rfl ?_
  refine j_callX (rest := [.int (nI 0), .ref (eA E 14 0)]) mf_X9_clashes ml_L_91 (show lv' + 1 ≤ 8 by omega) (Nat.le_of_ble_eq_true rfl) hC (by decide) rfl rfl rfl rfl (Nat.le_of_ble_eq_true rfl) dL_clashes_5 ⟨(Nat.le_of_ble_eq_true rfl), (Nat.le_of_ble_eq_true rfl)⟩ (fun N M9 hx9 => ?_) (fun v M9 hp9 => ?_)
  · rcases hpx N M9 hx9 with hN | hN
    · subst hN
      refine j_catch [] ⟨0, 10, 13, 40⟩ [⟨0, 10, 17, 13⟩] rfl (by decide +kernel) (fun _ h => absurd h List.not_mem_nil) (by decide +kernel) (by decide) cl_L_40 cast_40 (fun q => ?_)
      refine j_ast_4 dL_clashes_13 (by decide) rfl ?_
      refine j_icN 1 dL_clashes_15 rfl ?_
      exact j_iret dL_clashes_16 rfl rfl (Nat.le_of_ble_eq_true rfl) (Nat.le_of_ble_eq_true rfl) (Or.inr (Or.inl ⟨hx9, rfl⟩))
    · subst hN
      refine j_catch [⟨0, 10, 13, 40⟩] ⟨0, 10, 17, 13⟩ [] rfl (by decide +kernel) (List.forall_mem_cons.mpr ⟨⟨by decide, "java/lang/IndexOutOfBoundsException", by decide +kernel, by decide +kernel, cl_L_40⟩, (fun _ h => absurd h List.not_mem_nil)⟩) (by decide +kernel) (by decide) cl_L_13 cast_13 (fun q => ?_)
      refine j_ast_4 dL_clashes_17 (by decide) rfl ?_
      refine j_icN 2 dL_clashes_19 rfl ?_
      exact j_iret dL_clashes_20 rfl rfl (Nat.le_of_ble_eq_true rfl) (Nat.le_of_ble_eq_true rfl) (Or.inr (Or.inr (⟨hx9, rfl⟩)))
  · obtain ⟨w, hv⟩ := hpo v M9 hp9
    subst hv
    refine j_i2l dL_clashes_8 ?_
    refine j_astO dL_clashes_9 rfl ?_
    refine j_goto (tgt := 21) dL_clashes_10 (by decide) ?_
    refine j_icN 0 dL_clashes_21 rfl ?_
    exact j_iret dL_clashes_22 rfl rfl (Nat.le_of_ble_eq_true rfl) (Nat.le_of_ble_eq_true rfl) (Or.inl ⟨w, M9, hp9, rfl, rfl⟩)
theorem mw_depth : MfW yL_depth cL_depth 7 (some .int) [(0, 14, 17, 13), (0, 14, 21, 40)] 6 := ⟨⟨by decide +kernel, by decide +kernel, by decide +kernel⟩, (wg5 (i := 118) rfl rfl), (wg1 (i := 0) rfl rfl), (wg5 (i := 119) rfl rfl)⟩
set_option maxRecDepth 100000 in
set_option maxHeartbeats 4000000 in
theorem cw_depth {l : Launch} {E : Ev} {M : Mm} {lv' : Nat} {post : Option Value → Mm → Prop} {px : String → Mm → Prop} {p0 p1 p2 p3 : Int32} (hlv : lv' ≤ 7) (hC : CtX l E yX9_depth cX9_depth 5 (some .int) lv' [.ref (eA E 0 0), .int p0, .int p1, .int p2, .int p3] M post px) (hpx : ∀ N M', px N M' → N = "java/lang/IllegalArgumentException" ∨ N = "java/lang/IndexOutOfBoundsException") (hpo : ∀ v M', post v M' → ∃ w, v = some (.int w)) : CtW l E yL_depth cL_depth 7 (some .int) [(0, 14, 17, 13), (0, 14, 21, 40)] 8 1 6 [.ref (eA E 0 0), .int p0, .int p1, .int p2, .int p3, .ref (eA E 14 0)] M (fun v M1 => (∃ w M', post (some (.int w)) M' ∧ v = some (.int (nI 0)) ∧ M1 = sW M' 2 w.toInt64) ∨ (px "java/lang/IllegalArgumentException" M1 ∧ v = some (.int (nI 1))) ∨ (px "java/lang/IndexOutOfBoundsException" M1 ∧ v = some (.int (nI 2)))) := by
  refine CtW.of (own := RL) rfl [some (.ref (eA E 0 0)), some (.int p0), some (.int p1), some (.int p2), some (.int p3), some (.ref (eA E 14 0)), none] (by decide) (Nat.le_of_ble_eq_true rfl) rfl ?_
  refine j_al dL_depth_0 rfl ?_
  refine j_icN 0 dL_depth_2 rfl ?_
  refine j_aln dL_depth_3 rfl rfl ?_
  refine j_iln dL_depth_4 rfl rfl ?_
  refine j_iln dL_depth_5 rfl rfl ?_
  refine j_iln dL_depth_6 rfl rfl ?_
  refine j_il dL_depth_7 rfl ?_
  refine j_callX (rest := [.int (nI 0), .ref (eA E 14 0)]) mf_X9_depth ml_L_94 (show lv' + 1 ≤ 8 by omega) (Nat.le_of_ble_eq_true rfl) hC (by decide) rfl rfl rfl rfl (Nat.le_of_ble_eq_true rfl) dL_depth_9 ⟨(Nat.le_of_ble_eq_true rfl), (Nat.le_of_ble_eq_true rfl)⟩ (fun N M9 hx9 => ?_) (fun v M9 hp9 => ?_)
  · rcases hpx N M9 hx9 with hN | hN
    · subst hN
      refine j_catch [] ⟨0, 14, 17, 13⟩ [⟨0, 14, 21, 40⟩] rfl (by decide +kernel) (fun _ h => absurd h List.not_mem_nil) (by decide +kernel) (by decide) cl_L_13 cast_13 (fun q => ?_)
      refine j_ast_6 dL_depth_17 (by decide) rfl ?_
      refine j_icN 1 dL_depth_19 rfl ?_
      exact j_iret dL_depth_20 rfl rfl (Nat.le_of_ble_eq_true rfl) (Nat.le_of_ble_eq_true rfl) (Or.inr (Or.inl ⟨hx9, rfl⟩))
    · subst hN
      refine j_catch [⟨0, 14, 17, 13⟩] ⟨0, 14, 21, 40⟩ [] rfl (by decide +kernel) (List.forall_mem_cons.mpr ⟨⟨by decide, "java/lang/IllegalArgumentException", by decide +kernel, by decide +kernel, cl_L_13⟩, (fun _ h => absurd h List.not_mem_nil)⟩) (by decide +kernel) (by decide) cl_L_40 cast_40 (fun q => ?_)
      refine j_ast_6 dL_depth_21 (by decide) rfl ?_
      refine j_icN 2 dL_depth_23 rfl ?_
      exact j_iret dL_depth_24 rfl rfl (Nat.le_of_ble_eq_true rfl) (Nat.le_of_ble_eq_true rfl) (Or.inr (Or.inr (⟨hx9, rfl⟩)))
  · obtain ⟨w, hv⟩ := hpo v M9 hp9
    subst hv
    refine j_i2l dL_depth_12 ?_
    refine j_astO dL_depth_13 rfl ?_
    refine j_goto (tgt := 25) dL_depth_14 (by decide) ?_
    refine j_icN 0 dL_depth_25 rfl ?_
    exact j_iret dL_depth_26 rfl rfl (Nat.le_of_ble_eq_true rfl) (Nat.le_of_ble_eq_true rfl) (Or.inl ⟨w, M9, hp9, rfl, rfl⟩)
theorem mw_lines : MfW yL_lines cL_lines 5 (some .int) [(0, 10, 13, 13)] 4 := ⟨⟨by decide +kernel, by decide +kernel, by decide +kernel⟩, (wg5 (i := 130) rfl rfl), (wg1 (i := 0) rfl rfl), (wg5 (i := 131) rfl rfl)⟩
set_option maxRecDepth 100000 in
set_option maxHeartbeats 4000000 in
theorem cw_lines {l : Launch} {E : Ev} {M : Mm} {lv' : Nat} {post : Option Value → Mm → Prop} {px : String → Mm → Prop} {p0 p1 : Int32} (hlv : lv' ≤ 7) (hC : CtX l E yX9_lines cX9_lines 3 (some .int) lv' [.ref (eA E 0 0), .int p0, .int p1] M post px) (hpx : ∀ N M', px N M' → N = "java/lang/IllegalArgumentException") (hpo : ∀ v M', post v M' → ∃ w, v = some (.int w)) : CtW l E yL_lines cL_lines 5 (some .int) [(0, 10, 13, 13)] 8 1 6 [.ref (eA E 0 0), .int p0, .int p1, .ref (eA E 14 0)] M (fun v M1 => (∃ w M', post (some (.int w)) M' ∧ v = some (.int (nI 0)) ∧ M1 = sW M' 2 w.toInt64) ∨ (px "java/lang/IllegalArgumentException" M1 ∧ v = some (.int (nI 1)))) := by
  refine CtW.of (own := RL) rfl [some (.ref (eA E 0 0)), some (.int p0), some (.int p1), some (.ref (eA E 14 0)), none] (by decide) (Nat.le_of_ble_eq_true rfl) rfl ?_
  refine j_aln dL_lines_0 rfl rfl ?_
  refine j_icN 0 dL_lines_1 rfl ?_
  refine j_aln dL_lines_2 rfl rfl ?_
  refine j_iln dL_lines_3 rfl rfl ?_
  refine j_iln dL_lines_4 rfl rfl ?_
  refine j_callX (rest := [.int (nI 0), .ref (eA E 14 0)]) mf_X9_lines ml_L_98 (show lv' + 1 ≤ 8 by omega) (Nat.le_of_ble_eq_true rfl) hC (by decide) rfl rfl rfl rfl (Nat.le_of_ble_eq_true rfl) dL_lines_5 ⟨(Nat.le_of_ble_eq_true rfl), (Nat.le_of_ble_eq_true rfl)⟩ (fun N M9 hx9 => ?_) (fun v M9 hp9 => ?_)
  · have hN := hpx N M9 hx9
    subst hN
    refine j_catch [] ⟨0, 10, 13, 13⟩ [] rfl (by decide +kernel) (fun _ h => absurd h List.not_mem_nil) (by decide +kernel) (by decide) cl_L_13 cast_13 (fun q => ?_)
    refine j_ast_4 dL_lines_13 (by decide) rfl ?_
    refine j_icN 1 dL_lines_15 rfl ?_
    exact j_iret dL_lines_16 rfl rfl (Nat.le_of_ble_eq_true rfl) (Nat.le_of_ble_eq_true rfl) (Or.inr (⟨hx9, rfl⟩))
  · obtain ⟨w, hv⟩ := hpo v M9 hp9
    subst hv
    refine j_i2l dL_lines_8 ?_
    refine j_astO dL_lines_9 rfl ?_
    refine j_goto (tgt := 17) dL_lines_10 (by decide) ?_
    refine j_icN 0 dL_lines_17 rfl ?_
    exact j_iret dL_lines_18 rfl rfl (Nat.le_of_ble_eq_true rfl) (Nat.le_of_ble_eq_true rfl) (Or.inl ⟨w, M9, hp9, rfl, rfl⟩)
