/-! the law's call: what is thrown becomes a number -/
def hhL : List (Nat × Nat × Nat × Nat) := [(0, 115, 371, 92), (116, 121, 371, 92), (122, 133, 371, 92), (134, 144, 371, 92), (145, 150, 371, 92), (151, 157, 371, 92), (158, 181, 371, 92), (182, 187, 371, 92), (188, 193, 371, 92), (194, 199, 371, 92), (200, 216, 371, 92), (217, 233, 371, 92), (234, 244, 371, 92), (245, 251, 371, 92), (252, 260, 371, 92), (261, 284, 371, 92), (285, 295, 371, 92), (296, 304, 371, 92), (305, 311, 371, 92), (312, 318, 371, 92), (319, 338, 371, 92), (339, 354, 371, 92), (355, 370, 371, 92), (0, 115, 377, 94), (116, 121, 377, 94), (122, 133, 377, 94), (134, 144, 377, 94), (145, 150, 377, 94), (151, 157, 377, 94), (158, 181, 377, 94), (182, 187, 377, 94), (188, 193, 377, 94), (194, 199, 377, 94), (200, 216, 377, 94), (217, 233, 377, 94), (234, 244, 377, 94), (245, 251, 377, 94), (252, 260, 377, 94), (261, 284, 377, 94), (285, 295, 377, 94), (296, 304, 377, 94), (305, 311, 377, 94), (312, 318, 377, 94), (319, 338, 377, 94), (339, 354, 377, 94), (355, 370, 377, 94), (0, 115, 383, 96), (116, 121, 383, 96), (122, 133, 383, 96), (134, 144, 383, 96), (145, 150, 383, 96), (151, 157, 383, 96), (158, 181, 383, 96), (182, 187, 383, 96), (188, 193, 383, 96), (194, 199, 383, 96), (200, 216, 383, 96), (217, 233, 383, 96), (234, 244, 383, 96), (245, 251, 383, 96), (252, 260, 383, 96), (261, 284, 383, 96), (285, 295, 383, 96), (296, 304, 383, 96), (305, 311, 383, 96), (312, 318, 383, 96), (319, 338, 383, 96), (339, 354, 383, 96), (355, 370, 383, 96), (0, 115, 389, 98), (116, 121, 389, 98), (122, 133, 389, 98), (134, 144, 389, 98), (145, 150, 389, 98), (151, 157, 389, 98), (158, 181, 389, 98), (182, 187, 389, 98), (188, 193, 389, 98), (194, 199, 389, 98), (200, 216, 389, 98), (217, 233, 389, 98), (234, 244, 389, 98), (245, 251, 389, 98), (252, 260, 389, 98), (261, 284, 389, 98), (285, 295, 389, 98), (296, 304, 389, 98), (305, 311, 389, 98), (312, 318, 389, 98), (319, 338, 389, 98), (339, 354, 389, 98), (355, 370, 389, 98), (0, 115, 395, 100), (116, 121, 395, 100), (122, 133, 395, 100), (134, 144, 395, 100), (145, 150, 395, 100), (151, 157, 395, 100), (158, 181, 395, 100), (182, 187, 395, 100), (188, 193, 395, 100), (194, 199, 395, 100), (200, 216, 395, 100), (217, 233, 395, 100), (234, 244, 395, 100), (245, 251, 395, 100), (252, 260, 395, 100), (261, 284, 395, 100), (285, 295, 395, 100), (296, 304, 395, 100), (305, 311, 395, 100), (312, 318, 395, 100), (319, 338, 395, 100), (339, 354, 395, 100), (355, 370, 395, 100), (0, 115, 401, 102), (116, 121, 401, 102), (122, 133, 401, 102), (134, 144, 401, 102), (145, 150, 401, 102), (151, 157, 401, 102), (158, 181, 401, 102), (182, 187, 401, 102), (188, 193, 401, 102), (194, 199, 401, 102), (200, 216, 401, 102), (217, 233, 401, 102), (234, 244, 401, 102), (245, 251, 401, 102), (252, 260, 401, 102), (261, 284, 401, 102), (285, 295, 401, 102), (296, 304, 401, 102), (305, 311, 401, 102), (312, 318, 401, 102), (319, 338, 401, 102), (339, 354, 401, 102), (355, 370, 401, 102)]
def MfW (y : MethodName) (cc : ByteArray) (nL : Nat) (ret : Option FieldType) (hh : List (Nat × Nat × Nat × Nat)) (a : Nat) : Prop :=
  (y.cls ≠ "java/lang/invoke/MethodHandle" ∧ y.cls ≠ "java/lang/invoke/VarHandle" ∧ (parseMethodDescriptor y.desc).map (fun d => d.parameters.length) = some a) ∧ Cond.static y ∈ wsG ∧ Cond.initialized y.cls ∈ wsG ∧ Cond.codeWith y cc nL ret hh ∈ wsG
set_option maxRecDepth 100000 in
theorem mw_call : MfW yL_call cL_call 7 (some .int) hhL 6 := ⟨⟨by decide +kernel, by decide +kernel, by decide +kernel⟩, (wg2 (i := 25) rfl rfl), (wg1 (i := 0) rfl rfl), (wg2 (i := 26) rfl rfl)⟩
def xcd (N : String) : Int32 := if N = "java/lang/IndexOutOfBoundsException" then -1001 else if N = "java/lang/IllegalArgumentException" then -1002 else if N = "java/lang/IllegalStateException" then -1003 else if N = "java/lang/UnsupportedOperationException" then -1004 else if N = "java/util/NoSuchElementException" then -1005 else -1006
def hpN (N : String) : Nat := if N = "java/lang/IndexOutOfBoundsException" then 371 else if N = "java/lang/IllegalArgumentException" then 377 else if N = "java/lang/IllegalStateException" then 383 else if N = "java/lang/UnsupportedOperationException" then 389 else if N = "java/util/NoSuchElementException" then 395 else 401
def lkN (t : Nat) : String := if t = 92 then "java/lang/IndexOutOfBoundsException" else if t = 94 then "java/lang/IllegalArgumentException" else if t = 96 then "java/lang/IllegalStateException" else if t = 98 then "java/lang/UnsupportedOperationException" else if t = 100 then "java/util/NoSuchElementException" else "java/lang/ArithmeticException"
def lkT : List Nat := [92, 94, 96, 98, 100, 102]
theorem lkT_ok : ∀ t ∈ lkT, t ≠ 0 ∧ lkN t ∈ exC ∧ Cond.classLink RL t (lkN t) ∈ wsG := by
  intro t h
  simp only [lkT, List.mem_cons, List.not_mem_nil, or_false] at h
  rcases h with rfl | rfl | rfl | rfl | rfl | rfl
  · exact ⟨by decide, by decide +kernel, cl_L_92⟩
  · exact ⟨by decide, by decide +kernel, cl_L_94⟩
  · exact ⟨by decide, by decide +kernel, cl_L_96⟩
  · exact ⟨by decide, by decide +kernel, cl_L_98⟩
  · exact ⟨by decide, by decide +kernel, cl_L_100⟩
  · exact ⟨by decide, by decide +kernel, cl_L_102⟩
theorem cast_all : ∀ N ∈ exC, Cond.castable N N ∈ badS := by decide +kernel
theorem split_at {α : Type} {l : List α} {i : Nat} {x : α} (h : l[i]? = some x) : l = l.take i ++ x :: l.drop (i + 1) := by
  have hi := (List.getElem?_eq_some_iff.mp h)
  obtain ⟨hi, e⟩ := hi
  conv => lhs; rw [← List.take_append_drop i l]
  rw [List.drop_eq_getElem_cons hi, e]
/-- where an exception of this class thrown at pc is caught -/
def ckX (pc : Nat) (N : String) : Bool := match (tableOf hhL).findIdx? (fun z => covers z pc && decide (lkN z.catchType = N)) with
  | none => false
  | some i => match (tableOf hhL)[i]? with
    | none => false
    | some x => ((tableOf hhL).take i).all (fun z => !covers z pc || (decide (z.catchType ∈ lkT) && decide (¬ N = lkN z.catchType))) && (covers x pc && (decide (x.catchType ∈ lkT) && (decide (lkN x.catchType = N) && decide (x.handlerPc = hpN N))))
section CL
variable {l : Launch} {E : Ev} {R : Room} {Qf : List Frame → Array Value → State → State → Prop} {k n : Nat} {pc : Nat} {ls : List (Option Value)} {st : List Value} {M : Mm}
theorem j_catchL {N : String} (hN : N ∈ exC) (hck : ckX pc N = true) (kk : ∀ q : Nat, Jd l E RL cL_call 7 (some .int) (tableOf hhL) R Qf k n (hpN N) ls [.ref q] M) : Jx l E RL cL_call 7 (some .int) (tableOf hhL) R Qf k n pc ls st M N := by
  unfold ckX at hck
  split at hck
  · exact absurd hck (by decide)
  · rename_i i hi
    split at hck
    · exact absurd hck (by decide)
    · rename_i x hx
      simp only [Bool.and_eq_true] at hck
      obtain ⟨h1, h2, h3, h4, h5⟩ := hck
      have h3 := of_decide_eq_true h3
      have h4 := of_decide_eq_true h4
      have h5 := of_decide_eq_true h5
      obtain ⟨t1, t2, t3⟩ := lkT_ok _ h3
      intro p e s m args below meth c C H locs lsr q ce hP hS hl hce hv hcl
      obtain ⟨hx9, hb, hr, hml, hown, hts, hlk, hK, hB, hE, hX, htb⟩ := id C
      obtain ⟨hU, hNN, hbad, hnc, hstr, hki, hkx, hfm, hcs⟩ := id hX
      have kk9 := kk q p e s m args below meth c C H locs lsr hP hS hl
      rw [← h5] at kk9
      refine vx_catch hown ((tableOf hhL).take i) x ((tableOf hhL).drop (i + 1)) (by rw [htb]; exact split_at hx) (fun z hz => ?_) (show covers x pc = true from Bool.and_eq_true_iff.mpr h2) t1 (hts _ (h4 ▸ t3)) (va_Nw.use rfl (hbad _ (cast_all N hN))) hce hv hcl kk9
      have h9 := List.all_eq_true.mp h1 z hz
      rw [Bool.or_eq_true, Bool.and_eq_true, Bool.not_eq_true'] at h9
      rcases h9 with h9 | ⟨h9, h8⟩
      · exact Or.inl h9
      · obtain ⟨u1, u2, u3⟩ := lkT_ok _ (of_decide_eq_true h9)
        exact Or.inr ⟨u1, lkN z.catchType, hts _ u3, hnc N hN _ u2 (of_decide_eq_true h8)⟩
theorem j_tabIg {dflt lo hi : Int} {offs : Array Int} {len : Nat} {x : Int32} {off : Int} {tgt : Nat} {own : String} {cc : ByteArray} {nL : Nat} {rt : Option FieldType} {tb : List ExceptionTableEntry} (d : decode cc pc = .ok (.tableswitch dflt lo hi offs, len)) (h1 : ¬ x.toInt < lo) (h2 : ¬ hi < x.toInt) (ho : offs[(x.toInt - lo).toNat]? = some off) (ht : (pc : Int) + off = (tgt : Int)) (kk : Jd l E own cc nL rt tb R Qf k n tgt ls st M) : Jd l E own cc nL rt tb R Qf k n pc ls (.int x :: st) M :=
  fun p e s m args below meth c C H locs lsr hP hS hl => lv_tableIn C.1 C.2.1 d h1 h2 ho ht (kk p e s m args below meth c C H locs lsr hP hS hl)
end CL
theorem call_end {l : Launch} {E : Ev} {R : Room} {post : Option Value → Mm → Prop} {k n : Nat} {o0 o1 o2 o3 o4 o5 o6 : Option Value} {M : Mm} {N : String} {q : Nat} (hk : k ≤ 1) (hn : n ≤ 6) (h5 : nc o5 = true) (hN : N ∈ exC) (hp : post (some (.int (xcd N))) M) : Jd l E RL cL_call 7 (some .int) (tableOf hhL) R (QfN E post 1 6) k n (hpN N) [o0, o1, o2, o3, o4, o5, o6] [.ref q] M := by
  simp only [exC, List.mem_cons, List.not_mem_nil, or_false] at hN
  rcases hN with rfl | rfl | rfl | rfl | rfl | rfl
  · refine j_ast_6 (pc := 377) dL_call_377 (by decide) h5 ?_
    refine j_si (v := -1002) dL_call_379 (by decide) ?_
    exact j_iret dL_call_382 rfl rfl hk hn hp
  · refine j_ast_6 (pc := 389) dL_call_389 (by decide) h5 ?_
    refine j_si (v := -1004) dL_call_391 (by decide) ?_
    exact j_iret dL_call_394 rfl rfl hk hn hp
  · refine j_ast_6 (pc := 383) dL_call_383 (by decide) h5 ?_
    refine j_si (v := -1003) dL_call_385 (by decide) ?_
    exact j_iret dL_call_388 rfl rfl hk hn hp
  · refine j_ast_6 (pc := 395) dL_call_395 (by decide) h5 ?_
    refine j_si (v := -1005) dL_call_397 (by decide) ?_
    exact j_iret dL_call_400 rfl rfl hk hn hp
  · refine j_ast_6 (pc := 371) dL_call_371 (by decide) h5 ?_
    refine j_si (v := -1001) dL_call_373 (by decide) ?_
    exact j_iret dL_call_376 rfl rfl hk hn hp
  · refine j_ast_6 (pc := 401) dL_call_401 (by decide) h5 ?_
    refine j_si (v := -1006) dL_call_403 (by decide) ?_
    exact j_iret dL_call_406 rfl rfl hk hn hp
theorem ck_112 : ∀ N ∈ exC, ckX 112 N = true := by decide +kernel
set_option maxRecDepth 100000 in
set_option maxHeartbeats 4000000 in
theorem cw_0 {l : Launch} {E : Ev} {M : Mm} {lv' : Nat} {post : Option Value → Mm → Prop} {px : String → Mm → Prop} {x0 x1 x2 x3 : Int32} (hlv : lv' ≤ 7) (hC : CtX l E yX9_setNumber cX9_setNumber 9 (some .int) lv' [.ref (eA E 0 0), .int x0, .int x1, .int (x2.toUInt32 % 65536).toInt32, .int x3] M post px) (hpx : ∀ N M', px N M' → N ∈ exC) (hpo : ∀ v M', post v M' → ∃ w, v = some (.int w)) : CtW l E yL_call cL_call 7 (some .int) hhL 8 1 6 [.ref (eA E 0 0), .int (nI 0), .int x0, .int x1, .int x2, .int x3] M (fun v M1 => (∃ w, post (some (.int w)) M1 ∧ v = some (.int w)) ∨ ∃ N, N ∈ exC ∧ px N M1 ∧ v = some (.int (xcd N))) := by
  refine CtW.of (own := RL) rfl [some (.ref (eA E 0 0)), some (.int (nI 0)), some (.int x0), some (.int x1), some (.int x2), some (.int x3), none] (by decide) (Nat.le_of_ble_eq_true rfl) rfl ?_
  refine j_iln dL_call_0 rfl rfl ?_
  refine j_tabIg (tgt := 104) dL_call_1 (by decide) (by decide) rfl (by decide) ?_
  refine j_aln dL_call_104 rfl rfl ?_
  refine j_iln dL_call_105 rfl rfl ?_
  refine j_iln dL_call_106 rfl rfl ?_
  refine j_il dL_call_107 rfl ?_
  refine j_i2c dL_call_109 ?_
  refine j_il dL_call_110 rfl ?_
  refine j_callX (rest := []) mf_X9_setNumber ml_L_9 (show lv' + 1 ≤ 8 by omega) (Nat.le_of_ble_eq_true rfl) hC (by decide) rfl rfl rfl rfl (Nat.le_of_ble_eq_true rfl) dL_call_112 ⟨(Nat.le_of_ble_eq_true rfl), (Nat.le_of_ble_eq_true rfl)⟩ (fun N M9 hx9 => ?_) (fun v M9 hp9 => ?_)
  · exact j_catchL (hpx N M9 hx9) (ck_112 N (hpx N M9 hx9)) fun q => call_end (Nat.le_of_ble_eq_true rfl) (Nat.le_of_ble_eq_true rfl) rfl (hpx N M9 hx9) (Or.inr ⟨N, hpx N M9 hx9, hx9, rfl⟩)
  · obtain ⟨w, hv⟩ := hpo v M9 hp9
    subst hv
    exact j_iret dL_call_115 rfl rfl (Nat.le_of_ble_eq_true rfl) (Nat.le_of_ble_eq_true rfl) (Or.inl ⟨w, hp9, rfl⟩)
theorem ck_118 : ∀ N ∈ exC, ckX 118 N = true := by decide +kernel
set_option maxRecDepth 100000 in
set_option maxHeartbeats 4000000 in
theorem cw_1 {l : Launch} {E : Ev} {M : Mm} {lv' : Nat} {post : Option Value → Mm → Prop} {px : String → Mm → Prop} {x0 x1 x2 x3 : Int32} (hlv : lv' ≤ 7) (hC : CtX l E yX9_number cX9_number 2 (some .int) lv' [.ref (eA E 0 0), .int x0] M post px) (hpx : ∀ N M', px N M' → N ∈ exC) (hpo : ∀ v M', post v M' → ∃ w, v = some (.int w)) : CtW l E yL_call cL_call 7 (some .int) hhL 8 1 6 [.ref (eA E 0 0), .int (nI 1), .int x0, .int x1, .int x2, .int x3] M (fun v M1 => (∃ w, post (some (.int w)) M1 ∧ v = some (.int w)) ∨ ∃ N, N ∈ exC ∧ px N M1 ∧ v = some (.int (xcd N))) := by
  refine CtW.of (own := RL) rfl [some (.ref (eA E 0 0)), some (.int (nI 1)), some (.int x0), some (.int x1), some (.int x2), some (.int x3), none] (by decide) (Nat.le_of_ble_eq_true rfl) rfl ?_
  refine j_iln dL_call_0 rfl rfl ?_
  refine j_tabIg (tgt := 116) dL_call_1 (by decide) (by decide) rfl (by decide) ?_
  refine j_aln dL_call_116 rfl rfl ?_
  refine j_iln dL_call_117 rfl rfl ?_
  refine j_callX (rest := []) mf_X9_number ml_L_15 (show lv' + 1 ≤ 8 by omega) (Nat.le_of_ble_eq_true rfl) hC (by decide) rfl rfl rfl rfl (Nat.le_of_ble_eq_true rfl) dL_call_118 ⟨(Nat.le_of_ble_eq_true rfl), (Nat.le_of_ble_eq_true rfl)⟩ (fun N M9 hx9 => ?_) (fun v M9 hp9 => ?_)
  · exact j_catchL (hpx N M9 hx9) (ck_118 N (hpx N M9 hx9)) fun q => call_end (Nat.le_of_ble_eq_true rfl) (Nat.le_of_ble_eq_true rfl) rfl (hpx N M9 hx9) (Or.inr ⟨N, hpx N M9 hx9, hx9, rfl⟩)
  · obtain ⟨w, hv⟩ := hpo v M9 hp9
    subst hv
    exact j_iret dL_call_121 rfl rfl (Nat.le_of_ble_eq_true rfl) (Nat.le_of_ble_eq_true rfl) (Or.inl ⟨w, hp9, rfl⟩)
theorem ck_130 : ∀ N ∈ exC, ckX 130 N = true := by decide +kernel
set_option maxRecDepth 100000 in
set_option maxHeartbeats 4000000 in
theorem cw_2 {l : Launch} {E : Ev} {M : Mm} {lv' : Nat} {post : Option Value → Mm → Prop} {px : String → Mm → Prop} {x0 x1 x2 x3 : Int32} (hlv : lv' ≤ 7) (hC : CtX l E yX9_addFeature cX9_addFeature 7 (some .int) lv' [.ref (eA E 0 0), .int (x0.toUInt32 % 65536).toInt32, .int x1, .int x2, .int x3] M post px) (hpx : ∀ N M', px N M' → N ∈ exC) (hpo : ∀ v M', post v M' → ∃ w, v = some (.int w)) : CtW l E yL_call cL_call 7 (some .int) hhL 8 1 6 [.ref (eA E 0 0), .int (nI 2), .int x0, .int x1, .int x2, .int x3] M (fun v M1 => (∃ w, post (some (.int w)) M1 ∧ v = some (.int w)) ∨ ∃ N, N ∈ exC ∧ px N M1 ∧ v = some (.int (xcd N))) := by
  refine CtW.of (own := RL) rfl [some (.ref (eA E 0 0)), some (.int (nI 2)), some (.int x0), some (.int x1), some (.int x2), some (.int x3), none] (by decide) (Nat.le_of_ble_eq_true rfl) rfl ?_
  refine j_iln dL_call_0 rfl rfl ?_
  refine j_tabIg (tgt := 122) dL_call_1 (by decide) (by decide) rfl (by decide) ?_
  refine j_aln dL_call_122 rfl rfl ?_
  refine j_iln dL_call_123 rfl rfl ?_
  refine j_i2c dL_call_124 ?_
  refine j_iln dL_call_125 rfl rfl ?_
  refine j_il dL_call_126 rfl ?_
  refine j_il dL_call_128 rfl ?_
  refine j_callX (rest := []) mf_X9_addFeature ml_L_19 (show lv' + 1 ≤ 8 by omega) (Nat.le_of_ble_eq_true rfl) hC (by decide) rfl rfl rfl rfl (Nat.le_of_ble_eq_true rfl) dL_call_130 ⟨(Nat.le_of_ble_eq_true rfl), (Nat.le_of_ble_eq_true rfl)⟩ (fun N M9 hx9 => ?_) (fun v M9 hp9 => ?_)
  · exact j_catchL (hpx N M9 hx9) (ck_130 N (hpx N M9 hx9)) fun q => call_end (Nat.le_of_ble_eq_true rfl) (Nat.le_of_ble_eq_true rfl) rfl (hpx N M9 hx9) (Or.inr ⟨N, hpx N M9 hx9, hx9, rfl⟩)
  · obtain ⟨w, hv⟩ := hpo v M9 hp9
    subst hv
    exact j_iret dL_call_133 rfl rfl (Nat.le_of_ble_eq_true rfl) (Nat.le_of_ble_eq_true rfl) (Or.inl ⟨w, hp9, rfl⟩)
theorem ck_141 : ∀ N ∈ exC, ckX 141 N = true := by decide +kernel
set_option maxRecDepth 100000 in
set_option maxHeartbeats 4000000 in
theorem cw_3 {l : Launch} {E : Ev} {M : Mm} {lv' : Nat} {post : Option Value → Mm → Prop} {px : String → Mm → Prop} {x0 x1 x2 x3 : Int32} (hlv : lv' ≤ 7) (hC : CtX l E yX9_setSize cX9_setSize 7 (some .int) lv' [.ref (eA E 0 0), .int x0, .int x1, .int x2, .int x3] M post px) (hpx : ∀ N M', px N M' → N ∈ exC) (hpo : ∀ v M', post v M' → ∃ w, v = some (.int w)) : CtW l E yL_call cL_call 7 (some .int) hhL 8 1 6 [.ref (eA E 0 0), .int (nI 3), .int x0, .int x1, .int x2, .int x3] M (fun v M1 => (∃ w, post (some (.int w)) M1 ∧ v = some (.int w)) ∨ ∃ N, N ∈ exC ∧ px N M1 ∧ v = some (.int (xcd N))) := by
  refine CtW.of (own := RL) rfl [some (.ref (eA E 0 0)), some (.int (nI 3)), some (.int x0), some (.int x1), some (.int x2), some (.int x3), none] (by decide) (Nat.le_of_ble_eq_true rfl) rfl ?_
  refine j_iln dL_call_0 rfl rfl ?_
  refine j_tabIg (tgt := 134) dL_call_1 (by decide) (by decide) rfl (by decide) ?_
  refine j_aln dL_call_134 rfl rfl ?_
  refine j_iln dL_call_135 rfl rfl ?_
  refine j_iln dL_call_136 rfl rfl ?_
  refine j_il dL_call_137 rfl ?_
  refine j_il dL_call_139 rfl ?_
  refine j_callX (rest := []) mf_X9_setSize ml_L_23 (show lv' + 1 ≤ 8 by omega) (Nat.le_of_ble_eq_true rfl) hC (by decide) rfl rfl rfl rfl (Nat.le_of_ble_eq_true rfl) dL_call_141 ⟨(Nat.le_of_ble_eq_true rfl), (Nat.le_of_ble_eq_true rfl)⟩ (fun N M9 hx9 => ?_) (fun v M9 hp9 => ?_)
  · exact j_catchL (hpx N M9 hx9) (ck_141 N (hpx N M9 hx9)) fun q => call_end (Nat.le_of_ble_eq_true rfl) (Nat.le_of_ble_eq_true rfl) rfl (hpx N M9 hx9) (Or.inr ⟨N, hpx N M9 hx9, hx9, rfl⟩)
  · obtain ⟨w, hv⟩ := hpo v M9 hp9
    subst hv
    exact j_iret dL_call_144 rfl rfl (Nat.le_of_ble_eq_true rfl) (Nat.le_of_ble_eq_true rfl) (Or.inl ⟨w, hp9, rfl⟩)
theorem ck_147 : ∀ N ∈ exC, ckX 147 N = true := by decide +kernel
set_option maxRecDepth 100000 in
set_option maxHeartbeats 4000000 in
theorem cw_4 {l : Launch} {E : Ev} {M : Mm} {lv' : Nat} {post : Option Value → Mm → Prop} {px : String → Mm → Prop} {x0 x1 x2 x3 : Int32} (hlv : lv' ≤ 7) (hC : CtX l E yX9_remove cX9_remove 4 (some .int) lv' [.ref (eA E 0 0), .int x0] M post px) (hpx : ∀ N M', px N M' → N ∈ exC) (hpo : ∀ v M', post v M' → ∃ w, v = some (.int w)) : CtW l E yL_call cL_call 7 (some .int) hhL 8 1 6 [.ref (eA E 0 0), .int (nI 4), .int x0, .int x1, .int x2, .int x3] M (fun v M1 => (∃ w, post (some (.int w)) M1 ∧ v = some (.int w)) ∨ ∃ N, N ∈ exC ∧ px N M1 ∧ v = some (.int (xcd N))) := by
  refine CtW.of (own := RL) rfl [some (.ref (eA E 0 0)), some (.int (nI 4)), some (.int x0), some (.int x1), some (.int x2), some (.int x3), none] (by decide) (Nat.le_of_ble_eq_true rfl) rfl ?_
  refine j_iln dL_call_0 rfl rfl ?_
  refine j_tabIg (tgt := 145) dL_call_1 (by decide) (by decide) rfl (by decide) ?_
  refine j_aln dL_call_145 rfl rfl ?_
  refine j_iln dL_call_146 rfl rfl ?_
  refine j_callX (rest := []) mf_X9_remove ml_L_27 (show lv' + 1 ≤ 8 by omega) (Nat.le_of_ble_eq_true rfl) hC (by decide) rfl rfl rfl rfl (Nat.le_of_ble_eq_true rfl) dL_call_147 ⟨(Nat.le_of_ble_eq_true rfl), (Nat.le_of_ble_eq_true rfl)⟩ (fun N M9 hx9 => ?_) (fun v M9 hp9 => ?_)
  · exact j_catchL (hpx N M9 hx9) (ck_147 N (hpx N M9 hx9)) fun q => call_end (Nat.le_of_ble_eq_true rfl) (Nat.le_of_ble_eq_true rfl) rfl (hpx N M9 hx9) (Or.inr ⟨N, hpx N M9 hx9, hx9, rfl⟩)
  · obtain ⟨w, hv⟩ := hpo v M9 hp9
    subst hv
    exact j_iret dL_call_150 rfl rfl (Nat.le_of_ble_eq_true rfl) (Nat.le_of_ble_eq_true rfl) (Or.inl ⟨w, hp9, rfl⟩)
theorem ck_154 : ∀ N ∈ exC, ckX 154 N = true := by decide +kernel
set_option maxRecDepth 100000 in
set_option maxHeartbeats 4000000 in
theorem cw_5 {l : Launch} {E : Ev} {M : Mm} {lv' : Nat} {post : Option Value → Mm → Prop} {px : String → Mm → Prop} {x0 x1 x2 x3 : Int32} (hlv : lv' ≤ 7) (hC : CtX l E yX9_move cX9_move 5 (some .int) lv' [.ref (eA E 0 0), .int x0, .int x1] M post px) (hpx : ∀ N M', px N M' → N ∈ exC) (hpo : ∀ v M', post v M' → ∃ w, v = some (.int w)) : CtW l E yL_call cL_call 7 (some .int) hhL 8 1 6 [.ref (eA E 0 0), .int (nI 5), .int x0, .int x1, .int x2, .int x3] M (fun v M1 => (∃ w, post (some (.int w)) M1 ∧ v = some (.int w)) ∨ ∃ N, N ∈ exC ∧ px N M1 ∧ v = some (.int (xcd N))) := by
  refine CtW.of (own := RL) rfl [some (.ref (eA E 0 0)), some (.int (nI 5)), some (.int x0), some (.int x1), some (.int x2), some (.int x3), none] (by decide) (Nat.le_of_ble_eq_true rfl) rfl ?_
  refine j_iln dL_call_0 rfl rfl ?_
  refine j_tabIg (tgt := 151) dL_call_1 (by decide) (by decide) rfl (by decide) ?_
  refine j_aln dL_call_151 rfl rfl ?_
  refine j_iln dL_call_152 rfl rfl ?_
  refine j_iln dL_call_153 rfl rfl ?_
  refine j_callX (rest := []) mf_X9_move ml_L_30 (show lv' + 1 ≤ 8 by omega) (Nat.le_of_ble_eq_true rfl) hC (by decide) rfl rfl rfl rfl (Nat.le_of_ble_eq_true rfl) dL_call_154 ⟨(Nat.le_of_ble_eq_true rfl), (Nat.le_of_ble_eq_true rfl)⟩ (fun N M9 hx9 => ?_) (fun v M9 hp9 => ?_)
  · exact j_catchL (hpx N M9 hx9) (ck_154 N (hpx N M9 hx9)) fun q => call_end (Nat.le_of_ble_eq_true rfl) (Nat.le_of_ble_eq_true rfl) rfl (hpx N M9 hx9) (Or.inr ⟨N, hpx N M9 hx9, hx9, rfl⟩)
  · obtain ⟨w, hv⟩ := hpo v M9 hp9
    subst hv
    exact j_iret dL_call_157 rfl rfl (Nat.le_of_ble_eq_true rfl) (Nat.le_of_ble_eq_true rfl) (Or.inl ⟨w, hp9, rfl⟩)
theorem ck_170 : ∀ N ∈ exC, ckX 170 N = true := by decide +kernel
set_option maxRecDepth 100000 in
set_option maxHeartbeats 4000000 in
theorem cw_6 {l : Launch} {E : Ev} {M : Mm} {lv' : Nat} {post : Option Value → Mm → Prop} {px : String → Mm → Prop} {x0 x1 x2 x3 : Int32} (hlv : lv' ≤ 7) (hC : CtX l E yX9_putOff cX9_putOff 5 (some .boolean) lv' [.ref (eA E 0 0), .int x0, .int (bI (decide (x1 = nI 1)))] M post px) (hpx : ∀ N M', px N M' → N ∈ exC) (hpo : ∀ v M', post v M' → ∃ w, v = some (.int w)) : CtW l E yL_call cL_call 7 (some .int) hhL 8 1 6 [.ref (eA E 0 0), .int (nI 6), .int x0, .int x1, .int x2, .int x3] M (fun v M1 => (∃ w, post (some (.int w)) M1 ∧ v = some (.int (if w = 0 then 0 else 1))) ∨ ∃ N, N ∈ exC ∧ px N M1 ∧ v = some (.int (xcd N))) := by
  refine CtW.of (own := RL) rfl [some (.ref (eA E 0 0)), some (.int (nI 6)), some (.int x0), some (.int x1), some (.int x2), some (.int x3), none] (by decide) (Nat.le_of_ble_eq_true rfl) rfl ?_
  refine j_iln dL_call_0 rfl rfl ?_
  refine j_tabIg (tgt := 158) dL_call_1 (by decide) (by decide) rfl (by decide) ?_
  refine j_aln dL_call_158 rfl rfl ?_
  refine j_iln dL_call_159 rfl rfl ?_
  refine j_iln dL_call_160 rfl rfl ?_
  refine j_ic (v := 1) dL_call_161 (by decide) ?_
  refine j_icne (tgt := 169) dL_call_162 (by decide) (fun h162 => ?_) (fun h162 => ?_)
  · have hC9 := hC; rw [decide_eq_false (show ¬ x1 = nI 1 from h162)] at hC9
    refine j_ic (v := 0) dL_call_169 (by decide) ?_
    refine j_callX (rest := []) mf_X9_putOff ml_L_34 (show lv' + 1 ≤ 8 by omega) (Nat.le_of_ble_eq_true rfl) hC9 (by decide) rfl rfl rfl rfl (Nat.le_of_ble_eq_true rfl) dL_call_170 ⟨(Nat.le_of_ble_eq_true rfl), (Nat.le_of_ble_eq_true rfl)⟩ (fun N M9 hx9 => ?_) (fun v M9 hp9 => ?_)
    · exact j_catchL (hpx N M9 hx9) (ck_170 N (hpx N M9 hx9)) fun q => call_end (Nat.le_of_ble_eq_true rfl) (Nat.le_of_ble_eq_true rfl) rfl (hpx N M9 hx9) (Or.inr ⟨N, hpx N M9 hx9, hx9, rfl⟩)
    · obtain ⟨w, hv⟩ := hpo v M9 hp9
      subst hv
      refine j_ifeq (tgt := 180) dL_call_173 (by decide) (fun h173 => ?_) (fun h173 => ?_)
      · have hw : (if w = 0 then 0 else 1 : Int32) = 0 := if_pos h173
        refine j_icN 0 dL_call_180 rfl ?_
        exact j_iret dL_call_181 rfl rfl (Nat.le_of_ble_eq_true rfl) (Nat.le_of_ble_eq_true rfl) (Or.inl ⟨w, hp9, by rw [hw]; rfl⟩)
      · have hw : (if w = 0 then 0 else 1 : Int32) = 1 := if_neg h173
        refine j_icN 1 dL_call_176 rfl ?_
        refine j_goto (tgt := 181) dL_call_177 (by decide) ?_
        exact j_iret dL_call_181 rfl rfl (Nat.le_of_ble_eq_true rfl) (Nat.le_of_ble_eq_true rfl) (Or.inl ⟨w, hp9, by rw [hw]; rfl⟩)
  · have hC9 := hC; rw [decide_eq_true (show x1 = nI 1 from h162)] at hC9
    refine j_ic (v := 1) dL_call_165 (by decide) ?_
    refine j_goto (tgt := 170) dL_call_166 (by decide) ?_
    refine j_callX (rest := []) mf_X9_putOff ml_L_34 (show lv' + 1 ≤ 8 by omega) (Nat.le_of_ble_eq_true rfl) hC9 (by decide) rfl rfl rfl rfl (Nat.le_of_ble_eq_true rfl) dL_call_170 ⟨(Nat.le_of_ble_eq_true rfl), (Nat.le_of_ble_eq_true rfl)⟩ (fun N M9 hx9 => ?_) (fun v M9 hp9 => ?_)
    · exact j_catchL (hpx N M9 hx9) (ck_170 N (hpx N M9 hx9)) fun q => call_end (Nat.le_of_ble_eq_true rfl) (Nat.le_of_ble_eq_true rfl) rfl (hpx N M9 hx9) (Or.inr ⟨N, hpx N M9 hx9, hx9, rfl⟩)
    · obtain ⟨w, hv⟩ := hpo v M9 hp9
      subst hv
      refine j_ifeq (tgt := 180) dL_call_173 (by decide) (fun h173 => ?_) (fun h173 => ?_)
      · have hw : (if w = 0 then 0 else 1 : Int32) = 0 := if_pos h173
        refine j_icN 0 dL_call_180 rfl ?_
        exact j_iret dL_call_181 rfl rfl (Nat.le_of_ble_eq_true rfl) (Nat.le_of_ble_eq_true rfl) (Or.inl ⟨w, hp9, by rw [hw]; rfl⟩)
      · have hw : (if w = 0 then 0 else 1 : Int32) = 1 := if_neg h173
        refine j_icN 1 dL_call_176 rfl ?_
        refine j_goto (tgt := 181) dL_call_177 (by decide) ?_
        exact j_iret dL_call_181 rfl rfl (Nat.le_of_ble_eq_true rfl) (Nat.le_of_ble_eq_true rfl) (Or.inl ⟨w, hp9, by rw [hw]; rfl⟩)
theorem ck_184 : ∀ N ∈ exC, ckX 184 N = true := by decide +kernel
set_option maxRecDepth 100000 in
set_option maxHeartbeats 4000000 in
theorem cw_7 {l : Launch} {E : Ev} {M : Mm} {lv' : Nat} {post : Option Value → Mm → Prop} {px : String → Mm → Prop} {x0 x1 x2 x3 : Int32} (hlv : lv' ≤ 7) (hC : CtX l E yX9_setBar cX9_setBar 4 (some .int) lv' [.ref (eA E 0 0), .int x0] M post px) (hpx : ∀ N M', px N M' → N ∈ exC) (hpo : ∀ v M', post v M' → ∃ w, v = some (.int w)) : CtW l E yL_call cL_call 7 (some .int) hhL 8 1 6 [.ref (eA E 0 0), .int (nI 7), .int x0, .int x1, .int x2, .int x3] M (fun v M1 => (∃ w, post (some (.int w)) M1 ∧ v = some (.int w)) ∨ ∃ N, N ∈ exC ∧ px N M1 ∧ v = some (.int (xcd N))) := by
  refine CtW.of (own := RL) rfl [some (.ref (eA E 0 0)), some (.int (nI 7)), some (.int x0), some (.int x1), some (.int x2), some (.int x3), none] (by decide) (Nat.le_of_ble_eq_true rfl) rfl ?_
  refine j_iln dL_call_0 rfl rfl ?_
  refine j_tabIg (tgt := 182) dL_call_1 (by decide) (by decide) rfl (by decide) ?_
  refine j_aln dL_call_182 rfl rfl ?_
  refine j_iln dL_call_183 rfl rfl ?_
  refine j_callX (rest := []) mf_X9_setBar ml_L_38 (show lv' + 1 ≤ 8 by omega) (Nat.le_of_ble_eq_true rfl) hC (by decide) rfl rfl rfl rfl (Nat.le_of_ble_eq_true rfl) dL_call_184 ⟨(Nat.le_of_ble_eq_true rfl), (Nat.le_of_ble_eq_true rfl)⟩ (fun N M9 hx9 => ?_) (fun v M9 hp9 => ?_)
  · exact j_catchL (hpx N M9 hx9) (ck_184 N (hpx N M9 hx9)) fun q => call_end (Nat.le_of_ble_eq_true rfl) (Nat.le_of_ble_eq_true rfl) rfl (hpx N M9 hx9) (Or.inr ⟨N, hpx N M9 hx9, hx9, rfl⟩)
  · obtain ⟨w, hv⟩ := hpo v M9 hp9
    subst hv
    exact j_iret dL_call_187 rfl rfl (Nat.le_of_ble_eq_true rfl) (Nat.le_of_ble_eq_true rfl) (Or.inl ⟨w, hp9, rfl⟩)
theorem ck_190 : ∀ N ∈ exC, ckX 190 N = true := by decide +kernel
set_option maxRecDepth 100000 in
set_option maxHeartbeats 4000000 in
theorem cw_8 {l : Launch} {E : Ev} {M : Mm} {lv' : Nat} {post : Option Value → Mm → Prop} {px : String → Mm → Prop} {x0 x1 x2 x3 : Int32} (hlv : lv' ≤ 7) (hC : CtX l E yX9_place cX9_place 3 (some .int) lv' [.ref (eA E 0 0), .int x0] M post px) (hpx : ∀ N M', px N M' → N ∈ exC) (hpo : ∀ v M', post v M' → ∃ w, v = some (.int w)) : CtW l E yL_call cL_call 7 (some .int) hhL 8 1 6 [.ref (eA E 0 0), .int (nI 8), .int x0, .int x1, .int x2, .int x3] M (fun v M1 => (∃ w, post (some (.int w)) M1 ∧ v = some (.int w)) ∨ ∃ N, N ∈ exC ∧ px N M1 ∧ v = some (.int (xcd N))) := by
  refine CtW.of (own := RL) rfl [some (.ref (eA E 0 0)), some (.int (nI 8)), some (.int x0), some (.int x1), some (.int x2), some (.int x3), none] (by decide) (Nat.le_of_ble_eq_true rfl) rfl ?_
  refine j_iln dL_call_0 rfl rfl ?_
  refine j_tabIg (tgt := 188) dL_call_1 (by decide) (by decide) rfl (by decide) ?_
  refine j_aln dL_call_188 rfl rfl ?_
  refine j_iln dL_call_189 rfl rfl ?_
  refine j_callX (rest := []) mf_X9_place ml_L_41 (show lv' + 1 ≤ 8 by omega) (Nat.le_of_ble_eq_true rfl) hC (by decide) rfl rfl rfl rfl (Nat.le_of_ble_eq_true rfl) dL_call_190 ⟨(Nat.le_of_ble_eq_true rfl), (Nat.le_of_ble_eq_true rfl)⟩ (fun N M9 hx9 => ?_) (fun v M9 hp9 => ?_)
  · exact j_catchL (hpx N M9 hx9) (ck_190 N (hpx N M9 hx9)) fun q => call_end (Nat.le_of_ble_eq_true rfl) (Nat.le_of_ble_eq_true rfl) rfl (hpx N M9 hx9) (Or.inr ⟨N, hpx N M9 hx9, hx9, rfl⟩)
  · obtain ⟨w, hv⟩ := hpo v M9 hp9
    subst hv
    exact j_iret dL_call_193 rfl rfl (Nat.le_of_ble_eq_true rfl) (Nat.le_of_ble_eq_true rfl) (Or.inl ⟨w, hp9, rfl⟩)
theorem ck_196 : ∀ N ∈ exC, ckX 196 N = true := by decide +kernel
set_option maxRecDepth 100000 in
set_option maxHeartbeats 4000000 in
theorem cw_9 {l : Launch} {E : Ev} {M : Mm} {lv' : Nat} {post : Option Value → Mm → Prop} {px : String → Mm → Prop} {x0 x1 x2 x3 : Int32} (hlv : lv' ≤ 7) (hC : CtX l E yX9_state cX9_state 4 (some .char) lv' [.ref (eA E 0 0), .int x0] M post px) (hpx : ∀ N M', px N M' → N ∈ exC) (hpo : ∀ v M', post v M' → ∃ w, v = some (.int w)) : CtW l E yL_call cL_call 7 (some .int) hhL 8 1 6 [.ref (eA E 0 0), .int (nI 9), .int x0, .int x1, .int x2, .int x3] M (fun v M1 => (∃ w, post (some (.int w)) M1 ∧ v = some (.int w)) ∨ ∃ N, N ∈ exC ∧ px N M1 ∧ v = some (.int (xcd N))) := by
  refine CtW.of (own := RL) rfl [some (.ref (eA E 0 0)), some (.int (nI 9)), some (.int x0), some (.int x1), some (.int x2), some (.int x3), none] (by decide) (Nat.le_of_ble_eq_true rfl) rfl ?_
  refine j_iln dL_call_0 rfl rfl ?_
  refine j_tabIg (tgt := 194) dL_call_1 (by decide) (by decide) rfl (by decide) ?_
  refine j_aln dL_call_194 rfl rfl ?_
  refine j_iln dL_call_195 rfl rfl ?_
  refine j_callX (rest := []) mf_X9_state ml_L_44 (show lv' + 1 ≤ 8 by omega) (Nat.le_of_ble_eq_true rfl) hC (by decide) rfl rfl rfl rfl (Nat.le_of_ble_eq_true rfl) dL_call_196 ⟨(Nat.le_of_ble_eq_true rfl), (Nat.le_of_ble_eq_true rfl)⟩ (fun N M9 hx9 => ?_) (fun v M9 hp9 => ?_)
  · exact j_catchL (hpx N M9 hx9) (ck_196 N (hpx N M9 hx9)) fun q => call_end (Nat.le_of_ble_eq_true rfl) (Nat.le_of_ble_eq_true rfl) rfl (hpx N M9 hx9) (Or.inr ⟨N, hpx N M9 hx9, hx9, rfl⟩)
  · obtain ⟨w, hv⟩ := hpo v M9 hp9
    subst hv
    exact j_iret dL_call_199 rfl rfl (Nat.le_of_ble_eq_true rfl) (Nat.le_of_ble_eq_true rfl) (Or.inl ⟨w, hp9, rfl⟩)
theorem ck_241 : ∀ N ∈ exC, ckX 241 N = true := by decide +kernel
set_option maxRecDepth 100000 in
set_option maxHeartbeats 4000000 in
theorem cw_12 {l : Launch} {E : Ev} {M : Mm} {lv' : Nat} {post : Option Value → Mm → Prop} {px : String → Mm → Prop} {x0 x1 x2 x3 : Int32} (hlv : lv' ≤ 7) (hC : CtX l E yX9_nameOf cX9_nameOf 6 (some .int) lv' [.ref (eA E 0 0), .int x0, .int x1, .int x2, .int x3] M post px) (hpx : ∀ N M', px N M' → N ∈ exC) (hpo : ∀ v M', post v M' → ∃ w, v = some (.int w)) : CtW l E yL_call cL_call 7 (some .int) hhL 8 1 6 [.ref (eA E 0 0), .int (nI 12), .int x0, .int x1, .int x2, .int x3] M (fun v M1 => (∃ w, post (some (.int w)) M1 ∧ v = some (.int w)) ∨ ∃ N, N ∈ exC ∧ px N M1 ∧ v = some (.int (xcd N))) := by
  refine CtW.of (own := RL) rfl [some (.ref (eA E 0 0)), some (.int (nI 12)), some (.int x0), some (.int x1), some (.int x2), some (.int x3), none] (by decide) (Nat.le_of_ble_eq_true rfl) rfl ?_
  refine j_iln dL_call_0 rfl rfl ?_
  refine j_tabIg (tgt := 234) dL_call_1 (by decide) (by decide) rfl (by decide) ?_
  refine j_aln dL_call_234 rfl rfl ?_
  refine j_iln dL_call_235 rfl rfl ?_
  refine j_iln dL_call_236 rfl rfl ?_
  refine j_il dL_call_237 rfl ?_
  refine j_il dL_call_239 rfl ?_
  refine j_callX (rest := []) mf_X9_nameOf ml_L_55 (show lv' + 1 ≤ 8 by omega) (Nat.le_of_ble_eq_true rfl) hC (by decide) rfl rfl rfl rfl (Nat.le_of_ble_eq_true rfl) dL_call_241 ⟨(Nat.le_of_ble_eq_true rfl), (Nat.le_of_ble_eq_true rfl)⟩ (fun N M9 hx9 => ?_) (fun v M9 hp9 => ?_)
  · exact j_catchL (hpx N M9 hx9) (ck_241 N (hpx N M9 hx9)) fun q => call_end (Nat.le_of_ble_eq_true rfl) (Nat.le_of_ble_eq_true rfl) rfl (hpx N M9 hx9) (Or.inr ⟨N, hpx N M9 hx9, hx9, rfl⟩)
  · obtain ⟨w, hv⟩ := hpo v M9 hp9
    subst hv
    exact j_iret dL_call_244 rfl rfl (Nat.le_of_ble_eq_true rfl) (Nat.le_of_ble_eq_true rfl) (Or.inl ⟨w, hp9, rfl⟩)
theorem ck_248 : ∀ N ∈ exC, ckX 248 N = true := by decide +kernel
set_option maxRecDepth 100000 in
set_option maxHeartbeats 4000000 in
theorem cw_13 {l : Launch} {E : Ev} {M : Mm} {lv' : Nat} {post : Option Value → Mm → Prop} {px : String → Mm → Prop} {x0 x1 x2 x3 : Int32} (hlv : lv' ≤ 7) (hC : CtX l E yX9_squares cX9_squares 3 (some .int) lv' [.ref (eA E 0 0), .int x0, .int x1] M post px) (hpx : ∀ N M', px N M' → N ∈ exC) (hpo : ∀ v M', post v M' → ∃ w, v = some (.int w)) : CtW l E yL_call cL_call 7 (some .int) hhL 8 1 6 [.ref (eA E 0 0), .int (nI 13), .int x0, .int x1, .int x2, .int x3] M (fun v M1 => (∃ w, post (some (.int w)) M1 ∧ v = some (.int w)) ∨ ∃ N, N ∈ exC ∧ px N M1 ∧ v = some (.int (xcd N))) := by
  refine CtW.of (own := RL) rfl [some (.ref (eA E 0 0)), some (.int (nI 13)), some (.int x0), some (.int x1), some (.int x2), some (.int x3), none] (by decide) (Nat.le_of_ble_eq_true rfl) rfl ?_
  refine j_iln dL_call_0 rfl rfl ?_
  refine j_tabIg (tgt := 245) dL_call_1 (by decide) (by decide) rfl (by decide) ?_
  refine j_aln dL_call_245 rfl rfl ?_
  refine j_iln dL_call_246 rfl rfl ?_
  refine j_iln dL_call_247 rfl rfl ?_
  refine j_callX (rest := []) mf_X9_squares ml_L_58 (show lv' + 1 ≤ 8 by omega) (Nat.le_of_ble_eq_true rfl) hC (by decide) rfl rfl rfl rfl (Nat.le_of_ble_eq_true rfl) dL_call_248 ⟨(Nat.le_of_ble_eq_true rfl), (Nat.le_of_ble_eq_true rfl)⟩ (fun N M9 hx9 => ?_) (fun v M9 hp9 => ?_)
  · exact j_catchL (hpx N M9 hx9) (ck_248 N (hpx N M9 hx9)) fun q => call_end (Nat.le_of_ble_eq_true rfl) (Nat.le_of_ble_eq_true rfl) rfl (hpx N M9 hx9) (Or.inr ⟨N, hpx N M9 hx9, hx9, rfl⟩)
  · obtain ⟨w, hv⟩ := hpo v M9 hp9
    subst hv
    exact j_iret dL_call_251 rfl rfl (Nat.le_of_ble_eq_true rfl) (Nat.le_of_ble_eq_true rfl) (Or.inl ⟨w, hp9, rfl⟩)
theorem ck_257 : ∀ N ∈ exC, ckX 257 N = true := by decide +kernel
set_option maxRecDepth 100000 in
set_option maxHeartbeats 4000000 in
theorem cw_14 {l : Launch} {E : Ev} {M : Mm} {lv' : Nat} {post : Option Value → Mm → Prop} {px : String → Mm → Prop} {x0 x1 x2 x3 : Int32} (hlv : lv' ≤ 7) (hC : CtX l E yX9_addPart cX9_addPart 4 (some .int) lv' [.ref (eA E 0 0), .int x0, .int x1, .int x2] M post px) (hpx : ∀ N M', px N M' → N ∈ exC) (hpo : ∀ v M', post v M' → ∃ w, v = some (.int w)) : CtW l E yL_call cL_call 7 (some .int) hhL 8 1 6 [.ref (eA E 0 0), .int (nI 14), .int x0, .int x1, .int x2, .int x3] M (fun v M1 => (∃ w, post (some (.int w)) M1 ∧ v = some (.int w)) ∨ ∃ N, N ∈ exC ∧ px N M1 ∧ v = some (.int (xcd N))) := by
  refine CtW.of (own := RL) rfl [some (.ref (eA E 0 0)), some (.int (nI 14)), some (.int x0), some (.int x1), some (.int x2), some (.int x3), none] (by decide) (Nat.le_of_ble_eq_true rfl) rfl ?_
  refine j_iln dL_call_0 rfl rfl ?_
  refine j_tabIg (tgt := 252) dL_call_1 (by decide) (by decide) rfl (by decide) ?_
  refine j_aln dL_call_252 rfl rfl ?_
  refine j_iln dL_call_253 rfl rfl ?_
  refine j_iln dL_call_254 rfl rfl ?_
  refine j_il dL_call_255 rfl ?_
  refine j_callX (rest := []) mf_X9_addPart ml_L_61 (show lv' + 1 ≤ 8 by omega) (Nat.le_of_ble_eq_true rfl) hC (by decide) rfl rfl rfl rfl (Nat.le_of_ble_eq_true rfl) dL_call_257 ⟨(Nat.le_of_ble_eq_true rfl), (Nat.le_of_ble_eq_true rfl)⟩ (fun N M9 hx9 => ?_) (fun v M9 hp9 => ?_)
  · exact j_catchL (hpx N M9 hx9) (ck_257 N (hpx N M9 hx9)) fun q => call_end (Nat.le_of_ble_eq_true rfl) (Nat.le_of_ble_eq_true rfl) rfl (hpx N M9 hx9) (Or.inr ⟨N, hpx N M9 hx9, hx9, rfl⟩)
  · obtain ⟨w, hv⟩ := hpo v M9 hp9
    subst hv
    exact j_iret dL_call_260 rfl rfl (Nat.le_of_ble_eq_true rfl) (Nat.le_of_ble_eq_true rfl) (Or.inl ⟨w, hp9, rfl⟩)
theorem ck_292 : ∀ N ∈ exC, ckX 292 N = true := by decide +kernel
set_option maxRecDepth 100000 in
set_option maxHeartbeats 4000000 in
theorem cw_16 {l : Launch} {E : Ev} {M : Mm} {lv' : Nat} {post : Option Value → Mm → Prop} {px : String → Mm → Prop} {x0 x1 x2 x3 : Int32} (hlv : lv' ≤ 7) (hC : CtX l E yX9_mate cX9_mate 5 (some .int) lv' [.ref (eA E 0 0), .int x0, .int x1, .int x2, .int x3] M post px) (hpx : ∀ N M', px N M' → N ∈ exC) (hpo : ∀ v M', post v M' → ∃ w, v = some (.int w)) : CtW l E yL_call cL_call 7 (some .int) hhL 8 1 6 [.ref (eA E 0 0), .int (nI 16), .int x0, .int x1, .int x2, .int x3] M (fun v M1 => (∃ w, post (some (.int w)) M1 ∧ v = some (.int w)) ∨ ∃ N, N ∈ exC ∧ px N M1 ∧ v = some (.int (xcd N))) := by
  refine CtW.of (own := RL) rfl [some (.ref (eA E 0 0)), some (.int (nI 16)), some (.int x0), some (.int x1), some (.int x2), some (.int x3), none] (by decide) (Nat.le_of_ble_eq_true rfl) rfl ?_
  refine j_iln dL_call_0 rfl rfl ?_
  refine j_tabIg (tgt := 285) dL_call_1 (by decide) (by decide) rfl (by decide) ?_
  refine j_aln dL_call_285 rfl rfl ?_
  refine j_iln dL_call_286 rfl rfl ?_
  refine j_iln dL_call_287 rfl rfl ?_
  refine j_il dL_call_288 rfl ?_
  refine j_il dL_call_290 rfl ?_
  refine j_callX (rest := []) mf_X9_mate ml_L_68 (show lv' + 1 ≤ 8 by omega) (Nat.le_of_ble_eq_true rfl) hC (by decide) rfl rfl rfl rfl (Nat.le_of_ble_eq_true rfl) dL_call_292 ⟨(Nat.le_of_ble_eq_true rfl), (Nat.le_of_ble_eq_true rfl)⟩ (fun N M9 hx9 => ?_) (fun v M9 hp9 => ?_)
  · exact j_catchL (hpx N M9 hx9) (ck_292 N (hpx N M9 hx9)) fun q => call_end (Nat.le_of_ble_eq_true rfl) (Nat.le_of_ble_eq_true rfl) rfl (hpx N M9 hx9) (Or.inr ⟨N, hpx N M9 hx9, hx9, rfl⟩)
  · obtain ⟨w, hv⟩ := hpo v M9 hp9
    subst hv
    exact j_iret dL_call_295 rfl rfl (Nat.le_of_ble_eq_true rfl) (Nat.le_of_ble_eq_true rfl) (Or.inl ⟨w, hp9, rfl⟩)
theorem ck_301 : ∀ N ∈ exC, ckX 301 N = true := by decide +kernel
set_option maxRecDepth 100000 in
set_option maxHeartbeats 4000000 in
theorem cw_17 {l : Launch} {E : Ev} {M : Mm} {lv' : Nat} {post : Option Value → Mm → Prop} {px : String → Mm → Prop} {x0 x1 x2 x3 : Int32} (hlv : lv' ≤ 7) (hC : CtX l E yX9_drag cX9_drag 4 (some .int) lv' [.ref (eA E 0 0), .int x0, .int x1, .int x2] M post px) (hpx : ∀ N M', px N M' → N ∈ exC) (hpo : ∀ v M', post v M' → ∃ w, v = some (.int w)) : CtW l E yL_call cL_call 7 (some .int) hhL 8 1 6 [.ref (eA E 0 0), .int (nI 17), .int x0, .int x1, .int x2, .int x3] M (fun v M1 => (∃ w, post (some (.int w)) M1 ∧ v = some (.int w)) ∨ ∃ N, N ∈ exC ∧ px N M1 ∧ v = some (.int (xcd N))) := by
  refine CtW.of (own := RL) rfl [some (.ref (eA E 0 0)), some (.int (nI 17)), some (.int x0), some (.int x1), some (.int x2), some (.int x3), none] (by decide) (Nat.le_of_ble_eq_true rfl) rfl ?_
  refine j_iln dL_call_0 rfl rfl ?_
  refine j_tabIg (tgt := 296) dL_call_1 (by decide) (by decide) rfl (by decide) ?_
  refine j_aln dL_call_296 rfl rfl ?_
  refine j_iln dL_call_297 rfl rfl ?_
  refine j_iln dL_call_298 rfl rfl ?_
  refine j_il dL_call_299 rfl ?_
  refine j_callX (rest := []) mf_X9_drag ml_L_71 (show lv' + 1 ≤ 8 by omega) (Nat.le_of_ble_eq_true rfl) hC (by decide) rfl rfl rfl rfl (Nat.le_of_ble_eq_true rfl) dL_call_301 ⟨(Nat.le_of_ble_eq_true rfl), (Nat.le_of_ble_eq_true rfl)⟩ (fun N M9 hx9 => ?_) (fun v M9 hp9 => ?_)
  · exact j_catchL (hpx N M9 hx9) (ck_301 N (hpx N M9 hx9)) fun q => call_end (Nat.le_of_ble_eq_true rfl) (Nat.le_of_ble_eq_true rfl) rfl (hpx N M9 hx9) (Or.inr ⟨N, hpx N M9 hx9, hx9, rfl⟩)
  · obtain ⟨w, hv⟩ := hpo v M9 hp9
    subst hv
    exact j_iret dL_call_304 rfl rfl (Nat.le_of_ble_eq_true rfl) (Nat.le_of_ble_eq_true rfl) (Or.inl ⟨w, hp9, rfl⟩)
theorem ck_308 : ∀ N ∈ exC, ckX 308 N = true := by decide +kernel
set_option maxRecDepth 100000 in
set_option maxHeartbeats 4000000 in
theorem cw_18 {l : Launch} {E : Ev} {M : Mm} {lv' : Nat} {post : Option Value → Mm → Prop} {px : String → Mm → Prop} {x0 x1 x2 x3 : Int32} (hlv : lv' ≤ 7) (hC : CtX l E yX9_moved cX9_moved 3 (some .int) lv' [.ref (eA E 0 0), .int x0, .int x1] M post px) (hpx : ∀ N M', px N M' → N ∈ exC) (hpo : ∀ v M', post v M' → ∃ w, v = some (.int w)) : CtW l E yL_call cL_call 7 (some .int) hhL 8 1 6 [.ref (eA E 0 0), .int (nI 18), .int x0, .int x1, .int x2, .int x3] M (fun v M1 => (∃ w, post (some (.int w)) M1 ∧ v = some (.int w)) ∨ ∃ N, N ∈ exC ∧ px N M1 ∧ v = some (.int (xcd N))) := by
  refine CtW.of (own := RL) rfl [some (.ref (eA E 0 0)), some (.int (nI 18)), some (.int x0), some (.int x1), some (.int x2), some (.int x3), none] (by decide) (Nat.le_of_ble_eq_true rfl) rfl ?_
  refine j_iln dL_call_0 rfl rfl ?_
  refine j_tabIg (tgt := 305) dL_call_1 (by decide) (by decide) rfl (by decide) ?_
  refine j_aln dL_call_305 rfl rfl ?_
  refine j_iln dL_call_306 rfl rfl ?_
  refine j_iln dL_call_307 rfl rfl ?_
  refine j_callX (rest := []) mf_X9_moved ml_L_74 (show lv' + 1 ≤ 8 by omega) (Nat.le_of_ble_eq_true rfl) hC (by decide) rfl rfl rfl rfl (Nat.le_of_ble_eq_true rfl) dL_call_308 ⟨(Nat.le_of_ble_eq_true rfl), (Nat.le_of_ble_eq_true rfl)⟩ (fun N M9 hx9 => ?_) (fun v M9 hp9 => ?_)
  · exact j_catchL (hpx N M9 hx9) (ck_308 N (hpx N M9 hx9)) fun q => call_end (Nat.le_of_ble_eq_true rfl) (Nat.le_of_ble_eq_true rfl) rfl (hpx N M9 hx9) (Or.inr ⟨N, hpx N M9 hx9, hx9, rfl⟩)
  · obtain ⟨w, hv⟩ := hpo v M9 hp9
    subst hv
    exact j_iret dL_call_311 rfl rfl (Nat.le_of_ble_eq_true rfl) (Nat.le_of_ble_eq_true rfl) (Or.inl ⟨w, hp9, rfl⟩)
