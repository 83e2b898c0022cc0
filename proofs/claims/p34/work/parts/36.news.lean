/-! constructors: the heap from the start on, cell by cell in the order of its making -/
def upE (f : Nat → va_E) (i : Nat) (e : va_E) : Nat → va_E := fun j => if j = i then e else f j
theorem upE_at (f : Nat → va_E) (i : Nat) (e : va_E) (j : Nat) : upE f i e j = if j = i then e else f j := rfl
theorem upE_eq (f : Nat → va_E) (i : Nat) (e : va_E) : upE f i e i = e := if_pos rfl
theorem upE_ne {f : Nat → va_E} {i j : Nat} {e : va_E} (h : ¬ j = i) : upE f i e j = f j := if_neg h
def Pic (E : Ev) (n : Nat) (f : Nat → va_E) (H : Heap) : Prop := H.size = eB E + n ∧ ∀ i, i < n → va_at (eG E) vwCl (eB E + i, f i) H
theorem pic_push {E : Ev} {n : Nat} {f : Nat → va_E} {e : va_E} {H H1 : Heap} (hP : Pic E n f H) (z : H1.size = eB E + n + 1) (o : ∀ q, q < eB E + n → H1[q]? = H[q]?) (he : va_at (eG E) vwCl (eB E + n, e) H1) : Pic E (n + 1) (upE f n e) H1 := by
  refine ⟨z, fun i hi => ?_⟩
  rw [upE_at]
  by_cases c : i = n
  · rw [if_pos c, c]; exact he
  · rw [if_neg c]
    exact (hP.2 i (by omega)).kept (o (eB E + i) (Nat.add_lt_add_left (by omega) _))
theorem pic_set {E : Ev} {n i : Nat} {f : Nat → va_E} {e : va_E} {H H1 : Heap} (hP : Pic E n f H) (z : H1.size = H.size) (o : ∀ q, q ≠ eB E + i → H1[q]? = H[q]?) (he : va_at (eG E) vwCl (eB E + i, e) H1) : Pic E n (upE f i e) H1 := by
  refine ⟨z.trans hP.1, fun j hj => ?_⟩
  rw [upE_at]
  by_cases c : j = i
  · rw [if_pos c, c]; exact he
  · rw [if_neg c]
    exact (hP.2 j hj).kept (o (eB E + j) fun z => c (Nat.add_left_cancel z))
theorem pic_S {E : Ev} {n : Nat} {f : Nat → va_E} {H0 H H1 : Heap} {locs : List Loc} (hS : va_S (eF E) H0 H locs) (hP : Pic E n f H) (z : H1.size = eB E + n + 1) (o : ∀ q, q < eB E + n → H1[q]? = H[q]?) : va_S (eF E) H0 H1 locs := by
  have h := hP.1
  exact ⟨Nat.le_trans hS.1 (by rw [h, z]; exact Nat.le_succ _), fun x h1 h2 => (o x (by rw [← h]; exact Nat.lt_of_lt_of_le h1 hS.1)).trans (hS.2.1 x h1 h2), hS.2.2⟩
/-- the links of constructors of nest mates -/
def nesW : List Cond := [.methodLinkNest RX3 11 yX2_init RX9, .methodLinkNest RX2 11 yX5_init RX9, .methodLinkNest RX3 28 yX0_init RX9, .methodLinkNest RX0 11 yX1_init RX9, .methodLinkNest RX3 38 yX8_init RX9, .methodLinkNest RX8 11 yX1_init RX9, .methodLinkNest RX6 37 yX1_init RX9]
theorem nesW_wrm : nesW.all wrm = true := by decide +kernel
/-- .. and that rows of their things can be made -/
def Nx (U : State) : Prop := (∀ w ∈ nesW, va_Nw w U) ∧ va_AO RX0 U ∧ va_AO RX1 U
theorem nes_go {s U : State} (hW : s.WarmedH U.vm) (h : Nx s) : Nx U := ⟨fun w hw => wrm_go (List.all_eq_true.mp nesW_wrm w hw) hW (h.1 w hw), va_AO.moved hW.alike h.2.1, va_AO.moved hW.alike h.2.2⟩
theorem nes_same {s U : State} (hv : s.vm = U.vm) (h : Nx s) : Nx U := ⟨fun w hw => va_Nw.same (wrm_on (List.all_eq_true.mp nesW_wrm w hw)) hv (h.1 w hw), va_AO.moved (by rw [hv]; exact Vm.Alike.refl _) h.2.1, va_AO.moved (by rw [hv]; exact Vm.Alike.refl _) h.2.2⟩
def Cn (E : Ev) (own : String) (nm : Method → Code → Prop) (cc : ByteArray) (nL : Nat) (rt : Option FieldType) (p : Program) (s : State) (m : MethodId) (args : Array Value) (meth : Method) (c : Code) : Prop :=
  p.tables.exec = Jvm.exec ∧ c.code = cc ∧ meth.sig.returnType = rt ∧ c.maxLocals = nL ∧ s.vm.findClass own = some m.cls ∧ (∀ w ∈ wsG, w.before args s = true) ∧ meth.locks = false ∧ va_K (eG E) vwCl (tysE E) s ∧ nm meth c ∧ Nx s
def Jn (l : Launch) (E : Ev) (own : String) (nm : Method → Code → Prop) (cc : ByteArray) (nL : Nat) (rt : Option FieldType) (R : Room) (Qf : List Frame → Array Value → State → State → Prop) (k w : Nat) (pc : Nat) (ls : List (Option Value)) (st : List Value) (n : Nat) (f : Nat → va_E) : Prop :=
  ∀ (p : Program) (e : Env) (s : State) (m : MethodId) (args : Array Value) (below : List Frame) (meth : Method) (c : Code), Cn E own nm cc nL rt p s m args meth c →
    ∀ (H : Heap) (locs : List Loc) (lsr : Array Slot), Pic E n f H → va_S (eF E) s.heap H locs → lv_has lsr nL (lp 0 ls) →
      W p l e R s m args below meth c H locs k w (Qf below args s) (F0 m pc lsr st)
def ini9 : Method → Code → Prop := fun a _ => a.name = "<init>"
def Qn (E : Ev) (n : Nat) (f : Nat → va_E) : Array Value → State → Outcome → State → Prop := fun _ st oc t => (oc = .returned none ∧ Pic E n f t.heap) ∧ va_F (eF E) st t
abbrev QfC (E : Ev) (n : Nat) (f : Nat → va_E) (mc ms : Nat) : List Frame → Array Value → State → State → Prop := fun below args s => MQ below (Qn E n f) args s mc ms (eF E)
/-- a constructor of the object at b: from a picture to a picture -/
def Nt (l : Launch) (E : Ev) (y : MethodName) (cc : ByteArray) (nL : Nat) (lv mc ms : Nat) (b : Nat) (n : Nat) (f : Nat → va_E) (n' : Nat) (f' : Nat → va_E) : Prop :=
  Met l y (wsM y cc nL none) (rmm lv mc ms) (va_Pc [.ref b] (fun U => Pic E n f U.heap ∧ va_K (eG E) vwCl (tysE E) U ∧ Nx U)) (Qn E n' f') mc ms (eF E)
theorem Nt.of {l : Launch} {E : Ev} {y : MethodName} {cc : ByteArray} {nL lv mc ms b n n' : Nat} {f f' : Nat → va_E} {own : String} (ho : y.cls = own) (hnm : y.name = "<init>") (ls : List (Option Value)) (hy : plainName own = true) (h1 : (lg_sl [Value.ref b]).length ≤ nL) (h2 : lp 0 ls = lv_args 0 [Value.ref b])
    (body : Jn l E own ini9 cc nL none (rmm lv mc ms) (QfC E n' f' mc ms) 0 0 0 ls [] n f) : Nt l E y cc nL lv mc ms b n f n' f' := by
  subst ho
  refine Met.ofW (cc := cc) (maxL := nL) (ret := none) hy rfl ?_
  intro p e s m args below meth c s₁ B hml hv
  obtain ⟨rfl, hP, hK, hne⟩ := hv
  obtain ⟨lsr, e1, hl⟩ := ent_has (m := m) h1 h2
  rw [e1]
  have hts := atoms_spec (ws := wsM y cc nL none) B.pre
  exact body p e s m _ below meth c ⟨B.exec, B.bytes, B.returns, hml, findClass_of_methodNamed B.named, fun w h => hts w (List.mem_cons_of_mem _ h), B.notSynchronized, hK, (name_of_methodNamed B.named B.method).1.trans hnm, hne⟩ s.heap [] lsr hP va_S.rf hl
section NR
variable {l : Launch} {E : Ev} {own : String} {nm : Method → Code → Prop} {cc : ByteArray} {nL : Nat} {rt : Option FieldType} {R : Room} {Qf : List Frame → Array Value → State → State → Prop} {k w : Nat} {pc : Nat} {ls : List (Option Value)} {st : List Value} {n : Nat} {f : Nat → va_E}
theorem n_aln {q : Fin 4} {x : Nat} (d : decode cc pc = .ok (.aload_n q, 1)) {i : Nat} (hi : (q : Nat) = i) (h : ls[i]? = some (some (.ref x))) (kk : Jn l E own nm cc nL rt R Qf k w (pc + 1) ls (.ref x :: st) n f) : Jn l E own nm cc nL rt R Qf k w pc ls st n f := fun p e s m args below meth c C H locs lsr hP hS hl => lv_aload_n C.1 C.2.1 d hi (lp_at hl h) (kk p e s m args below meth c C H locs lsr hP hS hl)
theorem n_iln {q : Fin 4} {x : Int32} (d : decode cc pc = .ok (.iload_n q, 1)) {i : Nat} (hi : (q : Nat) = i) (h : ls[i]? = some (some (.int x))) (kk : Jn l E own nm cc nL rt R Qf k w (pc + 1) ls (.int x :: st) n f) : Jn l E own nm cc nL rt R Qf k w pc ls st n f := fun p e s m args below meth c C H locs lsr hP hS hl => lv_iload_n C.1 C.2.1 d hi (lp_at hl h) (kk p e s m args below meth c C H locs lsr hP hS hl)
theorem n_dup {va : Value} (d : decode cc pc = .ok (.dup, 1)) (h1 : va.category = 1) (kk : Jn l E own nm cc nL rt R Qf k w (pc + 1) ls (va :: va :: st) n f) : Jn l E own nm cc nL rt R Qf k w pc ls (va :: st) n f := fun p e s m args below meth c C H locs lsr hP hS hl => lv_dup C.1 C.2.1 d h1 (kk p e s m args below meth c C H locs lsr hP hS hl)
theorem n_ic {z : Int} {v : Int32} (d : decode cc pc = .ok (.iconst z, 1)) (hv : Int32.ofInt z = v) (kk : Jn l E own nm cc nL rt R Qf k w (pc + 1) ls (.int v :: st) n f) : Jn l E own nm cc nL rt R Qf k w pc ls st n f := fun p e s m args below meth c C H locs lsr hP hS hl => lv_iconst C.1 C.2.1 d hv (kk p e s m args below meth c C H locs lsr hP hS hl)
theorem n_bi {z : Int} (v : Nat) (d : decode cc pc = .ok (.bipush z, 2)) (hv : (Int8.ofInt z).toInt32 = nI v) (kk : Jn l E own nm cc nL rt R Qf k w (pc + 2) ls (.int (nI v) :: st) n f) : Jn l E own nm cc nL rt R Qf k w pc ls st n f := fun p e s m args below meth c C H locs lsr hP hS hl => lv_bipush C.1 C.2.1 d hv (kk p e s m args below meth c C H locs lsr hP hS hl)
theorem n_si {z : Int} (v : Nat) (d : decode cc pc = .ok (.sipush z, 3)) (hv : (Int16.ofInt z).toInt32 = nI v) (kk : Jn l E own nm cc nL rt R Qf k w (pc + 3) ls (.int (nI v) :: st) n f) : Jn l E own nm cc nL rt R Qf k w pc ls st n f := fun p e s m args below meth c C H locs lsr hP hS hl => lv_sipush C.1 C.2.1 d hv (kk p e s m args below meth c C H locs lsr hP hS hl)
theorem n_istn {q : Fin 4} {x : Int32} {ls' : List (Option Value)} (d : decode cc pc = .ok (.istore_n q, 1)) {i : Nat} (hi : (q : Nat) = i) (hn : i < nL) (hc : ncp ls i = true) (hls : ls.set i (some (.int x)) = ls') (kk : Jn l E own nm cc nL rt R Qf k w (pc + 1) ls' st n f) : Jn l E own nm cc nL rt R Qf k w pc ls (.int x :: st) n f := fun p e s m args below meth c C H locs lsr hP hS hl => lv_istore_n C.1 C.2.1 d hi hl hn rfl (fun lsr2 hl2 => kk p e s m args below meth c C H locs lsr2 hP hS (hls ▸ lp_set1 hc hl2))
theorem n_ist {i : Nat} {x : Int32} {ls' : List (Option Value)} (d : decode cc pc = .ok (.istore i, 2)) (hn : i < nL) (hc : ncp ls i = true) (hls : ls.set i (some (.int x)) = ls') (kk : Jn l E own nm cc nL rt R Qf k w (pc + 2) ls' st n f) : Jn l E own nm cc nL rt R Qf k w pc ls (.int x :: st) n f := fun p e s m args below meth c C H locs lsr hP hS hl => lv_istore C.1 C.2.1 d hl hn rfl (fun lsr2 hl2 => kk p e s m args below meth c C H locs lsr2 hP hS (hls ▸ lp_set1 hc hl2))
theorem n_astn {q : Fin 4} {x : Nat} {ls' : List (Option Value)} (d : decode cc pc = .ok (.astore_n q, 1)) {i : Nat} (hi : (q : Nat) = i) (hn : i < nL) (hc : ncp ls i = true) (hls : ls.set i (some (.ref x)) = ls') (kk : Jn l E own nm cc nL rt R Qf k w (pc + 1) ls' st n f) : Jn l E own nm cc nL rt R Qf k w pc ls (.ref x :: st) n f := fun p e s m args below meth c C H locs lsr hP hS hl => lv_astore_n C.1 C.2.1 d hi hl hn rfl (fun lsr2 hl2 => kk p e s m args below meth c C H locs lsr2 hP hS (hls ▸ lp_set1 hc hl2))
theorem n_ast {i : Nat} {x : Nat} {ls' : List (Option Value)} (d : decode cc pc = .ok (.astore i, 2)) (hn : i < nL) (hc : ncp ls i = true) (hls : ls.set i (some (.ref x)) = ls') (kk : Jn l E own nm cc nL rt R Qf k w (pc + 2) ls' st n f) : Jn l E own nm cc nL rt R Qf k w pc ls (.ref x :: st) n f := fun p e s m args below meth c C H locs lsr hP hS hl => lv_astore C.1 C.2.1 d hl hn rfl (fun lsr2 hl2 => kk p e s m args below meth c C H locs lsr2 hP hS (hls ▸ lp_set1 hc hl2))
theorem n_inc {i : Nat} {z : Int} {x v : Int32} {ls' : List (Option Value)} (d : decode cc pc = .ok (.iinc i z, 3)) (h : ls[i]? = some (some (.int x))) (hv : Int32.ofInt z = v) (hn : i < nL) (hc : ncp ls i = true) (hls : ls.set i (some (.int (x + v))) = ls') (kk : Jn l E own nm cc nL rt R Qf k w (pc + 3) ls' st n f) : Jn l E own nm cc nL rt R Qf k w pc ls st n f := by
  intro p e s m args below meth c C H locs lsr hP hS hl
  obtain ⟨j, hj⟩ := List.getElem?_of_mem ((lp_iff ls 0 (i, .int x)).mpr ⟨Nat.zero_le _, by simpa using h⟩)
  exact lv_iinc C.1 C.2.1 d hl hj (by rw [hv]) hn rfl (fun lsr2 hl2 => kk p e s m args below meth c C H locs lsr2 hP hS (hls ▸ lp_set1 hc hl2))
theorem n_incN {i x : Nat} {z : Int} {ls' : List (Option Value)} (c : Nat) (d : decode cc pc = .ok (.iinc i z, 3)) (h : ls[i]? = some (some (.int (nI x)))) (hv : Int32.ofInt z = nI c) (hn : i < nL) (hc : ncp ls i = true) (hls : ls.set i (some (.int (nI (x + c)))) = ls') (kk : Jn l E own nm cc nL rt R Qf k w (pc + 3) ls' st n f) : Jn l E own nm cc nL rt R Qf k w pc ls st n f := n_inc d h hv hn hc (by rw [nI_add]; exact hls) kk
theorem n_icge {a b : Nat} {off : Int} {tgt : Nat} (d : decode cc pc = .ok (.if_icmp .ge off, 3)) (ht : (pc : Int) + off = (tgt : Int)) (ha : a < 2 ^ 31) (hb : b < 2 ^ 31) (kt : b ≤ a → Jn l E own nm cc nL rt R Qf k w tgt ls st n f) (kf : ¬ b ≤ a → Jn l E own nm cc nL rt R Qf k w (pc + 3) ls st n f) : Jn l E own nm cc nL rt R Qf k w pc ls (.int (nI b) :: .int (nI a) :: st) n f := fun p e s m args below meth c C H locs lsr hP hS hl => lv_icmp_ge C.1 C.2.1 d ht (fun h => kt ((nI_leI hb ha).mp h) p e s m args below meth c C H locs lsr hP hS hl) (fun h => kf (fun q => h ((nI_leI hb ha).mpr q)) p e s m args below meth c C H locs lsr hP hS hl)
theorem n_icgt {a b : Nat} {off : Int} {tgt : Nat} (d : decode cc pc = .ok (.if_icmp .gt off, 3)) (ht : (pc : Int) + off = (tgt : Int)) (ha : a < 2 ^ 31) (hb : b < 2 ^ 31) (kt : b < a → Jn l E own nm cc nL rt R Qf k w tgt ls st n f) (kf : ¬ b < a → Jn l E own nm cc nL rt R Qf k w (pc + 3) ls st n f) : Jn l E own nm cc nL rt R Qf k w pc ls (.int (nI b) :: .int (nI a) :: st) n f := fun p e s m args below meth c C H locs lsr hP hS hl => lv_icmp_gt C.1 C.2.1 d ht (fun h => kt ((nI_ltI hb ha).mp h) p e s m args below meth c C H locs lsr hP hS hl) (fun h => kf (fun q => h ((nI_ltI hb ha).mpr q)) p e s m args below meth c C H locs lsr hP hS hl)
theorem n_goto {off : Int} {tgt : Nat} (d : decode cc pc = .ok (.goto off, 3)) (ht : (pc : Int) + off = (tgt : Int)) (kk : Jn l E own nm cc nL rt R Qf k w tgt ls st n f) : Jn l E own nm cc nL rt R Qf k w pc ls st n f := fun p e s m args below meth c C H locs lsr hP hS hl => lv_goto C.1 C.2.1 d ht (kk p e s m args below meth c C H locs lsr hP hS hl)
theorem n_vret {mc ms n' : Nat} {f' : Nat → va_E} (d : decode cc pc = .ok (.return_, 1)) (hr : rt = none) (hk : k ≤ mc) (hw : w ≤ ms) (hn : n = n') (hf : f = f') : Jn l E own nm cc nL rt R (QfC E n' f' mc ms) k w pc ls [] n f := by
  subst hn hf
  intro p e s m args below meth c C H locs lsr hP hS hl
  have hr2 := C.2.2.1.trans hr
  have hlocks := C.2.2.2.2.2.2.1
  refine W.widen hk hw ?_
  exact W.vret C.1 C.2.1 hr2 (fun t ht hW => ⟨⟨rfl, by rw [ht]; exact hP⟩, hS.F ht⟩) hS.2.2 d
/-- Object's constructor -/
theorem n_obj {ix a : Nat} (hw : Cond.methodLink own ix objectInit ∈ wsG) (d : decode cc pc = .ok (.invokespecial ix, 3)) (h1 : 1 ≤ R.frames) (h2 : (st.map fun v => v.category).sum + 12 ≤ R.locals) (kk : Jn l E own nm cc nL rt R Qf k w (pc + 3) ls st n f) : Jn l E own nm cc nL rt R Qf k w pc ls (.ref a :: st) n f := by
  intro p e s m args below meth c C H locs lsr hP hS hl
  obtain ⟨hx, hb, hr, hml, hown, hts, hlk, hK, hnm, hne⟩ := id C
  exact W.objInit hx hb hown (hts _ hw) (hts (.instanceMethod objectInit) (wg1 (i := 35) rfl rfl)) (hts _ (wg1 (i := 36) rfl rfl)) rfl (by rw [hml]; exact hl.1) rfl d h1 (by show 2 * 0 + _ + 12 ≤ _; omega) (kk p e s m args below meth c C H locs lsr hP hS hl)
/-- a new object -/
theorem n_new {C : String} {T : u_T} {N ci ix : Nat} {fs : List Value} (ty : Nat → FieldType) (hty : ∀ k, k < N → parseFieldDescriptor (T k).2.2.1 = some (ty k)) (hlay : ∀ w ∈ u_ws C T N, w ∈ wsG) (hc : vwCl[ci]? = some (C, T, N)) (hw : Cond.classLink own ix C ∈ wsG) (hin : Cond.instantiable C N ∈ wsG) (hini : Cond.initialized C ∈ wsG) (hfs : ∀ j, j < N → defaultValue (ty j) = vp_V fs j) (hk : k + 1 ≤ R.cells) (hs : w + N ≤ R.slots) (d : decode cc pc = .ok (.new ix, 3))
    (kk : Jn l E own nm cc nL rt R Qf (k + 1) (w + N) (pc + 3) ls (.ref (eB E + n) :: st) (n + 1) (upE f n (.inr (ci, fs)))) : Jn l E own nm cc nL rt R Qf k w pc ls st n f := by
  intro p e s m args below meth c C9 H locs lsr hP hS hl
  obtain ⟨hx, hb, hr, hml, hown, hts, hlk, hK, hnm, hne⟩ := id C9
  have hKn := hK.1 ci _ hc
  refine W.newcK hx hb hown (hts _ hw) (hts _ hin) (hts _ hini) rfl d hk hs hKn.2.1 hP.1 fun H1 kC hkC e1 z1 o1 => ?_
  exact kk p e s m args below meth c C9 H1 locs lsr (pic_push hP z1 o1 ⟨_, hc, (u_born ty hts hlay hKn hkC e1 hty).to hfs⟩) (pic_S hS hP z1 o1) hl
/-- a new row of numbers -/
theorem n_na {ix : ArrayType} {ty : FieldType} {N : Nat} {y : ClassId} {a0 : (Nat → Int32) ⊕ (Nat → Int64) ⊕ (Nat → UInt32) ⊕ (Nat → UInt64) ⊕ (Nat → Option Nat)} (t0 : Nat) (hw : Cond.arrayClass ty ∈ wsG) (hty : newarray.typeOf ix = ty) (hra : ∀ U : State, va_RA U y ty → U.vm.findClass ("[" ++ ty.toString) = some y) (ht : (tysE E)[t0]? = some (y, ty)) (ha : vp_cell y (N, a0) = arrV y N (fun _ => defaultValue ty)) (hN : N < 2 ^ 31) (hbytes : N * componentBytes ty ≤ 536870912) (hk : k + 1 ≤ R.cells) (hs : w + N ≤ R.slots) (d : decode cc pc = .ok (.newarray ix, 2))
    (kk : Jn l E own nm cc nL rt R Qf (k + 1) (w + N) (pc + 2) ls (.ref (eB E + n) :: st) (n + 1) (upE f n (.inl (y, N, a0)))) : Jn l E own nm cc nL rt R Qf k w pc ls (.int (nI N) :: st) n f := by
  intro p e s m args below meth c C9 H locs lsr hP hS hl
  obtain ⟨hx, hb, hr, hml, hown, hts, hlk, hK, hnm, hne⟩ := id C9
  subst hty
  refine va_newaK hx hb (hts _ hw) rfl d rfl (nI_pos hN) (nI_clamp hN) hbytes hk hs hP.1 fun H1 cA e1 z1 o1 hAr hNm => ?_
  have hcA : cA = y := Option.some.inj (hNm.symm.trans (hra s (hK.2 t0 _ ht).2))
  subst hcA
  refine kk p e s m args below meth c C9 H1 locs lsr (pic_push hP z1 o1 ?_) (pic_S hS hP z1 o1) hl
  show H1[_]? = some (vp_cell cA (N, a0))
  rw [ha]; exact e1
/-- a new row of things -/
theorem n_nq {ix N : Nat} {C : String} {y : ClassId} {v : Int32} (t0 : Nat) (hw : Cond.classLink own ix C ∈ wsG) (hov : ∀ U : State, Nx U → va_AO C U) (ht : (tysE E)[t0]? = some (y, .object C)) (hv : ¬ v < 0) (hN : v.toNatClampNeg = N) (hbytes : N * 4 ≤ 536870912) (hk : k + 1 ≤ R.cells) (hs : w + N ≤ R.slots) (d : decode cc pc = .ok (.anewarray ix, 3))
    (kk : Jn l E own nm cc nL rt R Qf (k + 1) (w + N) (pc + 3) ls (.ref (eB E + n) :: st) (n + 1) (upE f n (.inl (y, N, .inr (.inr (.inr (.inr fun _ => none))))))) : Jn l E own nm cc nL rt R Qf k w pc ls (.int v :: st) n f := by
  intro p e s m args below meth c C9 H locs lsr hP hS hl
  obtain ⟨hx, hb, hr, hml, hown, hts, hlk, hK, hnm, hne⟩ := id C9
  subst hN
  refine W.anew hx hb hown (hts _ hw) (va_AO.use (hov s hne)) rfl d rfl hv hbytes hk hs fun cA kA comp f1 f2 f3 f4 => ?_
  obtain ⟨kA', comp', -, -, -, f5⟩ := (hK.2 t0 _ ht).2
  have hcA : cA = y := Option.some.inj (f1.symm.trans f5)
  subst hcA
  have z1 : (H.push ({ cls := cA, slots := Array.replicate v.toNatClampNeg .null, vm := .none } : Cell)).size = eB E + n + 1 := by rw [Array.size_push, hP.1]
  have o1 : ∀ q : Nat, q < eB E + n → (H.push ({ cls := cA, slots := Array.replicate v.toNatClampNeg .null, vm := .none } : Cell))[q]? = H[q]? := fun q hq => by rw [Array.getElem?_push, if_neg (by rw [hP.1]; omega)]
  have e1 : (H.push ({ cls := cA, slots := Array.replicate v.toNatClampNeg .null, vm := .none } : Cell))[eB E + n]? = some (vp_cell cA (v.toNatClampNeg, .inr (.inr (.inr (.inr fun _ => none))))) := by
    rw [vp_cell_q, ← hP.1, Array.getElem?_push_size, arrV_new]
    rfl
  rw [show H.size = eB E + n from hP.1]
  exact kk p e s m args below meth c C9 _ locs lsr (pic_push hP z1 o1 e1) (pic_S hS hP z1 o1) hl
/-- a field of the object that is made -/
theorem n_putF {ci ix i N : Nat} {T : u_T} {fs : List Value} {ty0 : Nat → FieldType} {ty : FieldType} {v : Value} (j : Nat) (hlay : ∀ w ∈ u_ws own T N, w ∈ wsG) (hty : ∀ k, k < N → parseFieldDescriptor (T k).2.2.1 = some (ty0 k)) (hap : ∀ a, a < N → ∀ b, b < N → a ≠ b → (T a).2.1 ≠ (T b).2.1) (hc : vwCl[ci]? = some (own, T, N)) (hi : i < n) (he : f i = .inr (ci, fs)) (hj : j < N) (hw : Cond.fieldLink own ix (T j).1 (T j).2.1 (T j).2.2.1 ∈ wsG) (hT1 : (T j).1 = own) (hfin : (T j).2.2.2 = true) (hd : parseFieldDescriptor (T j).2.2.1 = some ty) (hn : narrow ty v = v) (hfit : fits ty v = true) (hl : j < fs.length) (hini : ∀ (a : Method) (b : Code), nm a b → a.name = "<init>") (d : decode cc pc = .ok (.putfield ix, 3))
    (kk : Jn l E own nm cc nL rt R Qf k w (pc + 3) ls st n (upE f i (.inr (ci, fs.set j v)))) : Jn l E own nm cc nL rt R Qf k w pc ls (v :: .ref (eB E + i) :: st) n f := by
  intro p e s m args below meth c C9 H locs lsr hP hS hl9
  obtain ⟨hx, hb, hr, hml, hown, hts, hlk, hK, hnm, hne⟩ := id C9
  have hap := va_apart (own := own) hts hlay ty0 hty hap hK hc
  have h0 := hP.2 i hi
  rw [he] at h0
  obtain ⟨r, h1, cell, q1, q2, q3, q4⟩ := h0
  have hr9 : r = (own, T, N) := Option.some.inj (h1.symm.trans hc)
  subst hr9
  obtain ⟨hS9, hfc, kC, hkC, hkind⟩ := hK.1 ci _ hc
  obtain ⟨cf, kf, fi, fd, hi9, hsl⟩ := hS9 j hj
  have hlay9 := hts _ (hlay _ (u_in_lay hj))
  unfold u_lay at hlay9
  rw [if_pos hfin] at hlay9
  have hst := (u_facts hfc hkC (u_lays hts hlay hj) hi9).1
  have hcf : m.cls = cf := by
    obtain ⟨_, _, c', _, _, _, -, -, hf', -, -, -, hown2, -⟩ := Cond.laysFinal_spec hlay9
    have e1 : c' = cf := by have := hi9.symm.trans hf'; simp at this; exact this.1.symm
    rw [hT1] at hown2
    rw [← e1]; exact Option.some.inj (hown.symm.trans hown2)
  have h6 := u_fits hfc hkC hkind (Or.inr hlay9) hi9 hd hn hfit
  refine W.putFinK hx hb hown (hts _ hw) hi9 hst hcf (hini _ _ hnm) (by rw [q2]; exact h6) q1 q3 (by rw [hsl]; exact k2_hasslot (q4 j hj)) rfl rfl d fun H' e1 e2 e3 => ?_
  rw [hsl] at e1 ⊢
  exact kk p e s m args below meth c C9 H' _ lsr (pic_set hP e2 e3 ⟨_, hc, t_OB.to (V := updV (vp_V fs) j v) ⟨_, e1, q2, q3, t_set q4 hap hj v⟩ (fun j9 _ => vp_updV_set hl v j9)⟩) (hS.put e2 e3 (Nat.le_add_right _ _)) hl9
/-- a field read -/
theorem n_get {ci ix i N : Nat} {T : u_T} {Cn9 : String} {fs : List Value} {v : Value} (j : Nat) (hlay : ∀ w ∈ u_ws Cn9 T N, w ∈ wsG) (hc : vwCl[ci]? = some (Cn9, T, N)) (hi : i < n) (he : f i = .inr (ci, fs)) (hj : j < N) (hw : Cond.fieldLink own ix (T j).1 (T j).2.1 (T j).2.2.1 ∈ wsG) (hv : fs[j]? = some v) (d : decode cc pc = .ok (.getfield ix, 3))
    (kk : Jn l E own nm cc nL rt R Qf k w (pc + 3) ls (v :: st) n f) : Jn l E own nm cc nL rt R Qf k w pc ls (.ref (eB E + i) :: st) n f := by
  intro p e s m args below meth c C9 H locs lsr hP hS hl9
  obtain ⟨hx, hb, hr, hml, hown, hts, hlk, hK, hnm, hne⟩ := id C9
  have h0 := hP.2 i hi
  rw [he] at h0
  have hP1 : va_P (eG E) vwCl [(eB E + i, .inr (ci, fs))] H := fun k9 q9 hk9 => by
    have hz : k9 < 1 := (List.getElem?_eq_some_iff.mp hk9).1
    rw [show k9 = 0 by omega] at hk9
    cases hk9
    exact h0
  exact va_get hx hb hts hlay hown hK hP1 0 rfl hc j hj (hts _ hw) (fun x h => h) hv d (kk p e s m args below meth c C9 H locs lsr hP hS hl9)
/-- a thing put into a row of things -/
theorem n_aast {a b ci N r9 : Nat} {y : ClassId} {r : vw_C} {vs : List Value} {g : Nat → Option Nat} (t0 : Nat) (ht : (tysE E)[t0]? = some (y, .object r.1)) (hc : vwCl[ci]? = some r) (ha : a < n) (hea : f a = .inl (y, N, .inr (.inr (.inr (.inr g))))) (hb9 : b < n) (heb : f b = .inr (ci, vs)) (hr9 : r9 < N) (hN : N < 2 ^ 31) (d : decode cc pc = .ok (.aastore, 1))
    (kk : Jn l E own nm cc nL rt R Qf k w (pc + 1) ls st n (upE f a (.inl (y, N, .inr (.inr (.inr (.inr fun j => if j = r9 then some (eB E + b) else g j))))))) : Jn l E own nm cc nL rt R Qf k w pc ls (.ref (eB E + b) :: .int (nI r9) :: .ref (eB E + a) :: st) n f := by
  intro p e s m args below meth c C9 H locs lsr hP hS hl9
  obtain ⟨hx, hb, hr, hml, hown, hts, hlk, hK, hnm, hne⟩ := id C9
  have h0 := hP.2 a ha
  rw [hea] at h0
  have h1 := hP.2 b hb9
  rw [heb] at h1
  obtain ⟨r', hr', cellV, g1, g2, g3, -⟩ := h1
  have hcls := (hK.1 ci r hc).2
  obtain ⟨kA, comp, k1, k2, k3, -⟩ := (hK.2 t0 _ ht).2
  have hcomp : comp = (eG E).1 ci := Option.some.inj (k3.symm.trans hcls.1)
  subst hcomp
  obtain ⟨kC, hkC, -⟩ := hcls.2
  refine W.aast hx hb h0 (fun q h => by cases h) (fun h => by cases h) k1 k2 rfl hkC ⟨nI_pos (by omega), by show _ < (arrV _ _ _).slots.size; rw [arrV_size, nI_clamp (by omega)]; exact hr9⟩ g1 (fun q h => by rw [g3] at h; cases h) (by rw [g2]; exact hkC) (by rw [g2]; exact va_assign hcls) rfl rfl d fun H1 e1 z oq => ?_
  refine kk p e s m args below meth c C9 H1 _ lsr (pic_set hP z oq ?_) (hS.put z oq (Nat.le_add_right _ _)) hl9
  show H1[eB E + a]? = some (vp_cell _ _)
  rw [e1, vp_cell_q, vp_cell_q, arrV_store, nI_clamp (by omega)]
  congr 2
  funext q
  unfold updV
  by_cases hq : q = r9
  · rw [if_pos hq, if_pos hq]; rfl
  · rw [if_neg hq, if_neg hq]
/-- a sign put into a row of signs, a number into a row of numbers -/
theorem n_cast {a N r9 : Nat} {y : ClassId} {x : Int32} {g : Nat → Int32} (t0 : Nat) (ht : (tysE E)[t0]? = some (y, .char)) (ha : a < n) (hea : f a = .inl (y, N, .inl g)) (hr9 : r9 < N) (hN : N < 2 ^ 31) (hx9 : vp_nar .char x = x) (d : decode cc pc = .ok (.castore, 1))
    (kk : Jn l E own nm cc nL rt R Qf k w (pc + 1) ls st n (upE f a (.inl (y, N, .inl fun j => if j = r9 then x else g j)))) : Jn l E own nm cc nL rt R Qf k w pc ls (.int x :: .int (nI r9) :: .ref (eB E + a) :: st) n f := by
  intro p e s m args below meth c C9 H locs lsr hP hS hl9
  obtain ⟨hx, hb, hr, hml, hown, hts, hlk, hK, hnm, hne⟩ := id C9
  have h0 := hP.2 a ha
  rw [hea] at h0
  have hin : vp_in (nI r9) N := vp_in_nI hr9 hN
  refine W.cast hx hb h0 ((hK.2 t0 _ ht).1 N (fun j => .int (g j))) (fun q => by cases q) (by show ¬ (nI r9 < 0 ∨ (arrV _ _ _).slots.size ≤ _); rw [arrV_size]; exact hin) rfl rfl d fun H1 e1 z oq => ?_
  refine kk p e s m args below meth c C9 H1 _ lsr (pic_set hP z oq ?_) (hS.put z oq (Nat.le_add_right _ _)) hl9
  show H1[eB E + a]? = some (vp_cell _ _)
  rw [e1, vp_cell_i, vp_cell_i, arrV_store, nI_clamp (by omega)]
  congr 2
  funext q
  unfold updV
  by_cases hq : q = r9
  · rw [if_pos hq, if_pos hq]
    show Value.int (vp_nar .char x) = _
    rw [hx9]
  · rw [if_neg hq, if_neg hq]
theorem n_iast {a N r9 : Nat} {y : ClassId} {x : Int32} {g : Nat → Int32} (t0 : Nat) (ht : (tysE E)[t0]? = some (y, .int)) (ha : a < n) (hea : f a = .inl (y, N, .inl g)) (hr9 : r9 < N) (hN : N < 2 ^ 31) (d : decode cc pc = .ok (.iastore, 1))
    (kk : Jn l E own nm cc nL rt R Qf k w (pc + 1) ls st n (upE f a (.inl (y, N, .inl fun j => if j = r9 then x else g j)))) : Jn l E own nm cc nL rt R Qf k w pc ls (.int x :: .int (nI r9) :: .ref (eB E + a) :: st) n f := by
  intro p e s m args below meth c C9 H locs lsr hP hS hl9
  obtain ⟨hx, hb, hr, hml, hown, hts, hlk, hK, hnm, hne⟩ := id C9
  have h0 := hP.2 a ha
  rw [hea] at h0
  have hin : vp_in (nI r9) N := vp_in_nI hr9 hN
  refine W.iast hx hb h0 ((hK.2 t0 _ ht).1 N (fun j => .int (g j))) (fun q => by cases q) (by show ¬ (nI r9 < 0 ∨ (arrV _ _ _).slots.size ≤ _); rw [arrV_size]; exact hin) rfl rfl d fun H1 e1 z oq => ?_
  refine kk p e s m args below meth c C9 H1 _ lsr (pic_set hP z oq ?_) (hS.put z oq (Nat.le_add_right _ _)) hl9
  show H1[eB E + a]? = some (vp_cell _ _)
  rw [e1, vp_cell_i, vp_cell_i, arrV_store, nI_clamp (by omega)]
  congr 2
  funext q
  unfold updV
  by_cases hq : q = r9
  · rw [if_pos hq, if_pos hq]
  · rw [if_neg hq, if_neg hq]
/-- a constructor called -/
def MfI (y : MethodName) (cc : ByteArray) (nL : Nat) : Prop := (y.cls ≠ "java/lang/invoke/MethodHandle" ∧ y.cls ≠ "java/lang/invoke/VarHandle" ∧ (parseMethodDescriptor y.desc).map (fun d => d.parameters.length) = some 0) ∧ y.name = "<init>" ∧ Cond.instanceMethod y ∈ wsG ∧ Cond.initialized y.cls ∈ wsG ∧ Cond.code y cc nL none ∈ wsG
theorem n_blind {E : Ev} {n b : Nat} {f : Nat → va_E} : FrameBlind (va_Pc [.ref b] (fun U => Pic E n f U.heap ∧ va_K (eG E) vwCl (tysE E) U ∧ Nx U)) := by
  intro a U g mk h
  exact ⟨h.1, h.2.1, va_K.moved (u := U) (U := U.calling g mk a) (Vm.Alike.refl U.vm) h.2.2.1, nes_same (s := U) (U := U.calling g mk a) rfl h.2.2.2⟩
theorem n_call {y : MethodName} {cy : ByteArray} {nY ix lv' mc ms b n' : Nat} {f' : Nat → va_E} (mf : MfI y cy nY) (hw : Cond.methodLink own ix y ∈ wsG) (hlv : lv' + 1 ≤ R.frames ∧ 8 + (nY + 11) + 50 * lv' ≤ R.locals) (hC : Nt l E y cy nY lv' mc ms b n f n' f') (hr8 : (st.map fun v => v.category).sum ≤ 8) (d : decode cc pc = .ok (.invokespecial ix, 3)) (hf : k + mc ≤ R.cells ∧ w + ms ≤ R.slots)
    (kk : Jn l E own nm cc nL rt R Qf (k + mc) (w + ms) (pc + 3) ls st n' f') : Jn l E own nm cc nL rt R Qf k w pc ls (.ref b :: st) n f := by
  intro p e s m args below meth c C9 H locs lsr hP hS hl9
  obtain ⟨hx, hb, hr, hml, hown, hts, hlk, hK, hnm, hne⟩ := id C9
  obtain ⟨m0, m1, m2, m3, m4⟩ := mf
  have hG : GoodIn wsG (wsM y cy nY none) := by
    intro w9 hw9
    simp only [wsM, List.mem_cons] at hw9
    rcases hw9 with rfl | h
    · exact wsG_good _ m4
    · exact wsG_good _ h
  have hrun := va_runI (e := e) (below := below) (meth := meth) (H := H) (As := []) (rest := st) (g := F0 m pc lsr (.ref b :: st)) (locs := locs) (cells := k) (slots := w) ⟨hx, hb, hml, hown, hts⟩ hC (cwI 0 hts hG rfl rfl rfl (hts _ m3) (hts _ hw) (hts _ m2) m1 m0 hlv) ⟨n_blind, fun U hU hW => ⟨rfl, by rw [hU]; exact hP, va_K.moved hW.alike hK, nes_go hW hne⟩⟩ rfl rfl hl9.1 rfl (lv_room hr8) d hf
  intro T hT X
  obtain ⟨v, st₀, t, T', L, h0, X', hL, e1, e2, ⟨⟨hv, hP'⟩, hF⟩, stp⟩ := hrun T hT X
  cases hv
  obtain ⟨k1, k2, k3⟩ := vx_keep (H0 := s.heap) h0 e1 hS (fun _ _ h => h) (fun _ h => h) hL hF
  obtain ⟨t2, a1, b1⟩ := kk p e s m args below meth c C9 T'.heap (locs ++ L) lsr (by rw [e1]; exact hP') k3 hl9 T' rfl X'
  exact ⟨t2, stp t2 a1, b1⟩
theorem n_callN {y : MethodName} {cy : ByteArray} {nY ix lv' mc ms b n' : Nat} {f' : Nat → va_E} (mf : MfI y cy nY) (hw : Cond.methodLinkNest own ix y RX9 ∈ nesW) (hlv : lv' + 1 ≤ R.frames ∧ 8 + (nY + 11) + 50 * lv' ≤ R.locals) (hC : Nt l E y cy nY lv' mc ms b n f n' f') (hr8 : (st.map fun v => v.category).sum ≤ 8) (d : decode cc pc = .ok (.invokespecial ix, 3)) (hf : k + mc ≤ R.cells ∧ w + ms ≤ R.slots)
    (kk : Jn l E own nm cc nL rt R Qf (k + mc) (w + ms) (pc + 3) ls st n' f') : Jn l E own nm cc nL rt R Qf k w pc ls (.ref b :: st) n f := by
  intro p e s m args below meth c C9 H locs lsr hP hS hl9
  obtain ⟨hx, hb, hr, hml, hown, hts, hlk, hK, hnm, hne⟩ := id C9
  obtain ⟨m0, m1, m2, m3, m4⟩ := mf
  have hG : GoodIn wsG (wsM y cy nY none) := by
    intro w9 hw9
    simp only [wsM, List.mem_cons] at hw9
    rcases hw9 with rfl | h
    · exact wsG_good _ m4
    · exact wsG_good _ h
  have hrun := va_runIN (host := RX9) (e := e) (below := below) (meth := meth) (H := H) (As := []) (rest := st) (g := F0 m pc lsr (.ref b :: st)) (locs := locs) (cells := k) (slots := w) ⟨hx, hb, hml, hown, hts⟩ hC ⟨va_cnB 0 hts hG rfl rfl rfl (hne.1 _ hw) (hts _ m3) m0 hlv, m1, hts _ m2⟩ ⟨n_blind, fun U hU hW => ⟨rfl, by rw [hU]; exact hP, va_K.moved hW.alike hK, nes_go hW hne⟩⟩ rfl rfl hl9.1 rfl (lv_room hr8) d hf
  intro T hT X
  obtain ⟨v, st₀, t, T', L, h0, X', hL, e1, e2, ⟨⟨hv, hP'⟩, hF⟩, stp⟩ := hrun T hT X
  cases hv
  obtain ⟨k1, k2, k3⟩ := vx_keep (H0 := s.heap) h0 e1 hS (fun _ _ h => h) (fun _ h => h) hL hF
  obtain ⟨t2, a1, b1⟩ := kk p e s m args below meth c C9 T'.heap (locs ++ L) lsr (by rw [e1]; exact hP') k3 hl9 T' rfl X'
  exact ⟨t2, stp t2 a1, b1⟩
end NR
