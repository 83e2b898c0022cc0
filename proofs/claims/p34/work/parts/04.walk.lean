/-! THE WALK: one judgement, its rules -/
/-- the good words of the tables -/
def wsG : List Cond := lw_tbl.filter goodWord
theorem wg {i : Nat} {w : Cond} (h : lw_tbl[i]? = some w) (hg : goodWord w = true) : w ∈ wsG := List.mem_filter.mpr ⟨List.mem_of_getElem? h, hg⟩
theorem wsG_good : GoodIn wsG wsG := fun w h => ⟨h, good_of_word (List.mem_filter.mp h).2⟩
def exN : List String := ["java/lang/RuntimeException", "java/lang/Exception"]
def exC : List String := ["java/lang/IllegalArgumentException", "java/lang/UnsupportedOperationException", "java/lang/IllegalStateException", "java/util/NoSuchElementException", "java/lang/IndexOutOfBoundsException", "java/lang/ArithmeticException"]
/-- words that are no good words, but go with the tables: links of nest mates, what throws need -/
def badS : List Cond := [.methodLinkNest RX8 60 yX9_isAxis RX9, .methodLinkNest RX8 64 yX9_isSide RX9, .methodLinkNest RX5 25 yX9_isGiven RX9] ++ (exC.flatMap (fun X => vx_atS RX9 0 X exN)).filter (fun w => !goodWord w)
def wrm : Cond → Bool
  | .castable .. => true
  | .declares .. => true
  | .methodLinkNest .. => true
  | _ => false
theorem wrm_go {w : Cond} (h : wrm w = true) {s U : State} (hW : s.WarmedH U.vm) (hZ : va_Nw w s) : va_Nw w U := by
  cases w <;> simp only [wrm, Bool.false_eq_true] at h
  · exact va_Nw.warmM hW hZ
  · exact va_Nw.warmD hW hZ
  · exact va_Nw.warmC hW hZ
theorem wrm_on {w : Cond} (h : wrm w = true) : w.onTables = true := by
  cases w <;> simp only [wrm, Bool.false_eq_true] at h <;> rfl
theorem badS_wrm : badS.all wrm = true := by decide +kernel
/-- the class's text constants, but KINDS -/
def strs : List (Nat × String) := [(38, "no such name, term or operation"), (59, "a named number would need itself"), (81, "a feature would stand ahead of one that it needs"), (89, "no such name"), (102, "no such kind or dimension"), (113, "no more features or numbers"), (128, "no such feature"), (131, "no such dimension"), (137, "another feature needs it"), (145, "no such place"), (171, "no such cell"), (192, "no such side"), (198, "no square of the body"), (200, "no such number or side"), (224, "no such axis"), (228, "no cells"), (239, "a move is out of range"), (242, "no more parts"), (249, "no such part"), (262, "no such axis, the same part or no such distance"), (267, "tied along the axis already"), (272, "no more mates"), (277, "no such axis or number"), (279, "tied to the ground along the axis"), (290, "the same part"), (296, "no such column")]
/-- what stays of the start: statics, texts, links -/
def Xt (E : Ev) (U : State) : Prop :=
  vx_Zq Bundle.tN "UNASSIGNED_STACK" Bundle.steD (eF E) U U.heap ∧ vx_Zq Bundle.tN "SUPPRESSED_SENTINEL" Bundle.listD (eF E) U U.heap ∧
  (∀ w ∈ badS, va_Nw w U) ∧ (∀ a ∈ exC, ∀ b ∈ exC, a ≠ b → va_Nc a b U) ∧ (∀ q ∈ strs, ∃ sa : Nat, vk_R RX9 q.1 q.2 sa U) ∧
  (∃ sa va : Nat, vk_R RX9 91 "bcimphe" sa U ∧ vk_S 1 [7] [[98, 99, 105, 109, 112, 104, 101]] (fun _ => sa) (fun _ => va) (eF E) U U.heap) ∧
  (∃ sa va : Nat, vk_R RL 146 "bcimphex" sa U ∧ vk_S 1 [8] [[98, 99, 105, 109, 112, 104, 101, 120]] (fun _ => sa) (fun _ => va) (eF E) U U.heap) ∧
  va_Zq "jdk/internal/util/Preconditions" "SIOOBE_FORMATTER" "Ljava/util/function/BiFunction;" (eF E) U U.heap ∧
  va_Z "java/lang/String" "COMPACT_STRINGS" "Z" (.int 1) (eF E) U U.heap
theorem Xt.go {E : Ev} {s U : State} {H : Heap} {locs : List Loc} (h : Xt E s) (hS : va_S (eF E) s.heap H locs) (hH : U.heap = H) (hW : s.WarmedH U.vm) : Xt E U := by
  obtain ⟨h1, h2, h3, h4, h6, ⟨sa, va, h7, h8⟩, ⟨sb, vb, h10, h11⟩, h12, h9⟩ := h
  have hq : ∀ a : Nat, a < s.heap.size → ¬ eF E a → U.heap[a]? = s.heap[a]? := fun a q1 q2 => by rw [hH]; exact hS.2.1 a q1 q2
  have hv := hW.alike
  exact ⟨(h1.kept hq).moved hv, (h2.kept hq).moved hv, fun w hw => wrm_go (List.all_eq_true.mp badS_wrm w hw) hW (h3 w hw), fun a ha b hb hab => (h4 a ha b hb hab).moved hv, fun q hq9 => (h6 q hq9).elim fun sa h => ⟨sa, vk_R.warm hW h⟩, ⟨sa, va, vk_R.warm hW h7, (h8.kept hq).moved hv⟩, ⟨sb, vb, vk_R.warm hW h10, (h11.kept hq).moved hv⟩, (h12.kept hq).moved hv, (h9.kept hq).moved hv⟩
theorem Xt.heap {E : Ev} {s U : State} (h : Xt E s) (hH : U.heap = s.heap) (hv : U.vm = s.vm) : Xt E U := by
  obtain ⟨h1, h2, h3, h4, h6, ⟨sa, va, h7, h8⟩, ⟨sb, vb, h10, h11⟩, h12, h9⟩ := h
  have hA : s.vm.Alike U.vm := by rw [hv]; exact Vm.Alike.refl _
  refine ⟨?_, ?_, fun w hw => va_Nw.same (wrm_on (List.all_eq_true.mp badS_wrm w hw)) hv.symm (h3 w hw), fun a ha b hb hab => (h4 a ha b hb hab).moved hA, fun q hq9 => (h6 q hq9).elim fun sa h => ⟨sa, vk_R.same hv h⟩, ⟨sa, va, vk_R.same hv h7, ?_⟩, ⟨sb, vb, vk_R.same hv h10, ?_⟩, ?_, ?_⟩
  · rw [hH]; exact h1.moved hA
  · rw [hH]; exact h2.moved hA
  · rw [hH]; exact h8.moved hA
  · rw [hH]; exact h11.moved hA
  · rw [hH]; exact h12.moved hA
  · rw [hH]; exact h9.moved hA
/-- a body's own circumstances -/
def Cx (l : Launch) (E : Ev) (own : String) (cc : ByteArray) (nL : Nat) (rt : Option FieldType) (tb : List ExceptionTableEntry) (p : Program) (s : State) (m : MethodId) (args : Array Value) (meth : Method) (c : Code) : Prop :=
  p.tables.exec = Jvm.exec ∧ c.code = cc ∧ meth.sig.returnType = rt ∧ c.maxLocals = nL ∧ s.vm.findClass own = some m.cls ∧ (∀ w ∈ wsG, w.before args s = true) ∧ meth.locks = false ∧ va_K (eG E) vwCl (tysE E) s ∧ eB E ≤ s.heap.size ∧ LayOK E ∧ Xt E s ∧ c.exceptionTable.toList = tb
/-- the locals, by their places -/
def lp : Nat → List (Option Value) → List (Nat × Value)
  | _, [] => []
  | i, none :: r => lp (i + 1) r
  | i, some v :: r => (i, v) :: lp (i + 1) r
theorem lp_iff (ls : List (Option Value)) : ∀ (j : Nat) (q : Nat × Value), q ∈ lp j ls ↔ j ≤ q.1 ∧ ls[q.1 - j]? = some (some q.2) := by
  induction ls with
  | nil => intro j q; simp [lp]
  | cons o r ih =>
    intro j q
    obtain ⟨a, b⟩ := q
    have key : (j + 1 ≤ a ∧ r[a - (j + 1)]? = some (some b)) ↔ (j < a ∧ (o :: r)[a - j]? = some (some b)) := by
      constructor
      · rintro ⟨h1, h2⟩
        refine ⟨h1, ?_⟩
        rw [show a - j = (a - (j + 1)) + 1 by omega, List.getElem?_cons_succ]
        exact h2
      · rintro ⟨h1, h2⟩
        refine ⟨h1, ?_⟩
        rw [show a - j = (a - (j + 1)) + 1 by omega, List.getElem?_cons_succ] at h2
        exact h2
    cases o with
    | none =>
      rw [lp, ih, key]
      constructor
      · rintro ⟨h1, h2⟩; exact ⟨by simp only at h1 ⊢; omega, h2⟩
      · rintro ⟨h1, h2⟩
        refine ⟨?_, h2⟩
        rcases Nat.lt_or_ge j a with g | g
        · exact g
        · exfalso
          simp only at h1 h2
          rw [show a - j = 0 by omega] at h2
          simp at h2
    | some v =>
      rw [lp, List.mem_cons, ih, key]
      constructor
      · rintro (h | ⟨h1, h2⟩)
        · cases h; simp
        · exact ⟨by simp only at h1 ⊢; omega, h2⟩
      · rintro ⟨h1, h2⟩
        rcases Nat.lt_or_ge j a with g | g
        · exact Or.inr ⟨g, h2⟩
        · simp only at h1 h2
          have : a = j := by omega
          subst this
          simp at h2
          exact Or.inl (by rw [h2])
theorem lp_at {lsr : Array Slot} {nL : Nat} {ls : List (Option Value)} (h : lv_has lsr nL (lp 0 ls)) {i : Nat} {v : Value} (hi : ls[i]? = some (some v)) : lsr[i]? = some (.val v) :=
  h.2.2 (i, v) ((lp_iff ls 0 (i, v)).mpr ⟨Nat.zero_le _, by simpa using hi⟩)
/-- no first half of a long -/
def nc : Option Value → Bool
  | some (.long _) => false
  | some (.double _) => false
  | _ => true
theorem nc_cat {v : Value} (h : nc (some v) = true) : v.category ≠ 2 := by
  cases v <;> simp [nc, Value.category] at h ⊢
def ncp (ls : List (Option Value)) (i : Nat) : Bool := match i with
  | 0 => true
  | j + 1 => nc ((ls[j]?).getD none)
theorem lp_set1 {lsr : Array Slot} {nL i : Nat} {ls : List (Option Value)} {v : Value} (hn : ncp ls i = true) (h : lv_has lsr nL ((i, v) :: (lp 0 ls).filter (fun q => !(q.1 == i) && !(q.1 + 1 == i && q.2.category == 2)))) : lv_has lsr nL (lp 0 (ls.set i (some v))) := by
  refine ⟨h.1, h.2.1, fun q hq => h.2.2 q ?_⟩
  rw [lp_iff] at hq
  simp only [Nat.zero_le, Nat.sub_zero, true_and] at hq
  by_cases hqi : q.1 = i
  · have hv : q.2 = v := by
      subst hqi
      rw [List.getElem?_set] at hq
      split at hq
      · split at hq
        · simp at hq; exact hq.symm
        · cases hq
      · rename_i hne; exact absurd rfl hne
    exact List.mem_cons.mpr (Or.inl (by cases q; simp_all))
  · rw [List.getElem?_set_ne (Ne.symm hqi)] at hq
    refine List.mem_cons_of_mem _ (List.mem_filter.mpr ⟨(lp_iff ls 0 q).mpr ⟨Nat.zero_le _, by simpa using hq⟩, ?_⟩)
    simp only [Bool.and_eq_true, Bool.not_eq_true', beq_eq_false_iff_ne, ne_eq, hqi, not_false_eq_true, Bool.and_eq_false_iff, true_and]
    by_cases h2 : q.1 + 1 = i
    · subst h2
      simp only [ncp, hq, Option.getD_some] at hn
      exact Or.inr (nc_cat hn)
    · exact Or.inl h2
theorem lp_set2 {lsr : Array Slot} {nL i : Nat} {ls : List (Option Value)} {v : Value} (hn : ncp ls i = true) (h : lv_has lsr nL ((i, v) :: (lp 0 ls).filter (fun q => !(q.1 == i) && (!(q.1 == i + 1) && !(q.1 + 1 == i && q.2.category == 2))))) : lv_has lsr nL (lp 0 ((ls.set i (some v)).set (i + 1) none)) := by
  refine ⟨h.1, h.2.1, fun q hq => h.2.2 q ?_⟩
  rw [lp_iff] at hq
  simp only [Nat.zero_le, Nat.sub_zero, true_and] at hq
  have hq1 : q.1 ≠ i + 1 := by
    intro e
    rw [e, List.getElem?_set] at hq
    split at hq
    · split at hq
      · simp at hq
      · cases hq
    · rename_i hne; exact absurd rfl hne
  rw [List.getElem?_set_ne (Ne.symm hq1)] at hq
  by_cases hqi : q.1 = i
  · have hv : q.2 = v := by
      subst hqi
      rw [List.getElem?_set] at hq
      split at hq
      · split at hq
        · simp at hq; exact hq.symm
        · cases hq
      · rename_i hne; exact absurd rfl hne
    exact List.mem_cons.mpr (Or.inl (by cases q; simp_all))
  · rw [List.getElem?_set_ne (Ne.symm hqi)] at hq
    refine List.mem_cons_of_mem _ (List.mem_filter.mpr ⟨(lp_iff ls 0 q).mpr ⟨Nat.zero_le _, by simpa using hq⟩, ?_⟩)
    simp only [Bool.and_eq_true, Bool.not_eq_true', beq_eq_false_iff_ne, ne_eq, hqi, hq1, not_false_eq_true, Bool.and_eq_false_iff, true_and]
    by_cases h2 : q.1 + 1 = i
    · subst h2
      simp only [ncp, hq, Option.getD_some] at hn
      exact Or.inr (nc_cat hn)
    · exact Or.inl h2
/-- the walk stands at pc with these locals, this stack, this memory -/
def Jd (l : Launch) (E : Ev) (own : String) (cc : ByteArray) (nL : Nat) (rt : Option FieldType) (tb : List ExceptionTableEntry) (R : Room) (Qf : List Frame → Array Value → State → State → Prop) (k n : Nat) (pc : Nat) (ls : List (Option Value)) (st : List Value) (M : Mm) : Prop :=
  ∀ (p : Program) (e : Env) (s : State) (m : MethodId) (args : Array Value) (below : List Frame) (meth : Method) (c : Code), Cx l E own cc nL rt tb p s m args meth c →
    ∀ (H : Heap) (locs : List Loc) (lsr : Array Slot), va_P (eG E) vwCl (wd E M) H → va_S (eF E) s.heap H locs → lv_has lsr nL (lp 0 ls) →
      W p l e R s m args below meth c H locs k n (Qf below args s) (F0 m pc lsr st)
section JR
variable {l : Launch} {E : Ev} {own : String} {cc : ByteArray} {nL : Nat} {rt : Option FieldType} {tb : List ExceptionTableEntry} {R : Room} {Qf : List Frame → Array Value → State → State → Prop} {k n : Nat} {pc : Nat} {ls : List (Option Value)} {st : List Value} {M : Mm}
theorem j_iadd {x y : Int32} (d : decode cc pc = .ok (.iadd, 1)) (kk : Jd l E own cc nL rt tb R Qf k n (pc + 1) ls (.int (x + y) :: st) M) : Jd l E own cc nL rt tb R Qf k n pc ls (.int y :: .int x :: st) M := fun p e s m args below meth c C H locs lsr hP hS hl => lv_iadd C.1 C.2.1 d (kk p e s m args below meth c C H locs lsr hP hS hl)
theorem j_isub {x y : Int32} (d : decode cc pc = .ok (.isub, 1)) (kk : Jd l E own cc nL rt tb R Qf k n (pc + 1) ls (.int (x - y) :: st) M) : Jd l E own cc nL rt tb R Qf k n pc ls (.int y :: .int x :: st) M := fun p e s m args below meth c C H locs lsr hP hS hl => lv_isub C.1 C.2.1 d (kk p e s m args below meth c C H locs lsr hP hS hl)
theorem j_imul {x y : Int32} (d : decode cc pc = .ok (.imul, 1)) (kk : Jd l E own cc nL rt tb R Qf k n (pc + 1) ls (.int (x * y) :: st) M) : Jd l E own cc nL rt tb R Qf k n pc ls (.int y :: .int x :: st) M := fun p e s m args below meth c C H locs lsr hP hS hl => lv_imul C.1 C.2.1 d (kk p e s m args below meth c C H locs lsr hP hS hl)
theorem j_iand {x y : Int32} (d : decode cc pc = .ok (.iand, 1)) (kk : Jd l E own cc nL rt tb R Qf k n (pc + 1) ls (.int (x &&& y) :: st) M) : Jd l E own cc nL rt tb R Qf k n pc ls (.int y :: .int x :: st) M := fun p e s m args below meth c C H locs lsr hP hS hl => lv_iand C.1 C.2.1 d (kk p e s m args below meth c C H locs lsr hP hS hl)
theorem j_ior {x y : Int32} (d : decode cc pc = .ok (.ior, 1)) (kk : Jd l E own cc nL rt tb R Qf k n (pc + 1) ls (.int (x ||| y) :: st) M) : Jd l E own cc nL rt tb R Qf k n pc ls (.int y :: .int x :: st) M := fun p e s m args below meth c C H locs lsr hP hS hl => lv_ior C.1 C.2.1 d (kk p e s m args below meth c C H locs lsr hP hS hl)
theorem j_ixor {x y : Int32} (d : decode cc pc = .ok (.ixor, 1)) (kk : Jd l E own cc nL rt tb R Qf k n (pc + 1) ls (.int (x ^^^ y) :: st) M) : Jd l E own cc nL rt tb R Qf k n pc ls (.int y :: .int x :: st) M := fun p e s m args below meth c C H locs lsr hP hS hl => lv_ixor C.1 C.2.1 d (kk p e s m args below meth c C H locs lsr hP hS hl)
theorem j_ineg {x : Int32} (d : decode cc pc = .ok (.ineg, 1)) (kk : Jd l E own cc nL rt tb R Qf k n (pc + 1) ls (.int (-x) :: st) M) : Jd l E own cc nL rt tb R Qf k n pc ls (.int x :: st) M := fun p e s m args below meth c C H locs lsr hP hS hl => lv_ineg C.1 C.2.1 d (kk p e s m args below meth c C H locs lsr hP hS hl)
theorem j_ishl {x y : Int32} (d : decode cc pc = .ok (.ishl, 1)) (kk : Jd l E own cc nL rt tb R Qf k n (pc + 1) ls (.int (x <<< (y &&& 31)) :: st) M) : Jd l E own cc nL rt tb R Qf k n pc ls (.int y :: .int x :: st) M := fun p e s m args below meth c C H locs lsr hP hS hl => lv_ishl C.1 C.2.1 d (kk p e s m args below meth c C H locs lsr hP hS hl)
theorem j_ishr {x y : Int32} (d : decode cc pc = .ok (.ishr, 1)) (kk : Jd l E own cc nL rt tb R Qf k n (pc + 1) ls (.int (x >>> (y &&& 31)) :: st) M) : Jd l E own cc nL rt tb R Qf k n pc ls (.int y :: .int x :: st) M := fun p e s m args below meth c C H locs lsr hP hS hl => lv_ishr C.1 C.2.1 d (kk p e s m args below meth c C H locs lsr hP hS hl)
theorem j_ladd {x y : Int64} (d : decode cc pc = .ok (.ladd, 1)) (kk : Jd l E own cc nL rt tb R Qf k n (pc + 1) ls (.long (x + y) :: st) M) : Jd l E own cc nL rt tb R Qf k n pc ls (.long y :: .long x :: st) M := fun p e s m args below meth c C H locs lsr hP hS hl => lv_ladd C.1 C.2.1 d (kk p e s m args below meth c C H locs lsr hP hS hl)
theorem j_lsub {x y : Int64} (d : decode cc pc = .ok (.lsub, 1)) (kk : Jd l E own cc nL rt tb R Qf k n (pc + 1) ls (.long (x - y) :: st) M) : Jd l E own cc nL rt tb R Qf k n pc ls (.long y :: .long x :: st) M := fun p e s m args below meth c C H locs lsr hP hS hl => lv_lsub C.1 C.2.1 d (kk p e s m args below meth c C H locs lsr hP hS hl)
theorem j_lmul {x y : Int64} (d : decode cc pc = .ok (.lmul, 1)) (kk : Jd l E own cc nL rt tb R Qf k n (pc + 1) ls (.long (x * y) :: st) M) : Jd l E own cc nL rt tb R Qf k n pc ls (.long y :: .long x :: st) M := fun p e s m args below meth c C H locs lsr hP hS hl => lv_lmul C.1 C.2.1 d (kk p e s m args below meth c C H locs lsr hP hS hl)
theorem j_land {x y : Int64} (d : decode cc pc = .ok (.land, 1)) (kk : Jd l E own cc nL rt tb R Qf k n (pc + 1) ls (.long (x &&& y) :: st) M) : Jd l E own cc nL rt tb R Qf k n pc ls (.long y :: .long x :: st) M := fun p e s m args below meth c C H locs lsr hP hS hl => lv_land C.1 C.2.1 d (kk p e s m args below meth c C H locs lsr hP hS hl)
theorem j_lor {x y : Int64} (d : decode cc pc = .ok (.lor, 1)) (kk : Jd l E own cc nL rt tb R Qf k n (pc + 1) ls (.long (x ||| y) :: st) M) : Jd l E own cc nL rt tb R Qf k n pc ls (.long y :: .long x :: st) M := fun p e s m args below meth c C H locs lsr hP hS hl => lv_lor C.1 C.2.1 d (kk p e s m args below meth c C H locs lsr hP hS hl)
theorem j_lxor {x y : Int64} (d : decode cc pc = .ok (.lxor, 1)) (kk : Jd l E own cc nL rt tb R Qf k n (pc + 1) ls (.long (x ^^^ y) :: st) M) : Jd l E own cc nL rt tb R Qf k n pc ls (.long y :: .long x :: st) M := fun p e s m args below meth c C H locs lsr hP hS hl => lv_lxor C.1 C.2.1 d (kk p e s m args below meth c C H locs lsr hP hS hl)
theorem j_lneg {x : Int64} (d : decode cc pc = .ok (.lneg, 1)) (kk : Jd l E own cc nL rt tb R Qf k n (pc + 1) ls (.long (-x) :: st) M) : Jd l E own cc nL rt tb R Qf k n pc ls (.long x :: st) M := fun p e s m args below meth c C H locs lsr hP hS hl => lv_lneg C.1 C.2.1 d (kk p e s m args below meth c C H locs lsr hP hS hl)
theorem j_i2l {x : Int32} (d : decode cc pc = .ok (.i2l, 1)) (kk : Jd l E own cc nL rt tb R Qf k n (pc + 1) ls (.long x.toInt64 :: st) M) : Jd l E own cc nL rt tb R Qf k n pc ls (.int x :: st) M := fun p e s m args below meth c C H locs lsr hP hS hl => lv_i2l C.1 C.2.1 d rfl (kk p e s m args below meth c C H locs lsr hP hS hl)
theorem j_l2i {x : Int64} (d : decode cc pc = .ok (.l2i, 1)) (kk : Jd l E own cc nL rt tb R Qf k n (pc + 1) ls (.int x.toInt32 :: st) M) : Jd l E own cc nL rt tb R Qf k n pc ls (.long x :: st) M := fun p e s m args below meth c C H locs lsr hP hS hl => lv_l2i C.1 C.2.1 d rfl (kk p e s m args below meth c C H locs lsr hP hS hl)
theorem j_ic {z : Int} {v : Int32} (d : decode cc pc = .ok (.iconst z, 1)) (hv : Int32.ofInt z = v) (kk : Jd l E own cc nL rt tb R Qf k n (pc + 1) ls (.int v :: st) M) : Jd l E own cc nL rt tb R Qf k n pc ls (st) M := fun p e s m args below meth c C H locs lsr hP hS hl => lv_iconst C.1 C.2.1 d hv (kk p e s m args below meth c C H locs lsr hP hS hl)
theorem j_bi {z : Int} {v : Int32} (d : decode cc pc = .ok (.bipush z, 2)) (hv : (Int8.ofInt z).toInt32 = v) (kk : Jd l E own cc nL rt tb R Qf k n (pc + 2) ls (.int v :: st) M) : Jd l E own cc nL rt tb R Qf k n pc ls (st) M := fun p e s m args below meth c C H locs lsr hP hS hl => lv_bipush C.1 C.2.1 d hv (kk p e s m args below meth c C H locs lsr hP hS hl)
theorem j_si {z : Int} {v : Int32} (d : decode cc pc = .ok (.sipush z, 3)) (hv : (Int16.ofInt z).toInt32 = v) (kk : Jd l E own cc nL rt tb R Qf k n (pc + 3) ls (.int v :: st) M) : Jd l E own cc nL rt tb R Qf k n pc ls (st) M := fun p e s m args below meth c C H locs lsr hP hS hl => lv_sipush C.1 C.2.1 d hv (kk p e s m args below meth c C H locs lsr hP hS hl)
theorem j_lc {z : Fin 2} {v : Int64} (d : decode cc pc = .ok (.lconst z, 1)) (hv : Int64.ofNat (z : Nat) = v) (kk : Jd l E own cc nL rt tb R Qf k n (pc + 1) ls (.long v :: st) M) : Jd l E own cc nL rt tb R Qf k n pc ls (st) M := fun p e s m args below meth c C H locs lsr hP hS hl => lv_lconst C.1 C.2.1 d hv (kk p e s m args below meth c C H locs lsr hP hS hl)
theorem j_pop {va : Value} (d : decode cc pc = .ok (.pop, 1)) (h1 : va.category = 1) (kk : Jd l E own cc nL rt tb R Qf k n (pc + 1) ls (st) M) : Jd l E own cc nL rt tb R Qf k n pc ls (va :: st) M := fun p e s m args below meth c C H locs lsr hP hS hl => lv_pop C.1 C.2.1 d h1 (kk p e s m args below meth c C H locs lsr hP hS hl)
theorem j_dup {va : Value} (d : decode cc pc = .ok (.dup, 1)) (h1 : va.category = 1) (kk : Jd l E own cc nL rt tb R Qf k n (pc + 1) ls (va :: va :: st) M) : Jd l E own cc nL rt tb R Qf k n pc ls (va :: st) M := fun p e s m args below meth c C H locs lsr hP hS hl => lv_dup C.1 C.2.1 d h1 (kk p e s m args below meth c C H locs lsr hP hS hl)
theorem j_dup_x1 {va vb : Value} (d : decode cc pc = .ok (.dup_x1, 1)) (h1 : va.category = 1) (h2 : vb.category = 1) (kk : Jd l E own cc nL rt tb R Qf k n (pc + 1) ls (va :: vb :: va :: st) M) : Jd l E own cc nL rt tb R Qf k n pc ls (va :: vb :: st) M := fun p e s m args below meth c C H locs lsr hP hS hl => lv_dup_x1 C.1 C.2.1 d h1 h2 (kk p e s m args below meth c C H locs lsr hP hS hl)
theorem j_dup_x2 {va vb vd : Value} (d : decode cc pc = .ok (.dup_x2, 1)) (h1 : va.category = 1) (h2 : vb.category = 1) (h3 : vd.category = 1) (kk : Jd l E own cc nL rt tb R Qf k n (pc + 1) ls (va :: vb :: vd :: va :: st) M) : Jd l E own cc nL rt tb R Qf k n pc ls (va :: vb :: vd :: st) M := fun p e s m args below meth c C H locs lsr hP hS hl => lv_dup_x2 C.1 C.2.1 d h1 h2 h3 (kk p e s m args below meth c C H locs lsr hP hS hl)
theorem j_dup2 {va vb : Value} (d : decode cc pc = .ok (.dup2, 1)) (h1 : va.category = 1) (h2 : vb.category = 1) (kk : Jd l E own cc nL rt tb R Qf k n (pc + 1) ls (va :: vb :: va :: vb :: st) M) : Jd l E own cc nL rt tb R Qf k n pc ls (va :: vb :: st) M := fun p e s m args below meth c C H locs lsr hP hS hl => lv_dup2_11 C.1 C.2.1 d h1 h2 (kk p e s m args below meth c C H locs lsr hP hS hl)
theorem j_iln {q : Fin 4} {x : Int32} (d : decode cc pc = .ok (.iload_n q, 1)) {i : Nat} (hi : (q : Nat) = i) (h : ls[i]? = some (some (.int x))) (kk : Jd l E own cc nL rt tb R Qf k n (pc + 1) ls (.int x :: st) M) : Jd l E own cc nL rt tb R Qf k n pc ls st M := fun p e s m args below meth c C H locs lsr hP hS hl => lv_iload_n C.1 C.2.1 d hi (lp_at hl h) (kk p e s m args below meth c C H locs lsr hP hS hl)
theorem j_il {i : Nat} {x : Int32} (d : decode cc pc = .ok (.iload i, 2)) (h : ls[i]? = some (some (.int x))) (kk : Jd l E own cc nL rt tb R Qf k n (pc + 2) ls (.int x :: st) M) : Jd l E own cc nL rt tb R Qf k n pc ls st M := fun p e s m args below meth c C H locs lsr hP hS hl => lv_iload C.1 C.2.1 d (lp_at hl h) (kk p e s m args below meth c C H locs lsr hP hS hl)
theorem j_lln {q : Fin 4} {x : Int64} (d : decode cc pc = .ok (.lload_n q, 1)) {i : Nat} (hi : (q : Nat) = i) (h : ls[i]? = some (some (.long x))) (kk : Jd l E own cc nL rt tb R Qf k n (pc + 1) ls (.long x :: st) M) : Jd l E own cc nL rt tb R Qf k n pc ls st M := fun p e s m args below meth c C H locs lsr hP hS hl => lv_lload_n C.1 C.2.1 d hi (lp_at hl h) (kk p e s m args below meth c C H locs lsr hP hS hl)
theorem j_ll {i : Nat} {x : Int64} (d : decode cc pc = .ok (.lload i, 2)) (h : ls[i]? = some (some (.long x))) (kk : Jd l E own cc nL rt tb R Qf k n (pc + 2) ls (.long x :: st) M) : Jd l E own cc nL rt tb R Qf k n pc ls st M := fun p e s m args below meth c C H locs lsr hP hS hl => lv_lload C.1 C.2.1 d (lp_at hl h) (kk p e s m args below meth c C H locs lsr hP hS hl)
theorem j_aln {q : Fin 4} {x : Nat} (d : decode cc pc = .ok (.aload_n q, 1)) {i : Nat} (hi : (q : Nat) = i) (h : ls[i]? = some (some (.ref x))) (kk : Jd l E own cc nL rt tb R Qf k n (pc + 1) ls (.ref x :: st) M) : Jd l E own cc nL rt tb R Qf k n pc ls st M := fun p e s m args below meth c C H locs lsr hP hS hl => lv_aload_n C.1 C.2.1 d hi (lp_at hl h) (kk p e s m args below meth c C H locs lsr hP hS hl)
theorem j_al {i : Nat} {x : Nat} (d : decode cc pc = .ok (.aload i, 2)) (h : ls[i]? = some (some (.ref x))) (kk : Jd l E own cc nL rt tb R Qf k n (pc + 2) ls (.ref x :: st) M) : Jd l E own cc nL rt tb R Qf k n pc ls st M := fun p e s m args below meth c C H locs lsr hP hS hl => lv_aload C.1 C.2.1 d (lp_at hl h) (kk p e s m args below meth c C H locs lsr hP hS hl)
theorem j_dln {q : Fin 4} {x : UInt64} (d : decode cc pc = .ok (.dload_n q, 1)) {i : Nat} (hi : (q : Nat) = i) (h : ls[i]? = some (some (.double x))) (kk : Jd l E own cc nL rt tb R Qf k n (pc + 1) ls (.double x :: st) M) : Jd l E own cc nL rt tb R Qf k n pc ls st M := fun p e s m args below meth c C H locs lsr hP hS hl => lv_dload_n C.1 C.2.1 d hi (lp_at hl h) (kk p e s m args below meth c C H locs lsr hP hS hl)
theorem j_dl {i : Nat} {x : UInt64} (d : decode cc pc = .ok (.dload i, 2)) (h : ls[i]? = some (some (.double x))) (kk : Jd l E own cc nL rt tb R Qf k n (pc + 2) ls (.double x :: st) M) : Jd l E own cc nL rt tb R Qf k n pc ls st M := fun p e s m args below meth c C H locs lsr hP hS hl => lv_dload C.1 C.2.1 d (lp_at hl h) (kk p e s m args below meth c C H locs lsr hP hS hl)
theorem j_istn {q : Fin 4} {x : Int32} {ls' : List (Option Value)} (d : decode cc pc = .ok (.istore_n q, 1)) {i : Nat} (hi : (q : Nat) = i) (hn : i < nL) (hc : ncp ls i = true) (hls : ls.set i (some (.int x)) = ls') (kk : Jd l E own cc nL rt tb R Qf k n (pc + 1) ls' st M) : Jd l E own cc nL rt tb R Qf k n pc ls (.int x :: st) M := fun p e s m args below meth c C H locs lsr hP hS hl => lv_istore_n C.1 C.2.1 d hi hl hn rfl (fun lsr2 hl2 => kk p e s m args below meth c C H locs lsr2 hP hS (hls ▸ lp_set1 hc hl2))
theorem j_ist {i : Nat} {x : Int32} {ls' : List (Option Value)} (d : decode cc pc = .ok (.istore i, 2)) (hn : i < nL) (hc : ncp ls i = true) (hls : ls.set i (some (.int x)) = ls') (kk : Jd l E own cc nL rt tb R Qf k n (pc + 2) ls' st M) : Jd l E own cc nL rt tb R Qf k n pc ls (.int x :: st) M := fun p e s m args below meth c C H locs lsr hP hS hl => lv_istore C.1 C.2.1 d hl hn rfl (fun lsr2 hl2 => kk p e s m args below meth c C H locs lsr2 hP hS (hls ▸ lp_set1 hc hl2))
theorem j_astn {q : Fin 4} {x : Nat} {ls' : List (Option Value)} (d : decode cc pc = .ok (.astore_n q, 1)) {i : Nat} (hi : (q : Nat) = i) (hn : i < nL) (hc : ncp ls i = true) (hls : ls.set i (some (.ref x)) = ls') (kk : Jd l E own cc nL rt tb R Qf k n (pc + 1) ls' st M) : Jd l E own cc nL rt tb R Qf k n pc ls (.ref x :: st) M := fun p e s m args below meth c C H locs lsr hP hS hl => lv_astore_n C.1 C.2.1 d hi hl hn rfl (fun lsr2 hl2 => kk p e s m args below meth c C H locs lsr2 hP hS (hls ▸ lp_set1 hc hl2))
theorem j_ast {i : Nat} {x : Nat} {ls' : List (Option Value)} (d : decode cc pc = .ok (.astore i, 2)) (hn : i < nL) (hc : ncp ls i = true) (hls : ls.set i (some (.ref x)) = ls') (kk : Jd l E own cc nL rt tb R Qf k n (pc + 2) ls' st M) : Jd l E own cc nL rt tb R Qf k n pc ls (.ref x :: st) M := fun p e s m args below meth c C H locs lsr hP hS hl => lv_astore C.1 C.2.1 d hl hn rfl (fun lsr2 hl2 => kk p e s m args below meth c C H locs lsr2 hP hS (hls ▸ lp_set1 hc hl2))
theorem j_lstn {q : Fin 4} {x : Int64} {ls' : List (Option Value)} (d : decode cc pc = .ok (.lstore_n q, 1)) {i : Nat} (hi : (q : Nat) = i) (hn : i + 1 < nL) (hc : ncp ls i = true) (hls : (ls.set i (some (.long x))).set (i + 1) none = ls') (kk : Jd l E own cc nL rt tb R Qf k n (pc + 1) ls' st M) : Jd l E own cc nL rt tb R Qf k n pc ls (.long x :: st) M := fun p e s m args below meth c C H locs lsr hP hS hl => lv_lstore_n C.1 C.2.1 d hi hl hn rfl (fun lsr2 hl2 => kk p e s m args below meth c C H locs lsr2 hP hS (hls ▸ lp_set2 hc hl2))
theorem j_lst {i : Nat} {x : Int64} {ls' : List (Option Value)} (d : decode cc pc = .ok (.lstore i, 2)) (hn : i + 1 < nL) (hc : ncp ls i = true) (hls : (ls.set i (some (.long x))).set (i + 1) none = ls') (kk : Jd l E own cc nL rt tb R Qf k n (pc + 2) ls' st M) : Jd l E own cc nL rt tb R Qf k n pc ls (.long x :: st) M := fun p e s m args below meth c C H locs lsr hP hS hl => lv_lstore C.1 C.2.1 d hl hn rfl (fun lsr2 hl2 => kk p e s m args below meth c C H locs lsr2 hP hS (hls ▸ lp_set2 hc hl2))
theorem j_dstn {q : Fin 4} {x : UInt64} {ls' : List (Option Value)} (d : decode cc pc = .ok (.dstore_n q, 1)) {i : Nat} (hi : (q : Nat) = i) (hn : i + 1 < nL) (hc : ncp ls i = true) (hls : (ls.set i (some (.double x))).set (i + 1) none = ls') (kk : Jd l E own cc nL rt tb R Qf k n (pc + 1) ls' st M) : Jd l E own cc nL rt tb R Qf k n pc ls (.double x :: st) M := fun p e s m args below meth c C H locs lsr hP hS hl => lv_dstore_n C.1 C.2.1 d hi hl hn rfl (fun lsr2 hl2 => kk p e s m args below meth c C H locs lsr2 hP hS (hls ▸ lp_set2 hc hl2))
theorem j_dst {i : Nat} {x : UInt64} {ls' : List (Option Value)} (d : decode cc pc = .ok (.dstore i, 2)) (hn : i + 1 < nL) (hc : ncp ls i = true) (hls : (ls.set i (some (.double x))).set (i + 1) none = ls') (kk : Jd l E own cc nL rt tb R Qf k n (pc + 2) ls' st M) : Jd l E own cc nL rt tb R Qf k n pc ls (.double x :: st) M := fun p e s m args below meth c C H locs lsr hP hS hl => lv_dstore C.1 C.2.1 d hl hn rfl (fun lsr2 hl2 => kk p e s m args below meth c C H locs lsr2 hP hS (hls ▸ lp_set2 hc hl2))
theorem j_inc {i : Nat} {z : Int} {x v : Int32} {ls' : List (Option Value)} (d : decode cc pc = .ok (.iinc i z, 3)) (h : ls[i]? = some (some (.int x))) (hv : Int32.ofInt z = v) (hn : i < nL) (hc : ncp ls i = true) (hls : ls.set i (some (.int (x + v))) = ls') (kk : Jd l E own cc nL rt tb R Qf k n (pc + 3) ls' st M) : Jd l E own cc nL rt tb R Qf k n pc ls st M := by
  intro p e s m args below meth c C H locs lsr hP hS hl
  obtain ⟨j, hj⟩ := List.getElem?_of_mem ((lp_iff ls 0 (i, .int x)).mpr ⟨Nat.zero_le _, by simpa using h⟩)
  exact lv_iinc C.1 C.2.1 d hl hj (by rw [hv]) hn rfl (fun lsr2 hl2 => kk p e s m args below meth c C H locs lsr2 hP hS (hls ▸ lp_set1 hc hl2))
theorem j_idiv {x y : Int32} (d : decode cc pc = .ok (.idiv, 1)) (h0 : ¬ y = 0) (kk : Jd l E own cc nL rt tb R Qf k n (pc + 1) ls (.int (x / y) :: st) M) : Jd l E own cc nL rt tb R Qf k n pc ls (.int y :: .int x :: st) M := fun p e s m args below meth c C H locs lsr hP hS hl => lv_idiv C.1 C.2.1 d h0 (kk p e s m args below meth c C H locs lsr hP hS hl)
theorem j_irem {x y : Int32} (d : decode cc pc = .ok (.irem, 1)) (h0 : ¬ y = 0) (kk : Jd l E own cc nL rt tb R Qf k n (pc + 1) ls (.int (x - x / y * y) :: st) M) : Jd l E own cc nL rt tb R Qf k n pc ls (.int y :: .int x :: st) M := fun p e s m args below meth c C H locs lsr hP hS hl => lv_irem C.1 C.2.1 d h0 (kk p e s m args below meth c C H locs lsr hP hS hl)
theorem j_i2c {x : Int32} (d : decode cc pc = .ok (.i2c, 1)) (kk : Jd l E own cc nL rt tb R Qf k n (pc + 1) ls (.int (x.toUInt32 % 65536).toInt32 :: st) M) : Jd l E own cc nL rt tb R Qf k n pc ls (.int x :: st) M := fun p e s m args below meth c C H locs lsr hP hS hl => lv_i2c C.1 C.2.1 d rfl (kk p e s m args below meth c C H locs lsr hP hS hl)
theorem j_iushr {x y : Int32} (d : decode cc pc = .ok (.iushr, 1)) (kk : Jd l E own cc nL rt tb R Qf k n (pc + 1) ls (.int (x.toUInt32 >>> (y.toUInt32 &&& Int32.toUInt32 31)).toInt32 :: st) M) : Jd l E own cc nL rt tb R Qf k n pc ls (.int y :: .int x :: st) M := fun p e s m args below meth c C H locs lsr hP hS hl => lv_iushr C.1 C.2.1 d rfl (kk p e s m args below meth c C H locs lsr hP hS hl)
theorem j_lushr {x : Int64} {y : Int32} (d : decode cc pc = .ok (.lushr, 1)) (kk : Jd l E own cc nL rt tb R Qf k n (pc + 1) ls (.long (x.toUInt64 >>> (y.toInt64.toUInt64 &&& Int64.toUInt64 63)).toInt64 :: st) M) : Jd l E own cc nL rt tb R Qf k n pc ls (.int y :: .long x :: st) M := fun p e s m args below meth c C H locs lsr hP hS hl => lv_lushr C.1 C.2.1 d rfl (kk p e s m args below meth c C H locs lsr hP hS hl)
theorem j_lshl {x : Int64} {y : Int32} (d : decode cc pc = .ok (.lshl, 1)) (kk : Jd l E own cc nL rt tb R Qf k n (pc + 1) ls (.long (x <<< (y.toInt64 &&& 63)) :: st) M) : Jd l E own cc nL rt tb R Qf k n pc ls (.int y :: .long x :: st) M := fun p e s m args below meth c C H locs lsr hP hS hl => lv_lshl C.1 C.2.1 d rfl (kk p e s m args below meth c C H locs lsr hP hS hl)
theorem j_lcmp {x y : Int64} (d : decode cc pc = .ok (.lcmp, 1)) (kk : Jd l E own cc nL rt tb R Qf k n (pc + 1) ls (.int (lg_cmp x y) :: st) M) : Jd l E own cc nL rt tb R Qf k n pc ls (.long y :: .long x :: st) M := fun p e s m args below meth c C H locs lsr hP hS hl => W.lcmp C.1 C.2.1 d (kk p e s m args below meth c C H locs lsr hP hS hl)
theorem j_i2f {x : Int32} (d : decode cc pc = .ok (.i2f, 1)) (kk : Jd l E own cc nL rt tb R Qf k n (pc + 1) ls (.float (FP.i2f x) :: st) M) : Jd l E own cc nL rt tb R Qf k n pc ls (.int x :: st) M := fun p e s m args below meth c C H locs lsr hP hS hl => lv_i2f C.1 C.2.1 d (kk p e s m args below meth c C H locs lsr hP hS hl)
theorem j_i2d {x : Int32} (d : decode cc pc = .ok (.i2d, 1)) (kk : Jd l E own cc nL rt tb R Qf k n (pc + 1) ls (.double (FP.i2d x) :: st) M) : Jd l E own cc nL rt tb R Qf k n pc ls (.int x :: st) M := fun p e s m args below meth c C H locs lsr hP hS hl => lv_i2d C.1 C.2.1 d (kk p e s m args below meth c C H locs lsr hP hS hl)
theorem j_fdiv {x y : UInt32} (d : decode cc pc = .ok (.fdiv, 1)) (h0 : vf_n32 (FP.fdiv x y)) (kk : Jd l E own cc nL rt tb R Qf k n (pc + 1) ls (.float (FP.fdiv x y) :: st) M) : Jd l E own cc nL rt tb R Qf k n pc ls (.float y :: .float x :: st) M := fun p e s m args below meth c C H locs lsr hP hS hl => lv_fdiv C.1 C.2.1 d h0 (kk p e s m args below meth c C H locs lsr hP hS hl)
theorem j_ddiv {x y : UInt64} (d : decode cc pc = .ok (.ddiv, 1)) (h0 : vf_n64 (FP.ddiv x y)) (kk : Jd l E own cc nL rt tb R Qf k n (pc + 1) ls (.double (FP.ddiv x y) :: st) M) : Jd l E own cc nL rt tb R Qf k n pc ls (.double y :: .double x :: st) M := fun p e s m args below meth c C H locs lsr hP hS hl => lv_ddiv C.1 C.2.1 d h0 (kk p e s m args below meth c C H locs lsr hP hS hl)
theorem j_f2d {x : UInt32} (d : decode cc pc = .ok (.f2d, 1)) (h0 : vf_n64 (FP.f2d x)) (kk : Jd l E own cc nL rt tb R Qf k n (pc + 1) ls (.double (FP.f2d x) :: st) M) : Jd l E own cc nL rt tb R Qf k n pc ls (.float x :: st) M := fun p e s m args below meth c C H locs lsr hP hS hl => lv_f2d C.1 C.2.1 d h0 (kk p e s m args below meth c C H locs lsr hP hS hl)
theorem j_dcmp {x y : UInt64} {op : CmpOp} (d : decode cc pc = .ok (.dcmp op, 1)) (kk : Jd l E own cc nL rt tb R Qf k n (pc + 1) ls (.int (Op.cmpValue (FP.dcmp x y) op) :: st) M) : Jd l E own cc nL rt tb R Qf k n pc ls (.double y :: .double x :: st) M := fun p e s m args below meth c C H locs lsr hP hS hl => lv_dcmp C.1 C.2.1 d (kk p e s m args below meth c C H locs lsr hP hS hl)
theorem j_dc0 (d : decode cc pc = .ok (.dconst 0, 1)) (kk : Jd l E own cc nL rt tb R Qf k n (pc + 1) ls (.double FP.dconst0 :: st) M) : Jd l E own cc nL rt tb R Qf k n pc ls (st) M := fun p e s m args below meth c C H locs lsr hP hS hl => lv_dconst0 C.1 C.2.1 d (kk p e s m args below meth c C H locs lsr hP hS hl)
theorem j_ldc {ix : Nat} {v : Int32} (d : decode cc pc = .ok (.ldc ix, 2)) (hw : Cond.constant own ix v ∈ wsG) (kk : Jd l E own cc nL rt tb R Qf k n (pc + 2) ls (.int v :: st) M) : Jd l E own cc nL rt tb R Qf k n pc ls st M := fun p e s m args below meth c C H locs lsr hP hS hl => lv_ldc C.1 C.2.1 C.2.2.2.2.1 (C.2.2.2.2.2.1 _ hw) d (kk p e s m args below meth c C H locs lsr hP hS hl)
theorem j_ldcf {ix : Nat} {v : UInt32} (d : decode cc pc = .ok (.ldc ix, 2)) (hw : Cond.constantFloat own ix v ∈ wsG) (kk : Jd l E own cc nL rt tb R Qf k n (pc + 2) ls (.float v :: st) M) : Jd l E own cc nL rt tb R Qf k n pc ls st M := fun p e s m args below meth c C H locs lsr hP hS hl => lv_ldcf C.1 C.2.1 C.2.2.2.2.1 (C.2.2.2.2.2.1 _ hw) d (kk p e s m args below meth c C H locs lsr hP hS hl)
theorem j_ldcw {ix : Nat} {v : Int32} (d : decode cc pc = .ok (.ldc_w ix, 3)) (hw : Cond.constant own ix v ∈ wsG) (kk : Jd l E own cc nL rt tb R Qf k n (pc + 3) ls (.int v :: st) M) : Jd l E own cc nL rt tb R Qf k n pc ls st M := fun p e s m args below meth c C H locs lsr hP hS hl => lv_ldcw C.1 C.2.1 C.2.2.2.2.1 (C.2.2.2.2.2.1 _ hw) d (kk p e s m args below meth c C H locs lsr hP hS hl)
theorem j_ldc2 {ix : Nat} {v : Int64} (d : decode cc pc = .ok (.ldc2_w ix, 3)) (hw : Cond.constantLong own ix v ∈ wsG) (kk : Jd l E own cc nL rt tb R Qf k n (pc + 3) ls (.long v :: st) M) : Jd l E own cc nL rt tb R Qf k n pc ls st M := fun p e s m args below meth c C H locs lsr hP hS hl => lv_ldc2 C.1 C.2.1 C.2.2.2.2.1 (C.2.2.2.2.2.1 _ hw) d (kk p e s m args below meth c C H locs lsr hP hS hl)
theorem j_ifeq {x : Int32} {off : Int} {tgt : Nat} (d : decode cc pc = .ok (.ifCond .eq off, 3)) (ht : (pc : Int) + off = (tgt : Int)) (kt : x = 0 → Jd l E own cc nL rt tb R Qf k n tgt ls st M) (kf : ¬ x = 0 → Jd l E own cc nL rt tb R Qf k n (pc + 3) ls st M) : Jd l E own cc nL rt tb R Qf k n pc ls (.int x :: st) M := fun p e s m args below meth c C H locs lsr hP hS hl => lv_if_eq C.1 C.2.1 d ht (fun h => kt h p e s m args below meth c C H locs lsr hP hS hl) (fun h => kf h p e s m args below meth c C H locs lsr hP hS hl)
theorem j_ifne {x : Int32} {off : Int} {tgt : Nat} (d : decode cc pc = .ok (.ifCond .ne off, 3)) (ht : (pc : Int) + off = (tgt : Int)) (kt : ¬ x = 0 → Jd l E own cc nL rt tb R Qf k n tgt ls st M) (kf : x = 0 → Jd l E own cc nL rt tb R Qf k n (pc + 3) ls st M) : Jd l E own cc nL rt tb R Qf k n pc ls (.int x :: st) M := fun p e s m args below meth c C H locs lsr hP hS hl => lv_if_ne C.1 C.2.1 d ht (fun h => kt h p e s m args below meth c C H locs lsr hP hS hl) (fun h => kf h p e s m args below meth c C H locs lsr hP hS hl)
theorem j_iflt {x : Int32} {off : Int} {tgt : Nat} (d : decode cc pc = .ok (.ifCond .lt off, 3)) (ht : (pc : Int) + off = (tgt : Int)) (kt : x < 0 → Jd l E own cc nL rt tb R Qf k n tgt ls st M) (kf : ¬ x < 0 → Jd l E own cc nL rt tb R Qf k n (pc + 3) ls st M) : Jd l E own cc nL rt tb R Qf k n pc ls (.int x :: st) M := fun p e s m args below meth c C H locs lsr hP hS hl => lv_if_lt C.1 C.2.1 d ht (fun h => kt h p e s m args below meth c C H locs lsr hP hS hl) (fun h => kf h p e s m args below meth c C H locs lsr hP hS hl)
theorem j_ifge {x : Int32} {off : Int} {tgt : Nat} (d : decode cc pc = .ok (.ifCond .ge off, 3)) (ht : (pc : Int) + off = (tgt : Int)) (kt : 0 ≤ x → Jd l E own cc nL rt tb R Qf k n tgt ls st M) (kf : ¬ 0 ≤ x → Jd l E own cc nL rt tb R Qf k n (pc + 3) ls st M) : Jd l E own cc nL rt tb R Qf k n pc ls (.int x :: st) M := fun p e s m args below meth c C H locs lsr hP hS hl => lv_if_ge C.1 C.2.1 d ht (fun h => kt h p e s m args below meth c C H locs lsr hP hS hl) (fun h => kf h p e s m args below meth c C H locs lsr hP hS hl)
theorem j_ifgt {x : Int32} {off : Int} {tgt : Nat} (d : decode cc pc = .ok (.ifCond .gt off, 3)) (ht : (pc : Int) + off = (tgt : Int)) (kt : 0 < x → Jd l E own cc nL rt tb R Qf k n tgt ls st M) (kf : ¬ 0 < x → Jd l E own cc nL rt tb R Qf k n (pc + 3) ls st M) : Jd l E own cc nL rt tb R Qf k n pc ls (.int x :: st) M := fun p e s m args below meth c C H locs lsr hP hS hl => lv_if_gt C.1 C.2.1 d ht (fun h => kt h p e s m args below meth c C H locs lsr hP hS hl) (fun h => kf h p e s m args below meth c C H locs lsr hP hS hl)
theorem j_ifle {x : Int32} {off : Int} {tgt : Nat} (d : decode cc pc = .ok (.ifCond .le off, 3)) (ht : (pc : Int) + off = (tgt : Int)) (kt : x ≤ 0 → Jd l E own cc nL rt tb R Qf k n tgt ls st M) (kf : ¬ x ≤ 0 → Jd l E own cc nL rt tb R Qf k n (pc + 3) ls st M) : Jd l E own cc nL rt tb R Qf k n pc ls (.int x :: st) M := fun p e s m args below meth c C H locs lsr hP hS hl => lv_if_le C.1 C.2.1 d ht (fun h => kt h p e s m args below meth c C H locs lsr hP hS hl) (fun h => kf h p e s m args below meth c C H locs lsr hP hS hl)
theorem j_iceq {x y : Int32} {off : Int} {tgt : Nat} (d : decode cc pc = .ok (.if_icmp .eq off, 3)) (ht : (pc : Int) + off = (tgt : Int)) (kt : x = y → Jd l E own cc nL rt tb R Qf k n tgt ls st M) (kf : ¬ x = y → Jd l E own cc nL rt tb R Qf k n (pc + 3) ls st M) : Jd l E own cc nL rt tb R Qf k n pc ls (.int y :: .int x :: st) M := fun p e s m args below meth c C H locs lsr hP hS hl => lv_icmp_eq C.1 C.2.1 d ht (fun h => kt h p e s m args below meth c C H locs lsr hP hS hl) (fun h => kf h p e s m args below meth c C H locs lsr hP hS hl)
theorem j_icne {x y : Int32} {off : Int} {tgt : Nat} (d : decode cc pc = .ok (.if_icmp .ne off, 3)) (ht : (pc : Int) + off = (tgt : Int)) (kt : ¬ x = y → Jd l E own cc nL rt tb R Qf k n tgt ls st M) (kf : x = y → Jd l E own cc nL rt tb R Qf k n (pc + 3) ls st M) : Jd l E own cc nL rt tb R Qf k n pc ls (.int y :: .int x :: st) M := fun p e s m args below meth c C H locs lsr hP hS hl => lv_icmp_ne C.1 C.2.1 d ht (fun h => kt h p e s m args below meth c C H locs lsr hP hS hl) (fun h => kf h p e s m args below meth c C H locs lsr hP hS hl)
theorem j_iclt {x y : Int32} {off : Int} {tgt : Nat} (d : decode cc pc = .ok (.if_icmp .lt off, 3)) (ht : (pc : Int) + off = (tgt : Int)) (kt : x < y → Jd l E own cc nL rt tb R Qf k n tgt ls st M) (kf : ¬ x < y → Jd l E own cc nL rt tb R Qf k n (pc + 3) ls st M) : Jd l E own cc nL rt tb R Qf k n pc ls (.int y :: .int x :: st) M := fun p e s m args below meth c C H locs lsr hP hS hl => lv_icmp_lt C.1 C.2.1 d ht (fun h => kt h p e s m args below meth c C H locs lsr hP hS hl) (fun h => kf h p e s m args below meth c C H locs lsr hP hS hl)
theorem j_icge {x y : Int32} {off : Int} {tgt : Nat} (d : decode cc pc = .ok (.if_icmp .ge off, 3)) (ht : (pc : Int) + off = (tgt : Int)) (kt : y ≤ x → Jd l E own cc nL rt tb R Qf k n tgt ls st M) (kf : ¬ y ≤ x → Jd l E own cc nL rt tb R Qf k n (pc + 3) ls st M) : Jd l E own cc nL rt tb R Qf k n pc ls (.int y :: .int x :: st) M := fun p e s m args below meth c C H locs lsr hP hS hl => lv_icmp_ge C.1 C.2.1 d ht (fun h => kt h p e s m args below meth c C H locs lsr hP hS hl) (fun h => kf h p e s m args below meth c C H locs lsr hP hS hl)
theorem j_icgt {x y : Int32} {off : Int} {tgt : Nat} (d : decode cc pc = .ok (.if_icmp .gt off, 3)) (ht : (pc : Int) + off = (tgt : Int)) (kt : y < x → Jd l E own cc nL rt tb R Qf k n tgt ls st M) (kf : ¬ y < x → Jd l E own cc nL rt tb R Qf k n (pc + 3) ls st M) : Jd l E own cc nL rt tb R Qf k n pc ls (.int y :: .int x :: st) M := fun p e s m args below meth c C H locs lsr hP hS hl => lv_icmp_gt C.1 C.2.1 d ht (fun h => kt h p e s m args below meth c C H locs lsr hP hS hl) (fun h => kf h p e s m args below meth c C H locs lsr hP hS hl)
theorem j_icle {x y : Int32} {off : Int} {tgt : Nat} (d : decode cc pc = .ok (.if_icmp .le off, 3)) (ht : (pc : Int) + off = (tgt : Int)) (kt : x ≤ y → Jd l E own cc nL rt tb R Qf k n tgt ls st M) (kf : ¬ x ≤ y → Jd l E own cc nL rt tb R Qf k n (pc + 3) ls st M) : Jd l E own cc nL rt tb R Qf k n pc ls (.int y :: .int x :: st) M := fun p e s m args below meth c C H locs lsr hP hS hl => lv_icmp_le C.1 C.2.1 d ht (fun h => kt h p e s m args below meth c C H locs lsr hP hS hl) (fun h => kf h p e s m args below meth c C H locs lsr hP hS hl)
theorem j_goto {off : Int} {tgt : Nat} (d : decode cc pc = .ok (.goto off, 3)) (ht : (pc : Int) + off = (tgt : Int)) (kk : Jd l E own cc nL rt tb R Qf k n tgt ls st M) : Jd l E own cc nL rt tb R Qf k n pc ls st M := fun p e s m args below meth c C H locs lsr hP hS hl => lv_goto C.1 C.2.1 d ht (kk p e s m args below meth c C H locs lsr hP hS hl)
/-- a field read: of the thing (t, i), an object of class number ci -/
theorem j_get {t i ci ix : Nat} {T : u_T} {N : Nat} {Cn : String} {fs : List Value} {v : Value} (f : Nat) (d : decode cc pc = .ok (.getfield ix, 3)) (hi : i < nv t) (hc : cv E M t i = .inr (ci, fs)) (hcl : vwCl[ci]? = some (Cn, T, N)) (hin : ∀ w ∈ u_ws Cn T N, w ∈ wsG) (hf : f < N) (hw : Cond.fieldLink own ix (T f).1 (T f).2.1 (T f).2.2.1 ∈ wsG) (hv : fs[f]? = some v)
    (kk : Jd l E own cc nL rt tb R Qf k n (pc + 3) ls (v :: st) M) : Jd l E own cc nL rt tb R Qf k n pc ls (.ref (eA E t i) :: st) M := by
  intro p e s m args below meth c C H locs lsr hP hS hl
  obtain ⟨hx, hb, hr, hml, hown, hts, hlk, hK, hB, hE, hX, htb⟩ := id C
  obtain ⟨q, hq⟩ := wd_at hE M hi
  rw [hc] at hq
  exact va_get hx hb hts hin hown hK hP q hq hcl f hf (hts _ hw) (fun x h => h) hv d (kk p e s m args below meth c C H locs lsr hP hS hl)
/-- a field written -/
theorem j_put {t i ci ix : Nat} {T : u_T} {N : Nat} {Cn : String} {fs : List Value} {v : Value} {M' : Mm} {ty : FieldType} {ty0 : Nat → FieldType} (f : Nat) (d : decode cc pc = .ok (.putfield ix, 3)) (hi : i < nv t) (hc : cv E M t i = .inr (ci, fs)) (hcl : vwCl[ci]? = some (Cn, T, N)) (hin : ∀ w ∈ u_ws Cn T N, w ∈ wsG) (hty : ∀ k, k < N → parseFieldDescriptor (T k).2.2.1 = some (ty0 k)) (hnm : ∀ a, a < N → ∀ b, b < N → a ≠ b → (T a).2.1 ≠ (T b).2.1) (hf : f < N) (hl0 : f < fs.length) (hw : Cond.fieldLink own ix (T f).1 (T f).2.1 (T f).2.2.1 ∈ wsG) (hfin : (T f).2.2.2 = false) (hd : parseFieldDescriptor (T f).2.2.1 = some ty) (hn : narrow ty v = v) (hfit : fits ty v = true)
    (h1 : cv E M' t i = .inr (ci, fs.set f v)) (h2 : ∀ t' i', i' < nx E t' → (t', i') ≠ (t, i) → cv E M' t' i' = cv E M t' i')
    (kk : Jd l E own cc nL rt tb R Qf k n (pc + 3) ls st M') : Jd l E own cc nL rt tb R Qf k n pc ls (v :: .ref (eA E t i) :: st) M := by
  intro p e s m args below meth c C H locs lsr hP hS hl
  obtain ⟨hx, hb, hr, hml, hown, hts, hlk, hK, hB, hE, hX, htb⟩ := id C
  obtain ⟨q, hq⟩ := wd_at hE M hi
  have hq' := hq
  rw [hc] at hq'
  refine va_put hx hb hts hin ty0 hty hnm hown hK hP (wd_D hE M) hS q hq' hcl f hf (hts _ hw) (fun x h => h) hfin hd hn hfit hl0 d (fun H1 locs1 hP1 hD1 hS1 => ?_)
  rw [wd_set hE hi hq h1 h2] at hP1
  exact kk p e s m args below meth c C H1 locs1 lsr hP1 hS1 hl
theorem j_aildE {t N : Nat} {x : Int32} (j : Nat) (d : decode cc pc = .ok (.iaload, 1)) (hv : nx E t = 1) (hc : cv E M t 0 = .inl (eY E (kd t).1, (kd t).2, .inl (mI M t))) (hk : kd t = (0, N)) (hx9 : x = nI j) (hj : j < N) (hN : N < 2 ^ 31) (kk : Jd l E own cc nL rt tb R Qf k n (pc + 1) ls (.int (mI M t j) :: st) M) : Jd l E own cc nL rt tb R Qf k n pc ls (.int x :: .ref (eA E t 0) :: st) M := by
  intro p e s m args below meth c C H locs lsr hP hS hl
  obtain ⟨hx, hb, hr, hml, hown, hts, hlk, hK, hB, hE, hX, htb⟩ := id C
  obtain ⟨q, hq⟩ := wd_atE hE M (show 0 < nx E t by omega)
  rw [hc, hk] at hq
  have hcl : x.toNatClampNeg = j := by rw [hx9]; exact nI_clamp (by omega)
  refine va_iald hx hb hK hP q 0 hq rfl (i := x) (by rw [hx9]; exact vp_in_nI hj hN) d ?_
  rw [hcl]
  exact kk p e s m args below meth c C H locs lsr hP hS hl
theorem j_aistE {t N : Nat} {x v v' : Int32} (j : Nat) (d : decode cc pc = .ok (.iastore, 1)) (hv : nx E t = 1) (hc : ∀ M : Mm, cv E M t 0 = .inl (eY E (kd t).1, (kd t).2, .inl (mI M t))) (hk : kd t = (0, N)) (hx9 : x = nI j) (hj : j < N) (hN : N < 2 ^ 31) (hvv : v = v') (kk : Jd l E own cc nL rt tb R Qf k n (pc + 1) ls st (sI M t (upd (mI M t) j v'))) : Jd l E own cc nL rt tb R Qf k n pc ls (.int v :: .int x :: .ref (eA E t 0) :: st) M := by
  intro p e s m args below meth c C H locs lsr hP hS hl
  obtain ⟨hx, hb, hr, hml, hown, hts, hlk, hK, hB, hE, hX, htb⟩ := id C
  obtain ⟨q, hq⟩ := wd_atE hE M (show 0 < nx E t by omega)
  have hq' := hq
  rw [hc M, hk] at hq'
  have hcl : x.toNatClampNeg = j := by rw [hx9]; exact nI_clamp (by omega)
  refine va_iast hx hb hK hP (wd_D hE M) hS q 0 hq' rfl (i := x) (by rw [hx9]; exact vp_in_nI hj hN) d (fun H1 locs1 hP1 hD1 hS1 => ?_)
  rw [hcl, hvv] at hP1
  rw [wd_setE hE (show 0 < nx E t by omega) hq (M' := sI M t (upd (mI M t) j v')) (by rw [hc, hk]; simp [sI, mI]) (fun t' i' hi' h => by
    by_cases ht : t' = t
    · subst ht
      rw [hv] at hi'
      exact absurd (by rw [show i' = 0 by omega]) h
    · exact cv_sI ht)] at hP1
  exact kk p e s m args below meth c C H1 locs1 lsr hP1 hS1 hl
theorem j_aild {t N : Nat} {x : Int32} (j : Nat) (d : decode cc pc = .ok (.iaload, 1)) (hv : nv t = 1) (hc : cv E M t 0 = .inl (eY E (kd t).1, (kd t).2, .inl (mI M t))) (hk : kd t = (0, N)) (hx9 : x = nI j) (hj : j < N) (hN : N < 2 ^ 31) (kk : Jd l E own cc nL rt tb R Qf k n (pc + 1) ls (.int (mI M t j) :: st) M) : Jd l E own cc nL rt tb R Qf k n pc ls (.int x :: .ref (eA E t 0) :: st) M := j_aildE j d (nx1 hv) hc hk hx9 hj hN kk
theorem j_aist {t N : Nat} {x v v' : Int32} (j : Nat) (d : decode cc pc = .ok (.iastore, 1)) (hv : nv t = 1) (hc : ∀ M : Mm, cv E M t 0 = .inl (eY E (kd t).1, (kd t).2, .inl (mI M t))) (hk : kd t = (0, N)) (hx9 : x = nI j) (hj : j < N) (hN : N < 2 ^ 31) (hvv : v = v') (kk : Jd l E own cc nL rt tb R Qf k n (pc + 1) ls st (sI M t (upd (mI M t) j v'))) : Jd l E own cc nL rt tb R Qf k n pc ls (.int v :: .int x :: .ref (eA E t 0) :: st) M := j_aistE j d (nx1 hv) hc hk hx9 hj hN hvv kk
theorem j_azldE {t N : Nat} {x : Int32} (j : Nat) (d : decode cc pc = .ok (.baload, 1)) (hv : nx E t = 1) (hc : cv E M t 0 = .inl (eY E (kd t).1, (kd t).2, .inl (mI M t))) (hk : kd t = (2, N)) (hx9 : x = nI j) (hj : j < N) (hN : N < 2 ^ 31) (kk : Jd l E own cc nL rt tb R Qf k n (pc + 1) ls (.int (mI M t j) :: st) M) : Jd l E own cc nL rt tb R Qf k n pc ls (.int x :: .ref (eA E t 0) :: st) M := by
  intro p e s m args below meth c C H locs lsr hP hS hl
  obtain ⟨hx, hb, hr, hml, hown, hts, hlk, hK, hB, hE, hX, htb⟩ := id C
  obtain ⟨q, hq⟩ := wd_atE hE M (show 0 < nx E t by omega)
  rw [hc, hk] at hq
  have hcl : x.toNatClampNeg = j := by rw [hx9]; exact nI_clamp (by omega)
  refine va_zald hx hb hK hP q 2 hq rfl (i := x) (by rw [hx9]; exact vp_in_nI hj hN) d ?_
  rw [hcl]
  exact kk p e s m args below meth c C H locs lsr hP hS hl
theorem j_azstE {t N : Nat} {x v v' : Int32} (j : Nat) (d : decode cc pc = .ok (.bastore, 1)) (hv : nx E t = 1) (hc : ∀ M : Mm, cv E M t 0 = .inl (eY E (kd t).1, (kd t).2, .inl (mI M t))) (hk : kd t = (2, N)) (hx9 : x = nI j) (hj : j < N) (hN : N < 2 ^ 31) (hvv : vp_nar .boolean v = v') (kk : Jd l E own cc nL rt tb R Qf k n (pc + 1) ls st (sI M t (upd (mI M t) j v'))) : Jd l E own cc nL rt tb R Qf k n pc ls (.int v :: .int x :: .ref (eA E t 0) :: st) M := by
  intro p e s m args below meth c C H locs lsr hP hS hl
  obtain ⟨hx, hb, hr, hml, hown, hts, hlk, hK, hB, hE, hX, htb⟩ := id C
  obtain ⟨q, hq⟩ := wd_atE hE M (show 0 < nx E t by omega)
  have hq' := hq
  rw [hc M, hk] at hq'
  have hcl : x.toNatClampNeg = j := by rw [hx9]; exact nI_clamp (by omega)
  refine va_zast hx hb hK hP (wd_D hE M) hS q 2 hq' rfl (i := x) (by rw [hx9]; exact vp_in_nI hj hN) d (fun H1 locs1 hP1 hD1 hS1 => ?_)
  rw [hcl, hvv] at hP1
  rw [wd_setE hE (show 0 < nx E t by omega) hq (M' := sI M t (upd (mI M t) j v')) (by rw [hc, hk]; simp [sI, mI]) (fun t' i' hi' h => by
    by_cases ht : t' = t
    · subst ht
      rw [hv] at hi'
      exact absurd (by rw [show i' = 0 by omega]) h
    · exact cv_sI ht)] at hP1
  exact kk p e s m args below meth c C H1 locs1 lsr hP1 hS1 hl
theorem j_azld {t N : Nat} {x : Int32} (j : Nat) (d : decode cc pc = .ok (.baload, 1)) (hv : nv t = 1) (hc : cv E M t 0 = .inl (eY E (kd t).1, (kd t).2, .inl (mI M t))) (hk : kd t = (2, N)) (hx9 : x = nI j) (hj : j < N) (hN : N < 2 ^ 31) (kk : Jd l E own cc nL rt tb R Qf k n (pc + 1) ls (.int (mI M t j) :: st) M) : Jd l E own cc nL rt tb R Qf k n pc ls (.int x :: .ref (eA E t 0) :: st) M := j_azldE j d (nx1 hv) hc hk hx9 hj hN kk
theorem j_azst {t N : Nat} {x v v' : Int32} (j : Nat) (d : decode cc pc = .ok (.bastore, 1)) (hv : nv t = 1) (hc : ∀ M : Mm, cv E M t 0 = .inl (eY E (kd t).1, (kd t).2, .inl (mI M t))) (hk : kd t = (2, N)) (hx9 : x = nI j) (hj : j < N) (hN : N < 2 ^ 31) (hvv : vp_nar .boolean v = v') (kk : Jd l E own cc nL rt tb R Qf k n (pc + 1) ls st (sI M t (upd (mI M t) j v'))) : Jd l E own cc nL rt tb R Qf k n pc ls (.int v :: .int x :: .ref (eA E t 0) :: st) M := j_azstE j d (nx1 hv) hc hk hx9 hj hN hvv kk
theorem j_acldE {t N : Nat} {x : Int32} (j : Nat) (d : decode cc pc = .ok (.caload, 1)) (hv : nx E t = 1) (hc : cv E M t 0 = .inl (eY E (kd t).1, (kd t).2, .inl (mI M t))) (hk : kd t = (3, N)) (hx9 : x = nI j) (hj : j < N) (hN : N < 2 ^ 31) (kk : Jd l E own cc nL rt tb R Qf k n (pc + 1) ls (.int (mI M t j) :: st) M) : Jd l E own cc nL rt tb R Qf k n pc ls (.int x :: .ref (eA E t 0) :: st) M := by
  intro p e s m args below meth c C H locs lsr hP hS hl
  obtain ⟨hx, hb, hr, hml, hown, hts, hlk, hK, hB, hE, hX, htb⟩ := id C
  obtain ⟨q, hq⟩ := wd_atE hE M (show 0 < nx E t by omega)
  rw [hc, hk] at hq
  have hcl : x.toNatClampNeg = j := by rw [hx9]; exact nI_clamp (by omega)
  refine va_cald hx hb hK hP q 3 hq rfl (i := x) (by rw [hx9]; exact vp_in_nI hj hN) d ?_
  rw [hcl]
  exact kk p e s m args below meth c C H locs lsr hP hS hl
theorem j_acstE {t N : Nat} {x v v' : Int32} (j : Nat) (d : decode cc pc = .ok (.castore, 1)) (hv : nx E t = 1) (hc : ∀ M : Mm, cv E M t 0 = .inl (eY E (kd t).1, (kd t).2, .inl (mI M t))) (hk : kd t = (3, N)) (hx9 : x = nI j) (hj : j < N) (hN : N < 2 ^ 31) (hvv : vp_nar .char v = v') (kk : Jd l E own cc nL rt tb R Qf k n (pc + 1) ls st (sI M t (upd (mI M t) j v'))) : Jd l E own cc nL rt tb R Qf k n pc ls (.int v :: .int x :: .ref (eA E t 0) :: st) M := by
  intro p e s m args below meth c C H locs lsr hP hS hl
  obtain ⟨hx, hb, hr, hml, hown, hts, hlk, hK, hB, hE, hX, htb⟩ := id C
  obtain ⟨q, hq⟩ := wd_atE hE M (show 0 < nx E t by omega)
  have hq' := hq
  rw [hc M, hk] at hq'
  have hcl : x.toNatClampNeg = j := by rw [hx9]; exact nI_clamp (by omega)
  refine va_cast hx hb hK hP (wd_D hE M) hS q 3 hq' rfl (i := x) (by rw [hx9]; exact vp_in_nI hj hN) d (fun H1 locs1 hP1 hD1 hS1 => ?_)
  rw [hcl, hvv] at hP1
  rw [wd_setE hE (show 0 < nx E t by omega) hq (M' := sI M t (upd (mI M t) j v')) (by rw [hc, hk]; simp [sI, mI]) (fun t' i' hi' h => by
    by_cases ht : t' = t
    · subst ht
      rw [hv] at hi'
      exact absurd (by rw [show i' = 0 by omega]) h
    · exact cv_sI ht)] at hP1
  exact kk p e s m args below meth c C H1 locs1 lsr hP1 hS1 hl
theorem j_acld {t N : Nat} {x : Int32} (j : Nat) (d : decode cc pc = .ok (.caload, 1)) (hv : nv t = 1) (hc : cv E M t 0 = .inl (eY E (kd t).1, (kd t).2, .inl (mI M t))) (hk : kd t = (3, N)) (hx9 : x = nI j) (hj : j < N) (hN : N < 2 ^ 31) (kk : Jd l E own cc nL rt tb R Qf k n (pc + 1) ls (.int (mI M t j) :: st) M) : Jd l E own cc nL rt tb R Qf k n pc ls (.int x :: .ref (eA E t 0) :: st) M := j_acldE j d (nx1 hv) hc hk hx9 hj hN kk
theorem j_acst {t N : Nat} {x v v' : Int32} (j : Nat) (d : decode cc pc = .ok (.castore, 1)) (hv : nv t = 1) (hc : ∀ M : Mm, cv E M t 0 = .inl (eY E (kd t).1, (kd t).2, .inl (mI M t))) (hk : kd t = (3, N)) (hx9 : x = nI j) (hj : j < N) (hN : N < 2 ^ 31) (hvv : vp_nar .char v = v') (kk : Jd l E own cc nL rt tb R Qf k n (pc + 1) ls st (sI M t (upd (mI M t) j v'))) : Jd l E own cc nL rt tb R Qf k n pc ls (.int v :: .int x :: .ref (eA E t 0) :: st) M := j_acstE j d (nx1 hv) hc hk hx9 hj hN hvv kk
theorem j_aldL {i : Nat} {x : Int32} (j : Nat) (d : decode cc pc = .ok (.laload, 1)) (hi : i < nv 8) (hx9 : x = nI j) (hj : j < 8) (kk : Jd l E own cc nL rt tb R Qf k n (pc + 1) ls (.long (mL M i j) :: st) M) : Jd l E own cc nL rt tb R Qf k n pc ls (.int x :: .ref (eA E 8 i) :: st) M := by
  intro p e s m args below meth c C H locs lsr hP hS hl
  obtain ⟨hx, hb, hr, hml, hown, hts, hlk, hK, hB, hE, hX, htb⟩ := id C
  obtain ⟨q, hq⟩ := wd_at hE M hi
  have hcl : x.toNatClampNeg = j := by rw [hx9]; exact nI_clamp (by omega)
  refine va_lald hx hb hK hP q 1 hq rfl (i := x) (by rw [hx9]; exact vp_in_nI hj (by omega)) d ?_
  rw [hcl]
  exact kk p e s m args below meth c C H locs lsr hP hS hl
theorem j_astL {i : Nat} {x : Int32} {v : Int64} (j : Nat) (d : decode cc pc = .ok (.lastore, 1)) (hi : i < nv 8) (hx9 : x = nI j) (hj : j < 8) (kk : Jd l E own cc nL rt tb R Qf k n (pc + 1) ls st (sL M i (vp_updL (mL M i) j v))) : Jd l E own cc nL rt tb R Qf k n pc ls (.long v :: .int x :: .ref (eA E 8 i) :: st) M := by
  intro p e s m args below meth c C H locs lsr hP hS hl
  obtain ⟨hx, hb, hr, hml, hown, hts, hlk, hK, hB, hE, hX, htb⟩ := id C
  obtain ⟨q, hq⟩ := wd_at hE M hi
  have hcl : x.toNatClampNeg = j := by rw [hx9]; exact nI_clamp (by omega)
  refine va_last hx hb hK hP (wd_D hE M) hS q 1 hq rfl (i := x) (by rw [hx9]; exact vp_in_nI hj (by omega)) d (fun H1 locs1 hP1 hD1 hS1 => ?_)
  rw [hcl] at hP1
  rw [wd_set hE hi hq (M' := sL M i (vp_updL (mL M i) j v)) (by simp [cv, sL, mL]) (fun t' i' _ h => cv_sL h)] at hP1
  exact kk p e s m args below meth c C H1 locs1 lsr hP1 hS1 hl
theorem j_aldK {i : Nat} {x : Int32} (j : Nat) (d : decode cc pc = .ok (.laload, 1)) (hi : i < nv 9) (hx9 : x = nI j) (hj : j < 288) (kk : Jd l E own cc nL rt tb R Qf k n (pc + 1) ls (.long (mK M i j) :: st) M) : Jd l E own cc nL rt tb R Qf k n pc ls (.int x :: .ref (eA E 9 i) :: st) M := by
  intro p e s m args below meth c C H locs lsr hP hS hl
  obtain ⟨hx, hb, hr, hml, hown, hts, hlk, hK, hB, hE, hX, htb⟩ := id C
  obtain ⟨q, hq⟩ := wd_at hE M hi
  have hcl : x.toNatClampNeg = j := by rw [hx9]; exact nI_clamp (by omega)
  refine va_lald hx hb hK hP q 1 hq rfl (i := x) (by rw [hx9]; exact vp_in_nI hj (by omega)) d ?_
  rw [hcl]
  exact kk p e s m args below meth c C H locs lsr hP hS hl
theorem j_astK {i : Nat} {x : Int32} {v : Int64} (j : Nat) (d : decode cc pc = .ok (.lastore, 1)) (hi : i < nv 9) (hx9 : x = nI j) (hj : j < 288) (kk : Jd l E own cc nL rt tb R Qf k n (pc + 1) ls st (sK M i (vp_updL (mK M i) j v))) : Jd l E own cc nL rt tb R Qf k n pc ls (.long v :: .int x :: .ref (eA E 9 i) :: st) M := by
  intro p e s m args below meth c C H locs lsr hP hS hl
  obtain ⟨hx, hb, hr, hml, hown, hts, hlk, hK, hB, hE, hX, htb⟩ := id C
  obtain ⟨q, hq⟩ := wd_at hE M hi
  have hcl : x.toNatClampNeg = j := by rw [hx9]; exact nI_clamp (by omega)
  refine va_last hx hb hK hP (wd_D hE M) hS q 1 hq rfl (i := x) (by rw [hx9]; exact vp_in_nI hj (by omega)) d (fun H1 locs1 hP1 hD1 hS1 => ?_)
  rw [hcl] at hP1
  rw [wd_set hE hi hq (M' := sK M i (vp_updL (mK M i) j v)) (by simp [cv, sK, mK]) (fun t' i' _ h => cv_sK h)] at hP1
  exact kk p e s m args below meth c C H1 locs1 lsr hP1 hS1 hl
theorem cv_sW0 {E : Ev} {M : Mm} {v : Int64} {t' i : Nat} (h : t' ≠ 1) : cv E (sW M 0 v) t' i = cv E M t' i := by
  unfold cv
  split <;> simp_all [sW, mI, mL, mK, mW, mD]
/-- a place of a tag that is there once -/
theorem pl1 {E : Ev} {t t' i' : Nat} (h1 : nv t = 1) (h2 : i' < nx E t') (h3 : (t', i') ≠ (t, 0)) : t' ≠ t := by
  intro e
  subst e
  rw [nx1 h1] at h2
  exact h3 (by rw [show i' = 0 by omega])
theorem j_aldB {x : Int32} (j : Nat) (d : decode cc pc = .ok (.aaload, 1)) (hx9 : x = nI j) (hj : j < 13) (kk : Jd l E own cc nL rt tb R Qf k n (pc + 1) ls (.ref (eA E 6 j) :: st) M) : Jd l E own cc nL rt tb R Qf k n pc ls (.int x :: .ref (eA E 10 0) :: st) M := by
  intro p e s m args below meth c C H locs lsr hP hS hl
  obtain ⟨hx, hb, hr, hml, hown, hts, hlk, hK, hB, hE, hX, htb⟩ := id C
  obtain ⟨q, hq⟩ := wd_at hE M (t := 10) (i := 0) (by decide)
  have hcl : x.toNatClampNeg = j := by rw [hx9]; exact nI_clamp (by omega)
  refine va_aldq hx hb hK hP q 5 hq rfl (i := x) (by rw [hx9]; exact vp_in_nI hj (by omega)) d ?_
  rw [hcl]
  exact kk p e s m args below meth c C H locs lsr hP hS hl
theorem j_aldC {x : Int32} (j : Nat) (d : decode cc pc = .ok (.aaload, 1)) (hx9 : x = nI j) (hj : j < 6) (kk : Jd l E own cc nL rt tb R Qf k n (pc + 1) ls (.ref (eA E 7 (19 + j)) :: st) M) : Jd l E own cc nL rt tb R Qf k n pc ls (.int x :: .ref (eA E 11 0) :: st) M := by
  intro p e s m args below meth c C H locs lsr hP hS hl
  obtain ⟨hx, hb, hr, hml, hown, hts, hlk, hK, hB, hE, hX, htb⟩ := id C
  obtain ⟨q, hq⟩ := wd_at hE M (t := 11) (i := 0) (by decide)
  have hcl : x.toNatClampNeg = j := by rw [hx9]; exact nI_clamp (by omega)
  refine va_aldq hx hb hK hP q 6 hq rfl (i := x) (by rw [hx9]; exact vp_in_nI hj (by omega)) d ?_
  rw [hcl]
  exact kk p e s m args below meth c C H locs lsr hP hS hl
theorem j_cpyL {i i2 ix : Nat} {n9 : Int32} (d : decode cc pc = .ok (.invokestatic ix, 3)) (hw : Cond.methodLink own ix arraycopyName ∈ wsG) (hnat : Cond.native arraycopyName ∈ wsG) (hst : Cond.static arraycopyName ∈ wsG) (hini : Cond.initialized "java/lang/System" ∈ wsG) (hi : i < nv 8) (hi2 : i2 < nv 8) (h9 : n9 = 8) (hRf : 1 ≤ R.frames) (hRl : (st.map fun v => v.category).sum + (nativeFrameWords "java/lang/System" "arraycopy" 5 + 11) ≤ R.locals) (kk : Jd l E own cc nL rt tb R Qf k n (pc + 3) ls st (sL M i2 (va_cpy (mL M i) (mL M i2) 0 0 8))) : Jd l E own cc nL rt tb R Qf k n pc ls (.int n9 :: .int 0 :: .ref (eA E 8 i2) :: .int 0 :: .ref (eA E 8 i) :: st) M := by
  intro p e s m args below meth c C H locs lsr hP hS hl
  obtain ⟨hx, hb, hr, hml, hown, hts, hlk, hK, hB, hE, hX, htb⟩ := id C
  obtain ⟨q, hq⟩ := wd_at hE M hi
  obtain ⟨q2, hq2⟩ := wd_at hE M hi2
  subst h9
  refine va_copyl hx hb (by rw [hml, hl.1]) hown (hts _ hw) (hts _ hnat) (hts _ hst) (hts _ hini) hK hP (wd_D hE M) hS q q2 1 1 hq hq2 rfl rfl rfl (sp := 0) (dp := 0) (n := 8) (by decide) (by decide) (by decide) (by decide) (by decide) (fun _ _ => rfl) hRf hRl d (fun H1 locs1 hP1 hD1 hS1 => ?_)
  have hP1 : va_P (eG E) vwCl ((wd E M).set q2 (eA E 8 i2, .inl (eY E 1, 8, .inr (.inl (va_cpy (mL M i) (mL M i2) 0 0 8))))) H1 := hP1
  rw [wd_set hE hi2 hq2 (M' := sL M i2 (va_cpy (mL M i) (mL M i2) 0 0 8)) (by simp [cv, sL, mL]) (fun t' i' _ h => cv_sL h)] at hP1
  exact kk p e s m args below meth c C H1 locs1 lsr hP1 hS1 hl
theorem j_cpyK {i i2 ix : Nat} {n9 : Int32} (d : decode cc pc = .ok (.invokestatic ix, 3)) (hw : Cond.methodLink own ix arraycopyName ∈ wsG) (hnat : Cond.native arraycopyName ∈ wsG) (hst : Cond.static arraycopyName ∈ wsG) (hini : Cond.initialized "java/lang/System" ∈ wsG) (hi : i < nv 9) (hi2 : i2 < nv 9) (h9 : n9 = 288) (hRf : 1 ≤ R.frames) (hRl : (st.map fun v => v.category).sum + (nativeFrameWords "java/lang/System" "arraycopy" 5 + 11) ≤ R.locals) (kk : Jd l E own cc nL rt tb R Qf k n (pc + 3) ls st (sK M i2 (va_cpy (mK M i) (mK M i2) 0 0 288))) : Jd l E own cc nL rt tb R Qf k n pc ls (.int n9 :: .int 0 :: .ref (eA E 9 i2) :: .int 0 :: .ref (eA E 9 i) :: st) M := by
  intro p e s m args below meth c C H locs lsr hP hS hl
  obtain ⟨hx, hb, hr, hml, hown, hts, hlk, hK, hB, hE, hX, htb⟩ := id C
  obtain ⟨q, hq⟩ := wd_at hE M hi
  obtain ⟨q2, hq2⟩ := wd_at hE M hi2
  subst h9
  refine va_copyl hx hb (by rw [hml, hl.1]) hown (hts _ hw) (hts _ hnat) (hts _ hst) (hts _ hini) hK hP (wd_D hE M) hS q q2 1 1 hq hq2 rfl rfl rfl (sp := 0) (dp := 0) (n := 288) (by decide) (by decide) (by decide) (by decide) (by decide) (fun _ _ => rfl) hRf hRl d (fun H1 locs1 hP1 hD1 hS1 => ?_)
  have hP1 : va_P (eG E) vwCl ((wd E M).set q2 (eA E 9 i2, .inl (eY E 1, 288, .inr (.inl (va_cpy (mK M i) (mK M i2) 0 0 288))))) H1 := hP1
  rw [wd_set hE hi2 hq2 (M' := sK M i2 (va_cpy (mK M i) (mK M i2) 0 0 288)) (by simp [cv, sK, mK]) (fun t' i' _ h => cv_sK h)] at hP1
  exact kk p e s m args below meth c C H1 locs1 lsr hP1 hS1 hl
theorem j_cpyS {ix : Nat} {x : Int32} (j : Nat) (d : decode cc pc = .ok (.invokestatic ix, 3)) (hw : Cond.methodLink own ix arraycopyName ∈ wsG) (hnat : Cond.native arraycopyName ∈ wsG) (hst : Cond.static arraycopyName ∈ wsG) (hini : Cond.initialized "java/lang/System" ∈ wsG) (hx9 : x = nI j) (hj : j + 6 ≤ 72) (hRf : 1 ≤ R.frames) (hRl : (st.map fun v => v.category).sum + (nativeFrameWords "java/lang/System" "arraycopy" 5 + 11) ≤ R.locals) (kk : Jd l E own cc nL rt tb R Qf k n (pc + 3) ls st (sI M 32 (va_cpy (mI M 29) (mI M 32) 0 j 6))) : Jd l E own cc nL rt tb R Qf k n pc ls (.int 6 :: .int x :: .ref (eA E 32 0) :: .int 0 :: .ref (eA E 29 0) :: st) M := by
  intro p e s m args below meth c C H locs lsr hP hS hl
  obtain ⟨hx, hb, hr, hml, hown, hts, hlk, hK, hB, hE, hX, htb⟩ := id C
  obtain ⟨q, hq⟩ := wd_at hE M (t := 29) (i := 0) (by decide)
  obtain ⟨q2, hq2⟩ := wd_at hE M (t := 32) (i := 0) (by decide)
  have hcl : x.toNatClampNeg = j := by rw [hx9]; exact nI_clamp (by omega)
  refine va_copyi hx hb (by rw [hml, hl.1]) hown (hts _ hw) (hts _ hnat) (hts _ hst) (hts _ hini) hK hP (wd_D hE M) hS q q2 0 0 hq hq2 rfl rfl rfl (sp := 0) (dp := x) (n := 6) (by decide) (by rw [hx9]; exact nI_pos (by omega)) (by decide) (by decide) (by rw [hcl]; exact hj) (fun _ _ => rfl) hRf hRl d (fun H1 locs1 hP1 hD1 hS1 => ?_)
  rw [hcl] at hP1
  have hP1 : va_P (eG E) vwCl ((wd E M).set q2 (eA E 32 0, .inl (eY E 0, 72, .inl (va_cpy (mI M 29) (mI M 32) 0 j 6)))) H1 := hP1
  rw [wd_set hE (by decide) hq2 (M' := sI M 32 (va_cpy (mI M 29) (mI M 32) 0 j 6)) (by simp [cv, kd, sI, mI]) (fun t' i' h2 h3 => cv_sI (pl1 rfl h2 h3))] at hP1
  exact kk p e s m args below meth c C H1 locs1 lsr hP1 hS1 hl
end JR
/-! contracts over a memory -/
def rmm (lv mc ms : Nat) : Room := { frames := lv, cells := mc, slots := ms, locals := 50 * lv }
abbrev wsM (y : MethodName) (cc : ByteArray) (nL : Nat) (ret : Option FieldType) : List Cond := Cond.code y cc nL ret :: wsG
def Wd (E : Ev) (M : Mm) (U : State) : Prop := va_P (eG E) vwCl (wd E M) U.heap ∧ va_K (eG E) vwCl (tysE E) U ∧ eB E ≤ U.heap.size ∧ LayOK E ∧ Xt E U
def QN (E : Ev) (post : Option Value → Mm → Prop) : Array Value → State → Outcome → State → Prop := fun _ st oc t => (∃ (v : Option Value) (M' : Mm), oc = .returned v ∧ post v M' ∧ va_P (eG E) vwCl (wd E M') t.heap) ∧ va_F (eF E) st t
def XCm (E : Ev) (px : String → Mm → Prop) : String → State → State → Prop := vx_X (S := Mm) (fun _ => True) (fun N M' t => px N M' ∧ va_P (eG E) vwCl (wd E M') t.heap) (eF E)
/-- method y at level lv, from these arguments and this memory: it returns, and post holds of answer and memory -/
def Ct (l : Launch) (E : Ev) (y : MethodName) (cc : ByteArray) (nL : Nat) (ret : Option FieldType) (lv mc ms : Nat) (As : List Value) (M : Mm) (post : Option Value → Mm → Prop) : Prop :=
  Met l y (wsM y cc nL ret) (rmm lv mc ms) (va_Pc As (Wd E M)) (QN E post) mc ms (eF E)
/-- .. or throws, and px holds of the class and memory -/
def CtX (l : Launch) (E : Ev) (y : MethodName) (cc : ByteArray) (nL : Nat) (ret : Option FieldType) (lv : Nat) (As : List Value) (M : Mm) (post : Option Value → Mm → Prop) (px : String → Mm → Prop) : Prop :=
  vx_Met l y (wsM y cc nL ret) (rmm lv 1 6) (va_Pc As (Wd E M)) (QN E post) (XCm E px) 1 6 (eF E)
abbrev QfN (E : Ev) (post : Option Value → Mm → Prop) (mc ms : Nat) : List Frame → Array Value → State → State → Prop := fun below args s => MQ below (QN E post) args s mc ms (eF E)
abbrev QfX (E : Ev) (post : Option Value → Mm → Prop) (px : String → Mm → Prop) : List Frame → Array Value → State → State → Prop := fun below args s => vx_MQ below (QN E post) (XCm E px) args s 1 6 (eF E)
theorem Cx.of {l : Launch} {E : Ev} {y : MethodName} {cc : ByteArray} {nL : Nat} {ret : Option FieldType} {rm : Room} {M : Mm} {p : Program} {e : Env} {s : State} {m : MethodId} {args : Array Value} {below : List Frame} {meth : Method} {c : Code} {s₁ : State}
    (B : BodyLoose p l y (headSpec (wsM y cc nL ret) rm) cc nL ret e s m args below meth c s₁) (hml : c.maxLocals = nL) (hw : Wd E M s) : Cx l E y.cls cc nL ret [] p s m args meth c := by
  have hts := atoms_spec (ws := wsM y cc nL ret) B.pre
  have htb : c.exceptionTable.toList = [] := by
    obtain ⟨meth9, c9, h1, h2, -, -, -, -, h7, -⟩ := Cond.code_spec B.named (hts _ List.mem_cons_self)
    cases Option.some.inj (h1.symm.trans B.method)
    cases Option.some.inj (h2.symm.trans (Stand.of_body B).code)
    rw [Array.isEmpty_iff.mp h7]
  exact ⟨B.exec, B.bytes, B.returns, hml, findClass_of_methodNamed B.named, fun w h => hts w (List.mem_cons_of_mem _ h), B.notSynchronized, hw.2.1, hw.2.2.1, hw.2.2.2.1, hw.2.2.2.2, htb⟩
theorem ent_has {As : List Value} {nL : Nat} {ls : List (Option Value)} {m : MethodId} (h1 : (lg_sl As).length ≤ nL) (h2 : lp 0 ls = lv_args 0 As) : ∃ lsr : Array Slot, entryFrame m As.toArray nL = F0 m 0 lsr [] ∧ lv_has lsr nL (lp 0 ls) := by
  refine ⟨(lg_sl As ++ List.replicate (nL - (lg_sl As).length) Slot.unset).toArray, ?_, ?_⟩
  · rw [lg_entry_eq]
  · rw [h2]; exact lv_entry As h1
theorem Ct.of {l : Launch} {E : Ev} {y : MethodName} {cc : ByteArray} {nL : Nat} {ret : Option FieldType} {lv mc ms : Nat} {As : List Value} {M : Mm} {post : Option Value → Mm → Prop} {own : String} (ho : y.cls = own) (ls : List (Option Value)) (hy : plainName own = true) (h1 : (lg_sl As).length ≤ nL) (h2 : lp 0 ls = lv_args 0 As)
    (body : Jd l E own cc nL ret [] (rmm lv mc ms) (QfN E post mc ms) 0 0 0 ls [] M) : Ct l E y cc nL ret lv mc ms As M post := by
  subst ho
  refine Met.ofW (cc := cc) (maxL := nL) (ret := ret) hy rfl ?_
  intro p e s m args below meth c s₁ B hml hv
  obtain ⟨rfl, hW⟩ := hv
  obtain ⟨lsr, e1, hl⟩ := ent_has (m := m) h1 h2
  rw [e1]
  exact body p e s m _ below meth c (Cx.of B hml hW) s.heap [] lsr hW.1 va_S.rf hl
theorem CtX.of {l : Launch} {E : Ev} {y : MethodName} {cc : ByteArray} {nL : Nat} {ret : Option FieldType} {lv : Nat} {As : List Value} {M : Mm} {post : Option Value → Mm → Prop} {px : String → Mm → Prop} {own : String} (ho : y.cls = own) (ls : List (Option Value)) (hy : plainName own = true) (h1 : (lg_sl As).length ≤ nL) (h2 : lp 0 ls = lv_args 0 As)
    (body : Jd l E own cc nL ret [] (rmm lv 1 6) (QfX E post px) 0 0 0 ls [] M) : CtX l E y cc nL ret lv As M post px := by
  subst ho
  refine vx_ofW (cc := cc) (maxL := nL) (ret := ret) hy rfl ?_
  intro p e s m args below meth c s₁ B hml htb hv
  obtain ⟨rfl, hW⟩ := hv
  obtain ⟨lsr, e1, hl⟩ := ent_has (m := m) h1 h2
  rw [e1]
  exact body p e s m _ below meth c (Cx.of B hml hW) s.heap [] lsr hW.1 va_S.rf hl
section JE
variable {l : Launch} {E : Ev} {own : String} {cc : ByteArray} {nL : Nat} {rt : Option FieldType} {tb : List ExceptionTableEntry} {R : Room} {Qf : List Frame → Array Value → State → State → Prop} {k n : Nat} {pc : Nat} {ls : List (Option Value)} {st : List Value} {M : Mm} {post : Option Value → Mm → Prop} {px : String → Mm → Prop} {mc ms : Nat}
theorem qn_of {H : Heap} {locs : List Loc} {s : State} {args : Array Value} {v : Option Value} (hp : post v M) (hP : va_P (eG E) vwCl (wd E M) H) (hS : va_S (eF E) s.heap H locs) : ∀ t : State, t.heap = H → s.WarmedH t.vm → QN E post args s (.returned v) t :=
  fun t ht _ => ⟨⟨v, M, rfl, hp, by rw [ht]; exact hP⟩, hS.F ht⟩
theorem j_iret {v : Int32} {ty : FieldType} (d : decode cc pc = .ok (.ireturn, 1)) (hr : rt = some ty) (hn : narrow ty (.int v) = .int v) (hk : k ≤ mc) (hn9 : n ≤ ms) (hp : post (some (.int v)) M) : Jd l E own cc nL rt tb R (QfN E post mc ms) k n pc ls [.int v] M := by
  intro p e s m args below meth c C H locs lsr hP hS hl
  have hr2 := C.2.2.1.trans hr
  have hlocks := C.2.2.2.2.2.2.1
  refine W.widen hk hn9 ?_
  exact W.zret C.1 C.2.1 hr2 hn (qn_of hp hP hS) hS.2.2 d
theorem j_iretX {v : Int32} {ty : FieldType} (d : decode cc pc = .ok (.ireturn, 1)) (hr : rt = some ty) (hn : narrow ty (.int v) = .int v) (hk : k ≤ 1) (hn9 : n ≤ 6) (hp : post (some (.int v)) M) : Jd l E own cc nL rt tb R (QfX E post px) k n pc ls [.int v] M := by
  intro p e s m args below meth c C H locs lsr hP hS hl
  exact vx_ret (j_iret (mc := 1) (ms := 6) d hr hn hk hn9 hp p e s m args below meth c C H locs lsr hP hS hl)
theorem j_lret {v : Int64} (d : decode cc pc = .ok (.lreturn, 1)) (hr : rt = some .long) (hk : k ≤ mc) (hn9 : n ≤ ms) (hp : post (some (.long v)) M) : Jd l E own cc nL rt tb R (QfN E post mc ms) k n pc ls [.long v] M := by
  intro p e s m args below meth c C H locs lsr hP hS hl
  have hr2 := C.2.2.1.trans hr
  have hlocks := C.2.2.2.2.2.2.1
  refine W.widen hk hn9 ?_
  exact W.lret C.1 C.2.1 hr2 (qn_of hp hP hS) hS.2.2 d
theorem j_lretX {v : Int64} (d : decode cc pc = .ok (.lreturn, 1)) (hr : rt = some .long) (hk : k ≤ 1) (hn9 : n ≤ 6) (hp : post (some (.long v)) M) : Jd l E own cc nL rt tb R (QfX E post px) k n pc ls [.long v] M := by
  intro p e s m args below meth c C H locs lsr hP hS hl
  exact vx_ret (j_lret (mc := 1) (ms := 6) d hr hk hn9 hp p e s m args below meth c C H locs lsr hP hS hl)
theorem j_dret {v : UInt64} (d : decode cc pc = .ok (.dreturn, 1)) (hr : rt = some .double) (hk : k ≤ mc) (hn9 : n ≤ ms) (hp : post (some (.double v)) M) : Jd l E own cc nL rt tb R (QfN E post mc ms) k n pc ls [.double v] M := by
  intro p e s m args below meth c C H locs lsr hP hS hl
  have hr2 := C.2.2.1.trans hr
  have hlocks := C.2.2.2.2.2.2.1
  refine W.widen hk hn9 ?_
  exact W.dret C.1 C.2.1 hr2 (qn_of hp hP hS) hS.2.2 d
theorem j_dretX {v : UInt64} (d : decode cc pc = .ok (.dreturn, 1)) (hr : rt = some .double) (hk : k ≤ 1) (hn9 : n ≤ 6) (hp : post (some (.double v)) M) : Jd l E own cc nL rt tb R (QfX E post px) k n pc ls [.double v] M := by
  intro p e s m args below meth c C H locs lsr hP hS hl
  exact vx_ret (j_dret (mc := 1) (ms := 6) d hr hk hn9 hp p e s m args below meth c C H locs lsr hP hS hl)
theorem j_fret {v : UInt32} (d : decode cc pc = .ok (.freturn, 1)) (hr : rt = some .float) (hk : k ≤ mc) (hn9 : n ≤ ms) (hp : post (some (.float v)) M) : Jd l E own cc nL rt tb R (QfN E post mc ms) k n pc ls [.float v] M := by
  intro p e s m args below meth c C H locs lsr hP hS hl
  have hr2 := C.2.2.1.trans hr
  have hlocks := C.2.2.2.2.2.2.1
  refine W.widen hk hn9 ?_
  exact W.fret C.1 C.2.1 hr2 (qn_of hp hP hS) hS.2.2 d
theorem j_fretX {v : UInt32} (d : decode cc pc = .ok (.freturn, 1)) (hr : rt = some .float) (hk : k ≤ 1) (hn9 : n ≤ 6) (hp : post (some (.float v)) M) : Jd l E own cc nL rt tb R (QfX E post px) k n pc ls [.float v] M := by
  intro p e s m args below meth c C H locs lsr hP hS hl
  exact vx_ret (j_fret (mc := 1) (ms := 6) d hr hk hn9 hp p e s m args below meth c C H locs lsr hP hS hl)
/-- behind a call -/
theorem run_go {p : Program} {e : Env} {s : State} {m : MethodId} {args : Array Value} {below : List Frame} {meth : Method} {c : Code} {H : Heap} {locs : List Loc} {Q : State → Prop} {lsr : Array Slot} {st0 rest : List Value} {a : Array Value} {H0 : Heap} {mc ms : Nat}
    (hr : va_Run p l e R s m args below meth c H locs k n mc ms (F0 m pc lsr st0) rest (QN E post a) (eF E)) (hS : va_S (eF E) H0 H locs)
    (kk : ∀ (v : Option Value) (M' : Mm) (H1 : Heap) (locs1 : List Loc), post v M' → va_P (eG E) vwCl (wd E M') H1 → va_S (eF E) H0 H1 locs1 → W p l e R s m args below meth c H1 locs1 (k + mc) (n + ms) Q (F0 m (pc + 3) lsr (v.toList ++ rest))) : W p l e R s m args below meth c H locs k n Q (F0 m pc lsr st0) := by
  intro T hT X
  obtain ⟨v, st₀, t, T', L, h0, X', hL, e1, e2, ⟨⟨v', M', hv, hp, hP⟩, hF⟩, st⟩ := hr T hT X
  cases hv
  obtain ⟨k1, k2, k3⟩ := vx_keep (H0 := H0) h0 e1 hS (fun _ _ h => h) (fun _ h => h) hL hF
  obtain ⟨t2, a1, b1⟩ := kk v M' T'.heap (locs ++ L) hp (by rw [e1]; exact hP) k3 T' rfl X'
  exact ⟨t2, st t2 a1, b1⟩
/-- what a virtual method's words say; what a static one's do -/
def MfV (y : MethodName) (cc : ByteArray) (nL : Nat) (ret : Option FieldType) (a : Nat) : Prop :=
  (y.cls ≠ "java/lang/invoke/MethodHandle" ∧ y.cls ≠ "java/lang/invoke/VarHandle" ∧ (parseMethodDescriptor y.desc).map (fun d => d.parameters.length) = some a) ∧ Cond.instanceMethod y ∈ wsG ∧ Cond.selects y.cls y y ∈ wsG ∧ Cond.initialized y.cls ∈ wsG ∧ Cond.code y cc nL ret ∈ wsG
def MfS (y : MethodName) (cc : ByteArray) (nL : Nat) (ret : Option FieldType) (a : Nat) : Prop :=
  (y.cls ≠ "java/lang/invoke/MethodHandle" ∧ y.cls ≠ "java/lang/invoke/VarHandle" ∧ (parseMethodDescriptor y.desc).map (fun d => d.parameters.length) = some a) ∧ Cond.static y ∈ wsG ∧ Cond.initialized y.cls ∈ wsG ∧ Cond.code y cc nL ret ∈ wsG
theorem pre_go {p : Program} {s : State} {m : MethodId} {args : Array Value} {meth : Method} {c : Code} {H : Heap} {locs : List Loc} (C : Cx l E own cc nL rt tb p s m args meth c) (hP : va_P (eG E) vwCl (wd E M) H) (hS : va_S (eF E) s.heap H locs) (U : State) (hU : U.heap = H) (hW : s.WarmedH U.vm) : Wd E M U := by
  obtain ⟨hx, hb, hr, hml, hown, hts, hlk, hK, hB, hE, hX, htb⟩ := id C
  exact ⟨by rw [hU]; exact hP, va_K.moved hW.alike hK, by rw [hU]; exact Nat.le_trans hB hS.1, hE, hX.go hS hU hW⟩
theorem wd_blind {As : List Value} : FrameBlind (va_Pc As (Wd E M)) := by
  intro a U g mk h
  refine ⟨h.1, h.2.1, va_K.moved (u := U) (U := U.calling g mk a) (Vm.Alike.refl U.vm) h.2.2.1, h.2.2.2.1, h.2.2.2.2.1, h.2.2.2.2.2.heap rfl rfl⟩
section Calls
variable {y : MethodName} {cy : ByteArray} {nY a ix lv' : Nat} {ret : Option FieldType} {As rest : List Value} {px' : String → Mm → Prop} {post' : Option Value → Mm → Prop}
theorem rm_fit {lv lv' mc ms mc' ms' : Nat} {nY : Nat} (h : lv' + 1 ≤ lv) (hy : nY ≤ 30) : (rmm lv' mc' ms').frames + 1 ≤ (rmm lv mc ms).frames ∧ 8 + (nY + 11) + (rmm lv' mc' ms').locals ≤ (rmm lv mc ms).locals := by
  refine ⟨h, ?_⟩
  show 8 + (nY + 11) + 50 * lv' ≤ 50 * lv
  omega
theorem cwV_of {s : State} {args : Array Value} (hts : ∀ w ∈ wsG, w.before args s = true) (mf : MfV y cy nY ret a) (hw : Cond.methodLink own ix y ∈ wsG) (hlv : lv' + 1 ≤ R.frames ∧ 8 + (nY + 11) + 50 * lv' ≤ R.locals) : CallW R s args own y.cls ix y cy nY ret (wsM y cy nY ret) (rmm lv' mc ms) mc ms a := by
  obtain ⟨h0, h1, h2, h3, h4⟩ := mf
  refine cwV (C := y.cls) a hts ?_ rfl rfl rfl ⟨rfl, h0⟩ hlv
  intro w hw9
  simp only [wsV, wsM, List.cons_append, List.nil_append, List.mem_cons] at hw9
  rcases hw9 with rfl | rfl | rfl | rfl | rfl | h
  · exact wsG_good _ hw
  · exact wsG_good _ h1
  · exact wsG_good _ h2
  · exact wsG_good _ h3
  · exact wsG_good _ h4
  · exact wsG_good _ h
theorem cwS_of {s : State} {args : Array Value} (hts : ∀ w ∈ wsG, w.before args s = true) (mf : MfS y cy nY ret a) (hw : Cond.methodLink own ix y ∈ wsG) (hlv : lv' + 1 ≤ R.frames ∧ 8 + (nY + 11) + 50 * lv' ≤ R.locals) : CallB R s args own ix y cy nY ret (wsM y cy nY ret) (rmm lv' mc ms) mc ms a ∧ (Cond.static y).before args s = true := by
  obtain ⟨h0, h1, h3, h4⟩ := mf
  have hG : GoodIn wsG (wsM y cy nY ret) := by
    intro w hw9
    simp only [wsM, List.mem_cons] at hw9
    rcases hw9 with rfl | h
    · exact wsG_good _ h4
    · exact wsG_good _ h
  exact ⟨callB_of a hts hG rfl rfl rfl (hts _ h3) (hts _ hw) h0 hlv, hts _ h1⟩
/-- a virtual call on the thing (t, i) -/
theorem j_callV {t i ci : Nat} {T : u_T} {N : Nat} {fs : List Value} {lv mc0 ms0 : Nat} (mf : MfV y cy nY ret a) (hw : Cond.methodLink own ix y ∈ wsG) (hlv : lv' + 1 ≤ lv) (hy : nY ≤ 30) (hC : Ct l E y cy nY ret lv' mc ms (.ref (eA E t i) :: As) M post') (hi : i < nv t) (hc : cv E M t i = .inr (ci, fs)) (hcl : vwCl[ci]? = some (y.cls, T, N)) (ha : As.length = a) (hst : st = As.reverse ++ .ref (eA E t i) :: rest) (hr8 : (rest.map fun v => v.category).sum ≤ 8) (d : decode cc pc = .ok (.invokevirtual ix, 3)) (hf : k + mc ≤ mc0 ∧ n + ms ≤ ms0)
    (kk : ∀ v M', post' v M' → Jd l E own cc nL rt tb (rmm lv mc0 ms0) Qf (k + mc) (n + ms) (pc + 3) ls (v.toList ++ rest) M') : Jd l E own cc nL rt tb (rmm lv mc0 ms0) Qf k n pc ls st M := by
  intro p e s m args below meth c C H locs lsr hP hS hl
  obtain ⟨hx, hb, hr, hml, hown, hts, hlk, hK, hB, hE, hX, htb⟩ := id C
  subst hst
  obtain ⟨q, hq⟩ := wd_at hE M hi
  rw [hc] at hq
  exact run_go (va_runV (As := As) (rest := rest) ⟨hx, hb, hml, hown, hts⟩ hC (cwV_of hts mf hw (rm_fit (mc := mc0) (ms := ms0) (mc' := mc) (ms' := ms) hlv hy)) ⟨wd_blind, va_recv hK hP hcl hq, fun U hU hW => ⟨rfl, pre_go C hP hS U hU hW⟩⟩ rfl ha hl.1 rfl (lv_room hr8) d hf) hS
    (fun v M' H1 locs1 hp hP1 hS1 => kk v M' hp p e s m args below meth c C H1 locs1 lsr hP1 hS1 hl)
theorem j_callS {lv mc0 ms0 : Nat} (mf : MfS y cy nY ret a) (hw : Cond.methodLink own ix y ∈ wsG) (hlv : lv' + 1 ≤ lv) (hy : nY ≤ 30) (hC : Ct l E y cy nY ret lv' mc ms As M post') (ha : As.length = a) (hst : st = As.reverse ++ rest) (hr8 : (rest.map fun v => v.category).sum ≤ 8) (d : decode cc pc = .ok (.invokestatic ix, 3)) (hf : k + mc ≤ mc0 ∧ n + ms ≤ ms0)
    (kk : ∀ v M', post' v M' → Jd l E own cc nL rt tb (rmm lv mc0 ms0) Qf (k + mc) (n + ms) (pc + 3) ls (v.toList ++ rest) M') : Jd l E own cc nL rt tb (rmm lv mc0 ms0) Qf k n pc ls st M := by
  intro p e s m args below meth c C H locs lsr hP hS hl
  obtain ⟨hx, hb, hr, hml, hown, hts, hlk, hK, hB, hE, hX, htb⟩ := id C
  subst hst
  exact run_go (va_runS (As := As) (rest := rest) ⟨hx, hb, hml, hown, hts⟩ hC (cwS_of hts mf hw (rm_fit (mc := mc0) (ms := ms0) (mc' := mc) (ms' := ms) hlv hy)) ⟨wd_blind, fun U hU hW => ⟨rfl, pre_go C hP hS U hU hW⟩⟩ rfl ha hl.1 rfl (lv_room hr8) d hf) hS
    (fun v M' H1 locs1 hp hP1 hS1 => kk v M' hp p e s m args below meth c C H1 locs1 lsr hP1 hS1 hl)
/-- a static call of a nest mate's private method -/
theorem j_callN {host : String} {lv mc0 ms0 : Nat} (mf : MfS y cy nY ret a) (hw : ∀ U : State, Xt E U → va_Nw (.methodLinkNest own ix y host) U) (hlv : lv' + 1 ≤ lv) (hy : nY ≤ 30) (hC : Ct l E y cy nY ret lv' mc ms As M post') (ha : As.length = a) (hst : st = As.reverse ++ rest) (hr8 : (rest.map fun v => v.category).sum ≤ 8) (d : decode cc pc = .ok (.invokestatic ix, 3)) (hf : k + mc ≤ mc0 ∧ n + ms ≤ ms0)
    (kk : ∀ v M', post' v M' → Jd l E own cc nL rt tb (rmm lv mc0 ms0) Qf (k + mc) (n + ms) (pc + 3) ls (v.toList ++ rest) M') : Jd l E own cc nL rt tb (rmm lv mc0 ms0) Qf k n pc ls st M := by
  intro p e s m args below meth c C H locs lsr hP hS hl
  obtain ⟨hx, hb, hr, hml, hown, hts, hlk, hK, hB, hE, hX, htb⟩ := id C
  subst hst
  have hG : GoodIn wsG (wsM y cy nY ret) := by
    intro w hw9
    simp only [wsM, List.mem_cons] at hw9
    rcases hw9 with rfl | h
    · exact wsG_good _ mf.2.2.2
    · exact wsG_good _ h
  exact run_go (va_runSN (As := As) (rest := rest) ⟨hx, hb, hml, hown, hts⟩ hC ⟨va_cnB a hts hG rfl rfl rfl (hw s hX) (hts _ mf.2.2.1) mf.1 (rm_fit (mc := mc0) (ms := ms0) (mc' := mc) (ms' := ms) hlv hy), hts _ mf.2.1, trivial⟩ ⟨wd_blind, fun U hU hW => ⟨rfl, pre_go C hP hS U hU hW⟩⟩ rfl ha hl.1 rfl (lv_room hr8) d hf) hS
    (fun v M' H1 locs1 hp hP1 hS1 => kk v M' hp p e s m args below meth c C H1 locs1 lsr hP1 hS1 hl)
end Calls
theorem j_vret (d : decode cc pc = .ok (.return_, 1)) (hr : rt = none) (hk : k ≤ mc) (hn9 : n ≤ ms) (hp : post none M) : Jd l E own cc nL rt tb R (QfN E post mc ms) k n pc ls [] M := by
  intro p e s m args below meth c C H locs lsr hP hS hl
  have hr2 := C.2.2.1.trans hr
  have hlocks := C.2.2.2.2.2.2.1
  refine W.widen hk hn9 ?_
  exact W.vret C.1 C.2.1 hr2 (qn_of hp hP hS) hS.2.2 d
theorem j_aret {a : Nat} {ty : FieldType} (d : decode cc pc = .ok (.areturn, 1)) (hr : rt = some ty) (hrt : (∃ n, ty = .object n) ∨ ∃ t, ty = .array t) (hk : k ≤ mc) (hn9 : n ≤ ms) (hp : post (some (.ref a)) M) : Jd l E own cc nL rt tb R (QfN E post mc ms) k n pc ls [.ref a] M := by
  intro p e s m args below meth c C H locs lsr hP hS hl
  have hr2 := C.2.2.1.trans hr
  have hlocks := C.2.2.2.2.2.2.1
  refine W.widen hk hn9 ?_
  exact W.aret C.1 C.2.1 hr2 hrt (Or.inr ⟨a, rfl⟩) (qn_of hp hP hS) hS.2.2 d
end JE
/-! throws -/
def ThrOK (ik ic : Nat) (cls : String) : Prop := Bundle.fit cls = true ∧ Cond.classLink RX9 ik cls ∈ wsG ∧ Cond.initialized cls ∈ wsG ∧ (∀ w ∈ (vx_atS RX9 ic cls exN).filter goodWord, w ∈ wsG) ∧ (∀ w ∈ (vx_atS RX9 ic cls exN).filter (fun w => !goodWord w), w ∈ badS) ∧ (∀ w ∈ Cond.classLink RX9 ik cls :: Cond.initialized cls :: vx_atS RX9 ic cls exN, vx_ot w = true)
theorem exN_fit : ∀ n ∈ exN, Bundle.fit n = true := by decide +kernel
section JT
variable {l : Launch} {E : Ev} {cc : ByteArray} {nL : Nat} {rt : Option FieldType} {pc : Nat} {ls : List (Option Value)} {st : List Value} {M : Mm} {post : Option Value → Mm → Prop} {px : String → Mm → Prop}
theorem j_throwS {cls text : String} {ik is ic lv : Nat} (hl9 : l.stackTraces = false) (hT : ThrOK ik ic cls) (hs : (is, text) ∈ strs) (d0 : decode cc pc = .ok (.new ik, 3)) (d3 : decode cc (pc + 3) = .ok (.dup, 1)) (d4 : decode cc (pc + 4) = .ok (.ldc is, 2)) (d6 : decode cc (pc + 6) = .ok (.invokespecial ic, 3)) (d9 : decode cc (pc + 9) = .ok (.athrow, 1)) (hlv : 6 ≤ lv) (hr8 : (st.map fun v => v.category).sum ≤ 8) (hp : px cls M) : Jd l E RX9 cc nL rt [] (rmm lv 1 6) (QfX E post px) 0 0 pc ls st M := by
  intro p e s m args below meth c C H locs lsr hP hS hl
  obtain ⟨hx, hb, hr, hml, hown, hts, hlk, hK, hB, hE, hX, htb⟩ := id C
  obtain ⟨hU, hN, hbad, hnc, hstr, hki, hkx, hfm, hcs⟩ := id hX
  obtain ⟨t1, t2, t3, t4, t5, t6⟩ := hT
  obtain ⟨sa, hsa⟩ := hstr _ hs
  refine vx_throwS (names := exN) (A := eF E) hx hb hl9 hown t1 exN_fit (hts _ t2) (hts _ t3) hsa (fun w hw => ?_) t6 hU hN hS (by rw [hml, hl.1]) d0 d3 d4 d6 d9 (by rw [htb]; intro x hx9; cases hx9) ?_ ?_ (Nat.le_refl _) (Nat.le_refl _) hlk (fun t ht hz hq => ⟨M, trivial, ⟨hp, ?_⟩, ?_⟩) hS.2.2 (Nat.le_refl _) (Nat.le_refl _)
  · by_cases g : goodWord w = true
    · exact hts _ (t4 w (List.mem_filter.mpr ⟨hw, g⟩))
    · have h9 : w ∈ badS := t5 w (List.mem_filter.mpr ⟨hw, by cases h : goodWord w; rfl; exact absurd h g⟩)
      exact va_Nw.use (wrm_on (List.all_eq_true.mp badS_wrm w h9)) (hbad w h9)
  · show 2 + 3 < lv
    omega
  · show (st.map fun v => v.category).sum + (13 * (2 + 1) + 43) ≤ 50 * lv
    omega
  · exact hP.kept (fun k9 q9 hk9 => hq q9.1 (hP k9 q9 hk9).lt)
  · exact ⟨Nat.le_trans hS.1 hz, fun q h1 h2 => (hq q (Nat.lt_of_lt_of_le h1 hS.1)).trans (hS.2.1 q h1 h2)⟩
theorem j_throwSW {cls text : String} {ik is ic lv : Nat} (hl9 : l.stackTraces = false) (hT : ThrOK ik ic cls) (hs : (is, text) ∈ strs) (d0 : decode cc pc = .ok (.new ik, 3)) (d3 : decode cc (pc + 3) = .ok (.dup, 1)) (d4 : decode cc (pc + 4) = .ok (.ldc_w is, 3)) (d6 : decode cc (pc + 7) = .ok (.invokespecial ic, 3)) (d9 : decode cc (pc + 10) = .ok (.athrow, 1)) (hlv : 6 ≤ lv) (hr8 : (st.map fun v => v.category).sum ≤ 8) (hp : px cls M) : Jd l E RX9 cc nL rt [] (rmm lv 1 6) (QfX E post px) 0 0 pc ls st M := by
  intro p e s m args below meth c C H locs lsr hP hS hl
  obtain ⟨hx, hb, hr, hml, hown, hts, hlk, hK, hB, hE, hX, htb⟩ := id C
  obtain ⟨hU, hN, hbad, hnc, hstr, hki, hkx, hfm, hcs⟩ := id hX
  obtain ⟨t1, t2, t3, t4, t5, t6⟩ := hT
  obtain ⟨sa, hsa⟩ := hstr _ hs
  refine vx_throwSW (names := exN) (A := eF E) hx hb hl9 hown t1 exN_fit (hts _ t2) (hts _ t3) hsa (fun w hw => ?_) t6 hU hN hS (by rw [hml, hl.1]) d0 d3 d4 d6 d9 (by rw [htb]; intro x hx9; cases hx9) ?_ ?_ (Nat.le_refl _) (Nat.le_refl _) hlk (fun t ht hz hq => ⟨M, trivial, ⟨hp, ?_⟩, ?_⟩) hS.2.2 (Nat.le_refl _) (Nat.le_refl _)
  · by_cases g : goodWord w = true
    · exact hts _ (t4 w (List.mem_filter.mpr ⟨hw, g⟩))
    · have h9 : w ∈ badS := t5 w (List.mem_filter.mpr ⟨hw, by cases h : goodWord w; rfl; exact absurd h g⟩)
      exact va_Nw.use (wrm_on (List.all_eq_true.mp badS_wrm w h9)) (hbad w h9)
  · show 2 + 3 < lv
    omega
  · show (st.map fun v => v.category).sum + (13 * (2 + 1) + 43) ≤ 50 * lv
    omega
  · exact hP.kept (fun k9 q9 hk9 => hq q9.1 (hP k9 q9 hk9).lt)
  · exact ⟨Nat.le_trans hS.1 hz, fun q h1 h2 => (hq q (Nat.lt_of_lt_of_le h1 hS.1)).trans (hS.2.1 q h1 h2)⟩
end JT
/-- q of class N is thrown over the frame at pc -/
def Jx (l : Launch) (E : Ev) (own : String) (cc : ByteArray) (nL : Nat) (rt : Option FieldType) (tb : List ExceptionTableEntry) (R : Room) (Qf : List Frame → Array Value → State → State → Prop) (k n : Nat) (pc : Nat) (ls : List (Option Value)) (st : List Value) (M : Mm) (N : String) : Prop :=
  ∀ (p : Program) (e : Env) (s : State) (m : MethodId) (args : Array Value) (below : List Frame) (meth : Method) (c : Code), Cx l E own cc nL rt tb p s m args meth c →
    ∀ (H : Heap) (locs : List Loc) (lsr : Array Slot) (q : Nat) (ce : Cell), va_P (eG E) vwCl (wd E M) H → va_S (eF E) s.heap H locs → lv_has lsr nL (lp 0 ls) → H[q]? = some ce → ce.vm = .none → s.vm.findClass N = some ce.cls →
      vx_W p l e R s m args below meth c H locs k n (Qf below args s) (F0 m pc lsr st) q
section JX
variable {l : Launch} {E : Ev} {own : String} {cc : ByteArray} {nL : Nat} {rt : Option FieldType} {tb : List ExceptionTableEntry} {R : Room} {Qf : List Frame → Array Value → State → State → Prop} {k n : Nat} {pc : Nat} {ls : List (Option Value)} {st : List Value} {M : Mm} {post : Option Value → Mm → Prop} {px : String → Mm → Prop} {mc ms : Nat}
theorem j_catch {N : String} (pre : List ExceptionTableEntry) (x : ExceptionTableEntry) (suf : List ExceptionTableEntry) (hsplit : tb = pre ++ x :: suf) (hN : N ∈ exC) (hpass : ∀ z ∈ pre, z.catchType ≠ 0 ∧ ∃ nm ∈ exC, N ≠ nm ∧ Cond.classLink own z.catchType nm ∈ wsG) (hx : covers x pc = true) (h0 : x.catchType ≠ 0) (hlink : Cond.classLink own x.catchType N ∈ wsG) (hcast : Cond.castable N N ∈ badS)
    (kk : ∀ q : Nat, Jd l E own cc nL rt tb R Qf k n x.handlerPc ls [.ref q] M) : Jx l E own cc nL rt tb R Qf k n pc ls st M N := by
  intro p e s m args below meth c C H locs lsr q ce hP hS hl hce hv hcl
  obtain ⟨hx9, hb, hr, hml, hown, hts, hlk, hK, hB, hE, hX, htb⟩ := id C
  obtain ⟨hU, hNN, hbad, hnc, hstr, hki, hkx, hfm, hcs⟩ := id hX
  refine vx_catch hown pre x suf (by rw [htb]; exact hsplit) (fun z hz => ?_) hx h0 (hts _ hlink) (va_Nw.use rfl (hbad _ hcast)) hce hv hcl (kk q p e s m args below meth c C H locs lsr hP hS hl)
  obtain ⟨h1, nm, h2, h3, h4⟩ := hpass z hz
  exact Or.inr ⟨h1, nm, hts _ h4, hnc N hN nm h2 h3⟩
variable {y : MethodName} {cy : ByteArray} {nY a ix lv' : Nat} {ret : Option FieldType} {As rest : List Value}
/-- a call of a method that may throw -/
theorem j_callX {t i ci : Nat} {T : u_T} {N : Nat} {fs : List Value} {lv mc0 ms0 : Nat} (mf : MfV y cy nY ret a) (hw : Cond.methodLink own ix y ∈ wsG) (hlv : lv' + 1 ≤ lv) (hy : nY ≤ 30) (hC : CtX l E y cy nY ret lv' (.ref (eA E t i) :: As) M post px) (hi : i < nv t) (hc : cv E M t i = .inr (ci, fs)) (hcl : vwCl[ci]? = some (y.cls, T, N)) (ha : As.length = a) (hst : st = As.reverse ++ .ref (eA E t i) :: rest) (hr8 : (rest.map fun v => v.category).sum ≤ 8) (d : decode cc pc = .ok (.invokevirtual ix, 3)) (hf : k + 1 ≤ mc0 ∧ n + 6 ≤ ms0)
    (kx : ∀ N M', px N M' → Jx l E own cc nL rt tb (rmm lv mc0 ms0) Qf (k + 1) (n + 6) pc ls rest M' N)
    (kk : ∀ v M', post v M' → Jd l E own cc nL rt tb (rmm lv mc0 ms0) Qf (k + 1) (n + 6) (pc + 3) ls (v.toList ++ rest) M') : Jd l E own cc nL rt tb (rmm lv mc0 ms0) Qf k n pc ls st M := by
  intro p e s m args below meth c C H locs lsr hP hS hl
  obtain ⟨hx, hb, hr, hml, hown, hts, hlk, hK, hB, hE, hX, htb⟩ := id C
  subst hst
  obtain ⟨q, hq⟩ := wd_at hE M hi
  rw [hc] at hq
  have hrun := vx_runV (As := As) (rest := rest) (e := e) (below := below) (meth := meth) (locs := locs) (cells := k) (slots := n) (H := H) (g := F0 m pc lsr (As.reverse ++ .ref (eA E t i) :: rest)) ⟨hx, hb, hml, hown, hts⟩ hC (cwV_of hts mf hw (rm_fit (mc := mc0) (ms := ms0) (mc' := 1) (ms' := 6) hlv hy)) ⟨wd_blind, va_recv hK hP hcl hq, fun U hU hW => ⟨rfl, pre_go C hP hS U hU hW⟩⟩ rfl ha hl.1 rfl (lv_room hr8) d hf
  intro T hT X
  rcases hrun T hT X with ⟨v, st₀, t9, T', L, h0, X', hL, e1, e2, ⟨⟨v', M', hv, hp, hP'⟩, hF⟩, st9⟩ | ⟨q9, st₀, t9, T', L, E9, ce, h0, X', hL, e1, e2, ⟨M', -, ⟨hp, hP'⟩, hF⟩, hce, hcv, hcl9, st9⟩
  · cases hv
    obtain ⟨k1, k2, k3⟩ := vx_keep (H0 := s.heap) h0 e1 hS (fun _ _ h => h) (fun _ h => h) hL hF
    obtain ⟨t2, a1, b1⟩ := kk v M' hp p e s m args below meth c C T'.heap (locs ++ L) lsr (by rw [e1]; exact hP') k3 hl T' rfl X'
    exact ⟨t2, st9 t2 a1, b1⟩
  · obtain ⟨k1, k2, k3⟩ := vx_keep (H0 := s.heap) h0 e1 hS (fun _ _ h => h) (fun _ h => h) hL hF
    obtain ⟨t2, a1, b1⟩ := kx E9 M' hp p e s m args below meth c C T'.heap (locs ++ L) lsr q9 ce (by rw [e1]; exact hP') k3 hl (by rw [e1]; exact hce) hcv hcl9 T' rfl X'
    exact ⟨t2, st9.trans a1, b1⟩
end JX
/-! methods with a table: the law's wrappers -/
abbrev wsW (y : MethodName) (cc : ByteArray) (nL : Nat) (ret : Option FieldType) (hh : List (Nat × Nat × Nat × Nat)) : List Cond := Cond.codeWith y cc nL ret hh :: wsG
def CtW (l : Launch) (E : Ev) (y : MethodName) (cc : ByteArray) (nL : Nat) (ret : Option FieldType) (hh : List (Nat × Nat × Nat × Nat)) (lv mc ms : Nat) (As : List Value) (M : Mm) (post : Option Value → Mm → Prop) : Prop :=
  Met l y (wsW y cc nL ret hh) (rmm lv mc ms) (va_Pc As (Wd E M)) (QN E post) mc ms (eF E)
theorem CtW.of {l : Launch} {E : Ev} {y : MethodName} {cc : ByteArray} {nL : Nat} {ret : Option FieldType} {hh : List (Nat × Nat × Nat × Nat)} {lv mc ms : Nat} {As : List Value} {M : Mm} {post : Option Value → Mm → Prop} {own : String} (ho : y.cls = own) (ls : List (Option Value)) (hy : plainName own = true) (h1 : (lg_sl As).length ≤ nL) (h2 : lp 0 ls = lv_args 0 As)
    (body : Jd l E own cc nL ret (tableOf hh) (rmm lv mc ms) (QfN E post mc ms) 0 0 0 ls [] M) : CtW l E y cc nL ret hh lv mc ms As M post := by
  subst ho
  refine va_MetW (cc := cc) (maxL := nL) (ret := ret) (hh := hh) hy rfl ?_
  intro p e s m args below meth c s₁ B hml hv
  obtain ⟨rfl, hW⟩ := hv
  obtain ⟨lsr, e1, hl⟩ := ent_has (m := m) h1 h2
  rw [e1]
  have hts := atoms_spec (ws := wsW y cc nL ret hh) B.pre
  have C : Cx l E y.cls cc nL ret (tableOf hh) p s m As.toArray meth c := ⟨B.exec, B.bytes, B.returns, hml, findClass_of_methodNamed B.named, fun w h => hts w (List.mem_cons_of_mem _ h), B.notSynchronized, hW.2.1, hW.2.2.1, hW.2.2.2.1, hW.2.2.2.2, vx_table (x := y) B (hts _ List.mem_cons_self)⟩
  exact body p e s m _ below meth c C s.heap [] lsr hW.1 va_S.rf hl
