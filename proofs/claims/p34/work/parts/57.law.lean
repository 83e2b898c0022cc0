/-! THE CLAIM OUT OF ONE WALK OF THE LAW'S BODY. Your part is whole_start (and what it stands on); all else here is the same for every law, but numbers. -/
def R_law : String := "SolidhearthLaw"
def lw_P (b : Addr) (xs : List Int32) (args : Array Value) (s : State) : Prop := args = #[.ref b] ∧ s.IntsAt b xs ∧ xs.length ≤ 260 ∧ (Jvm.Cond.and given_1 narrow_1).before args s = true
/-- what a walk over the start with the record d0 says of its end, said of the start itself -/
theorem lw_closed {s t : State} {o : Outcome} {d0 : Drawn} {L : List Loc} {k n : Nat} (hd0 : s.drawn.sameBut d0 lw_cs) (hv : ∃ v, o = .returned v) (hW : (s.setDrawn d0).WarmedH t.vm) (hs : (s.setDrawn d0).sameButNew ({ t with vm := s.vm } : State) L k n) : State.butDraws s t lw_cs (fun t1 => Framed s o t1 L k n) := by
  have h2 : t.drawn = d0 := congrArg State.drawn hs.1
  refine ⟨⟨hv, hW, State.sameButNew.setDrawn hs s.drawn⟩, ?_, by decide⟩
  rw [h2]
  exact hd0
def lw_Q (_ : Array Value) (s : State) (o : Outcome) (t : State) : Prop := o = .returned (some (.int 1)) ∧ State.butDraws s t lw_cs (fun t1 => Framed s o t1 [] 619727 7234331)
def lw_Z (below : List Frame) (a : Array Value) (s : State) : State → Prop := fun t => ∃ o, t.status = .running ∧ Ended t below o ∧ lw_Q a s o t
/-- the law's own end, with 1 on the stack, nothing written that was there before, its room as the claim has it; d0: the record of draws at this point (at the entry s.drawn: begin with 'refine W.base ?_' and 'have hd0 := Drawn.sameBut.refl s.drawn lw_cs') -/
theorem lw_ret {p : Program} {l : Launch} {e : Env} {s : State} {m : MethodId} {below : List Frame} {meth : Method} {c : Code} {b : Nat} {d0 : Drawn} (hd0 : s.drawn.sameBut d0 lw_cs) (hx : p.tables.exec = Jvm.exec) (hb : c.code = code) (hr : meth.sig.returnType = ret) (hlocks : meth.locks = false) {pc : Nat} {H : Heap} {ls : Array Slot} (hdg : decode code pc = .ok (.ireturn, 1)) : W p l e room_1 (s.setDrawn d0) m #[Value.ref b] below meth c H [] 619727 7234331 (lw_Z below #[Value.ref b] s) (F0 m pc ls [.int 1]) := by
  intro T hT X
  obtain ⟨fs, hret, hrun, hended, hW, hframe⟩ := X.leave (v := some (.int 1)) (hlocks := hlocks) (fun h => by rw [hr] at h; cases h)
  have hmeth' : T.vm.method? m = some meth := X.method'
  refine ⟨T.setFrames fs, ?_, .returned (some (.int 1)), hrun, hended, rfl, lw_closed hd0 ⟨_, rfl⟩ hW hframe⟩
  jvm_step X.here [X.here.top, hx, hb, hdg, hmeth', hr, ret, narrow_b1]
  (try refine ⟨rfl, ?_⟩); (try refine ⟨rfl, ?_⟩)
  first | (intro acts; rw [hret _ acts rfl rfl rfl]) | rw [hret _ _ rfl rfl rfl]
  exact Steps.refl _
/-- what holds at the law's entry: the machine, the code, the tables' words (any of lw_tbl by 'hts w (by decide +kernel)'), the script of L ints xs at the cell b, what the Statement gives of the start (any of its parts by flat_of_before) -/
def lw_At (p : Program) (s : State) (m : MethodId) (meth : Method) (c : Code) (b L : Nat) (xs : Nat → Int32) : Prop :=
  p.tables.exec = Jvm.exec ∧ c.code = code ∧ meth.sig.returnType = ret ∧ c.maxLocals = 20 ∧ s.vm.findClass R_law = some m.cls ∧ (∀ w ∈ lw_tbl, w.before #[Value.ref b] s = true) ∧ va_X b L xs s s.heap ∧ b < s.heap.size ∧ meth.locks = false ∧ (Jvm.Cond.and given_1 narrow_1).before #[Value.ref b] s = true
theorem mf_L_low : MfS yL_low cL_low 2 (some .int) 2 := ⟨⟨by decide +kernel, by decide +kernel, by decide +kernel⟩, (wg2 (i := 21) rfl rfl), (wg1 (i := 0) rfl rfl), (wg2 (i := 22) rfl rfl)⟩
theorem mf_L_cell : MfS yL_cell cL_cell 2 (some .int) 2 := ⟨⟨by decide +kernel, by decide +kernel, by decide +kernel⟩, (wg2 (i := 17) rfl rfl), (wg1 (i := 0) rfl rfl), (wg2 (i := 18) rfl rfl)⟩
/-! the law's low -/
def lowN (v : Int32) : Nat := v.toBitVec.toNat % 2 ^ 31
theorem lowN_lt (v : Int32) : lowN v < 2 ^ 31 := Nat.mod_lt _ (by decide)
theorem and_low (v : Int32) : v &&& 2147483647 = nI (lowN v) := by
  apply Int32.toBitVec_inj.mp
  apply BitVec.eq_of_toNat_eq
  have h1 : (v &&& 2147483647).toBitVec = v.toBitVec &&& 2147483647#32 := rfl
  have h2 : (nI (lowN v)).toBitVec = BitVec.ofNat 32 (lowN v) := rfl
  rw [h1, h2, BitVec.toNat_and]
  show v.toBitVec.toNat &&& (2 ^ 31 - 1) = _
  have h3 : lowN v < 2 ^ 32 := Nat.lt_trans (lowN_lt v) (by decide)
  rw [Nat.and_two_pow_sub_one_eq_mod, BitVec.toNat_ofNat, Nat.mod_eq_of_lt h3]; rfl
set_option maxRecDepth 100000 in
theorem c_L_low {l : Launch} {E : Ev} {M : Mm} {v : Int32} {n : Nat} (h0 : 0 < n) (hn : n < 2 ^ 31) : Ct l E yL_low cL_low 2 (some .int) 1 0 0 [.int v, .int (nI n)] M (dv (.int (nI (lowN v % n))) M) := by
  refine Ct.of (own := RL) rfl [some (.int v), some (.int (nI n))] (by decide) (Nat.le_of_ble_eq_true rfl) rfl ?_
  refine j_iln dL_low_0 rfl rfl ?_
  refine j_ldc dL_low_1 cn_L_8 ?_
  refine j_iand dL_low_3 ?_
  refine j_topi (and_low v) ?_
  refine j_iln dL_low_4 rfl rfl ?_
  refine j_iremN dL_low_5 (lowN_lt v) h0 hn ?_
  exact j_iret dL_low_6 rfl rfl (Nat.le_of_ble_eq_true rfl) (Nat.le_of_ble_eq_true rfl) ⟨rfl, rfl⟩
/-! the law's cell -/
def SX (b L : Nat) (xs : Nat → Int32) (E : Ev) (U : State) : Prop := va_X b L xs U U.heap ∧ b < U.heap.size ∧ ¬ eB E ≤ b
def QC (b L : Nat) (xs : Nat → Int32) (E : Ev) (Qf : List Frame → Array Value → State → State → Prop) : List Frame → Array Value → State → State → Prop := fun below args s t => SX b L xs E s → Qf below args s t
section QCr
variable {l : Launch} {E : Ev} {b L : Nat} {xs : Nat → Int32} {own : String} {cc : ByteArray} {nL : Nat} {rt : Option FieldType} {tb : List ExceptionTableEntry} {R : Room} {Qf : List Frame → Array Value → State → State → Prop} {k n : Nat} {pc : Nat} {ls : List (Option Value)} {st : List Value} {M : Mm}
theorem j_Cc (h : ∀ (p : Program) (e : Env) (s : State) (m : MethodId) (args : Array Value) (below : List Frame) (meth : Method) (c : Code), Cx l E own cc nL rt tb p s m args meth c → SX b L xs E s → ∀ (H : Heap) (locs : List Loc) (lsr : Array Slot), va_P (eG E) vwCl (wd E M) H → va_S (eF E) s.heap H locs → lv_has lsr nL (lp 0 ls) → W p l e R s m args below meth c H locs k n (QC b L xs E Qf below args s) (F0 m pc lsr st)) : Jd l E own cc nL rt tb R (QC b L xs E Qf) k n pc ls st M := by
  intro p e s m args below meth c C H locs lsr hP hS hl
  by_cases hq : SX b L xs E s
  · exact h p e s m args below meth c C hq H locs lsr hP hS hl
  · intro T hT X
    exact ⟨_, Steps.refl _, fun z => absurd z hq⟩
theorem j_Cw (kk : Jd l E own cc nL rt tb R Qf k n pc ls st M) : Jd l E own cc nL rt tb R (QC b L xs E Qf) k n pc ls st M := by
  intro p e s m args below meth c C H locs lsr hP hS hl T hT X
  obtain ⟨t, a1, b1⟩ := kk p e s m args below meth c C H locs lsr hP hS hl T hT X
  exact ⟨t, a1, fun _ => b1⟩
theorem j_Clen (d : decode cc pc = .ok (.arraylength, 1)) (kk : Jd l E own cc nL rt tb R (QC b L xs E Qf) k n (pc + 1) ls (.int (nI L) :: st) M) : Jd l E own cc nL rt tb R (QC b L xs E Qf) k n pc ls (.ref b :: st) M := j_Cc fun p e s m args below meth c C hq H locs lsr hP hS hl =>
  va_slen C.1 C.2.1 hq.1 hq.2.1 hq.2.2 hS d (kk p e s m args below meth c C H locs lsr hP hS hl)
theorem j_Cld {j : Nat} (d : decode cc pc = .ok (.iaload, 1)) (hj : j < L) (hL : L < 2 ^ 31) (kk : Jd l E own cc nL rt tb R (QC b L xs E Qf) k n (pc + 1) ls (.int (xs j) :: st) M) : Jd l E own cc nL rt tb R (QC b L xs E Qf) k n pc ls (.int (nI j) :: .ref b :: st) M := j_Cc fun p e s m args below meth c C hq H locs lsr hP hS hl => by
  refine va_sld C.1 C.2.1 hq.1 hq.2.1 hq.2.2 hS (i := nI j) (vp_in_nI hj hL) d ?_
  rw [nI_clamp (by omega)]
  exact kk p e s m args below meth c C H locs lsr hP hS hl
end QCr
def CtC (l : Launch) (E : Ev) (b L : Nat) (xs : Nat → Int32) (y : MethodName) (cc : ByteArray) (nL : Nat) (ret : Option FieldType) (lv : Nat) (As : List Value) (M : Mm) (post : Option Value → Mm → Prop) : Prop :=
  Met l y (wsM y cc nL ret) (rmm lv 0 0) (va_Pc As (fun U => Wd E M U ∧ SX b L xs E U)) (QN E post) 0 0 (eF E)
set_option maxRecDepth 100000 in
theorem c_L_cell {l : Launch} {E : Ev} {b L : Nat} {xs : Nat → Int32} {M : Mm} {i : Nat} (hL : L < 2 ^ 31) (hi : i < 2 ^ 31) : CtC l E b L xs yL_cell cL_cell 2 (some .int) 1 [.ref b, .int (nI i)] M (fun v M1 => (∃ x : Int32, v = some (.int x)) ∧ M1 = M) := by
  refine Met.ofW (cc := cL_cell) (maxL := 2) (ret := some .int) (by decide) rfl ?_
  intro p e s m args below meth c s₁ B hml hv
  obtain ⟨rfl, hW, hq⟩ := hv
  obtain ⟨lsr, e1, hl⟩ := ent_has (m := m) (As := [.ref b, .int (nI i)]) (nL := 2) (ls := [some (.ref b), some (.int (nI i))]) (Nat.le_of_ble_eq_true rfl) rfl
  rw [e1]
  have body : Jd l E RL cL_cell 2 (some .int) [] (rmm 1 0 0) (QC b L xs E (QfN E (fun v M1 => (∃ x : Int32, v = some (.int x)) ∧ M1 = M) 0 0)) 0 0 0 [some (.ref b), some (.int (nI i))] [] M := by
    refine j_iln dL_cell_0 rfl rfl ?_
    refine j_aln dL_cell_1 rfl rfl ?_
    refine j_Clen dL_cell_2 ?_
    refine j_icgeN (tgt := 12) dL_cell_3 (by decide) hi hL (fun h3 => ?_) (fun h3 => ?_)
    · refine j_ldc dL_cell_12 cn_L_7 ?_
      refine j_iln dL_cell_14 rfl rfl ?_
      refine j_imul dL_cell_15 ?_
      refine j_biN 27 dL_cell_16 rfl ?_
      refine j_iadd dL_cell_18 ?_
      exact j_Cw (j_iret dL_cell_19 rfl rfl (Nat.le_of_ble_eq_true rfl) (Nat.le_of_ble_eq_true rfl) ⟨⟨_, rfl⟩, rfl⟩)
    · refine j_aln dL_cell_6 rfl rfl ?_
      refine j_iln dL_cell_7 rfl rfl ?_
      refine j_Cld dL_cell_8 (by omega) hL ?_
      refine j_goto (tgt := 19) dL_cell_9 (by decide) ?_
      exact j_Cw (j_iret dL_cell_19 rfl rfl (Nat.le_of_ble_eq_true rfl) (Nat.le_of_ble_eq_true rfl) ⟨⟨_, rfl⟩, rfl⟩)
  intro T hT X
  obtain ⟨t, a1, b1⟩ := body p e s m _ below meth c (Cx.of B hml hW) s.heap [] lsr hW.1 va_S.rf hl T hT X
  exact ⟨t, a1, b1 hq⟩
theorem sx_blind {E : Ev} {b L : Nat} {xs : Nat → Int32} {M : Mm} {As : List Value} : FrameBlind (va_Pc As (fun U => Wd E M U ∧ SX b L xs E U)) := by
  intro a U g mk h
  have h2 := wd_blind (E := E) (M := M) (As := As) a U g mk ⟨h.1, h.2.1⟩
  exact ⟨h2.1, h2.2, va_X.moved (u := U) (U := U.calling g mk a) (Vm.Alike.refl U.vm) h.2.2.1, h.2.2.2⟩
theorem sx_go {E : Ev} {b L : Nat} {xs : Nat → Int32} {s U : State} {H : Heap} {locs : List Loc} (hq : SX b L xs E s) (hS : va_S (eF E) s.heap H locs) (hU : U.heap = H) (hW : s.WarmedH U.vm) : SX b L xs E U := by
  refine ⟨?_, by rw [hU]; exact Nat.lt_of_lt_of_le hq.2.1 hS.1, hq.2.2⟩
  rw [hU]
  exact va_X.moved hW.alike (va_X.kept hq.1 (hS.2.1 b hq.2.1 hq.2.2))
/-! the law's body as a walk over the memory -/
def SCr (b L : Nat) (xs : Nat → Int32) (E : Ev) (args : Array Value) (s : State) : Prop := args = #[.ref b] ∧ va_X b L xs s s.heap ∧ b < s.heap.size ∧ eB E = s.heap.size
def LQ (b L : Nat) (xs : Nat → Int32) (E : Ev) : List Frame → Array Value → State → State → Prop := fun below args s t => SCr b L xs E args s → lw_Z below args s t
abbrev JL (l : Launch) (E : Ev) (b L : Nat) (xs : Nat → Int32) (k n pc : Nat) (ls : List (Option Value)) (st : List Value) (M : Mm) : Prop := Jd l E RL cL_law 20 (some .boolean) [] room_1 (LQ b L xs E) k n pc ls st M
section LB
variable {l : Launch} {E : Ev} {b L : Nat} {xs : Nat → Int32} {k n pc : Nat} {ls : List (Option Value)} {st : List Value} {M : Mm}
theorem no_SC {p : Program} {e : Env} {s : State} {m : MethodId} {args : Array Value} {below : List Frame} {meth : Method} {c : Code} {H : Heap} {locs : List Loc} {g : JFrame} (h : ¬ SCr b L xs E args s) : W p l e room_1 s m args below meth c H locs k n (LQ b L xs E below args s) g :=
  fun T _ _ => ⟨_, Steps.refl _, fun q => absurd q h⟩
theorem j_end (d : decode cL_law pc = .ok (.ireturn, 1)) (hk : k ≤ 619727) (hn : n ≤ 7234331) : JL l E b L xs k n pc ls [.int 1] M := by
  intro p e s m args below meth c C H locs lsr hP hS hl
  by_cases q : SCr b L xs E args s
  · obtain ⟨rfl, hX, hb, hE⟩ := id q
    have h : W p l e room_1 s m #[.ref b] below meth c H locs k n (lw_Z below #[.ref b] s) (F0 m pc lsr [.int 1]) :=
      va_forget (fun q hq => by have := hS.2.2 q hq; show s.heap.size ≤ q.base; rw [← hE]; exact this) (W.widen hk hn (W.base (lw_ret (Drawn.sameBut.refl s.drawn lw_cs) C.1 C.2.1 C.2.2.1 C.2.2.2.2.2.2.1 d)))
    exact fun T hT X => (h T hT X).elim fun t ht => ⟨t, ht.1, fun _ => ht.2⟩
  · exact no_SC q
/-- the script's cells -/
theorem j_cell {i : Nat} {rest : List Value} (hL : L < 2 ^ 31) (hi : i < 2 ^ 31) (hr8 : (rest.map fun v => v.category).sum ≤ 8) (d : decode cL_law pc = .ok (.invokestatic 136, 3)) (hk : k ≤ 619727) (hn : n ≤ 7234331)
    (kk : ∀ x : Int32, JL l E b L xs k n (pc + 3) ls (.int x :: rest) M) : JL l E b L xs k n pc ls (.int (nI i) :: .ref b :: rest) M := by
  intro p e s m args below meth c C H locs lsr hP hS hl
  by_cases q : SCr b L xs E args s
  · obtain ⟨-, hX9, hb9, hE9⟩ := id q
    obtain ⟨hx, hb, hr, hml, hown, hts, hlk, hK, hB, hE, hX, htb⟩ := id C
    have hq : SX b L xs E s := ⟨hX9, hb9, by omega⟩
    exact run_go (post := fun v M1 => (∃ x : Int32, v = some (.int x)) ∧ M1 = M) (mc := 0) (ms := 0) (va_runS (As := [.ref b, .int (nI i)]) (rest := rest) ⟨hx, hb, hml, hown, hts⟩ (c_L_cell (l := l) (E := E) (b := b) (L := L) (xs := xs) (M := M) hL hi) (cwS_of hts mf_L_cell ml_L_136 ⟨(Nat.le_of_ble_eq_true rfl), (Nat.le_of_ble_eq_true rfl)⟩) ⟨sx_blind, fun U hU hW => ⟨rfl, pre_go C hP hS U hU hW, sx_go hq hS hU hW⟩⟩ rfl rfl hl.1 rfl (lv_room hr8) d ⟨hk, hn⟩) hS
      (fun v M' H1 locs1 hp hP1 hS1 => by
        obtain ⟨⟨x, rfl⟩, rfl⟩ := hp
        exact kk x p e s m args below meth c C H1 locs1 lsr hP1 hS1 hl)
  · exact no_SC q
end LB
/-! calls, whatever the room -/
section RR
variable {l : Launch} {E : Ev} {own : String} {cc : ByteArray} {nL : Nat} {rt : Option FieldType} {tb : List ExceptionTableEntry} {R : Room} {Qf : List Frame → Array Value → State → State → Prop} {k n : Nat} {pc : Nat} {ls : List (Option Value)} {st : List Value} {M : Mm}
variable {y : MethodName} {cy : ByteArray} {nY a ix lv' mc ms : Nat} {ret' : Option FieldType} {As rest : List Value} {post' : Option Value → Mm → Prop}
theorem j_vR {t i ci : Nat} {T : u_T} {N : Nat} {fs : List Value} (mf : MfV y cy nY ret' a) (hw : Cond.methodLink own ix y ∈ wsG) (hlv : lv' + 1 ≤ R.frames ∧ 8 + (nY + 11) + 50 * lv' ≤ R.locals) (hC : Ct l E y cy nY ret' lv' mc ms (.ref (eA E t i) :: As) M post') (hi : i < nv t) (hc : cv E M t i = .inr (ci, fs)) (hcl : vwCl[ci]? = some (y.cls, T, N)) (ha : As.length = a) (hst : st = As.reverse ++ .ref (eA E t i) :: rest) (hr8 : (rest.map fun v => v.category).sum ≤ 8) (d : decode cc pc = .ok (.invokevirtual ix, 3)) (hf : k + mc ≤ R.cells ∧ n + ms ≤ R.slots)
    (kk : ∀ v M', post' v M' → Jd l E own cc nL rt tb R Qf (k + mc) (n + ms) (pc + 3) ls (v.toList ++ rest) M') : Jd l E own cc nL rt tb R Qf k n pc ls st M := by
  intro p e s m args below meth c C H locs lsr hP hS hl
  obtain ⟨hx, hb, hr, hml, hown, hts, hlk, hK, hB, hE, hX, htb⟩ := id C
  subst hst
  obtain ⟨q, hq⟩ := wd_at hE M hi
  rw [hc] at hq
  exact run_go (va_runV (As := As) (rest := rest) ⟨hx, hb, hml, hown, hts⟩ hC (cwV_of hts mf hw hlv) ⟨wd_blind, va_recv hK hP hcl hq, fun U hU hW => ⟨rfl, pre_go C hP hS U hU hW⟩⟩ rfl ha hl.1 rfl (lv_room hr8) d hf) hS
    (fun v M' H1 locs1 hp hP1 hS1 => kk v M' hp p e s m args below meth c C H1 locs1 lsr hP1 hS1 hl)
theorem j_sR (mf : MfS y cy nY ret' a) (hw : Cond.methodLink own ix y ∈ wsG) (hlv : lv' + 1 ≤ R.frames ∧ 8 + (nY + 11) + 50 * lv' ≤ R.locals) (hC : Ct l E y cy nY ret' lv' mc ms As M post') (ha : As.length = a) (hst : st = As.reverse ++ rest) (hr8 : (rest.map fun v => v.category).sum ≤ 8) (d : decode cc pc = .ok (.invokestatic ix, 3)) (hf : k + mc ≤ R.cells ∧ n + ms ≤ R.slots)
    (kk : ∀ v M', post' v M' → Jd l E own cc nL rt tb R Qf (k + mc) (n + ms) (pc + 3) ls (v.toList ++ rest) M') : Jd l E own cc nL rt tb R Qf k n pc ls st M := by
  intro p e s m args below meth c C H locs lsr hP hS hl
  obtain ⟨hx, hb, hr, hml, hown, hts, hlk, hK, hB, hE, hX, htb⟩ := id C
  subst hst
  exact run_go (va_runS (As := As) (rest := rest) ⟨hx, hb, hml, hown, hts⟩ hC (cwS_of hts mf hw hlv) ⟨wd_blind, fun U hU hW => ⟨rfl, pre_go C hP hS U hU hW⟩⟩ rfl ha hl.1 rfl (lv_room hr8) d hf) hS
    (fun v M' H1 locs1 hp hP1 hS1 => kk v M' hp p e s m args below meth c C H1 locs1 lsr hP1 hS1 hl)
/-- low, called -/
theorem j_low {v : Int32} {m : Nat} (h0 : 0 < m) (hm : m < 2 ^ 31) (hR : 2 ≤ R.frames ∧ 71 ≤ R.locals) (hr8 : (rest.map fun v => v.category).sum ≤ 8) (d : decode cc pc = .ok (.invokestatic 140, 3)) (hf : k ≤ R.cells ∧ n ≤ R.slots)
    (kk : Jd l E RL cc nL rt tb R Qf k n (pc + 3) ls (.int (nI (lowN v % m)) :: rest) M) : Jd l E RL cc nL rt tb R Qf k n pc ls (.int (nI m) :: .int v :: rest) M :=
  j_sR (As := [.int v, .int (nI m)]) (mc := 0) (ms := 0) mf_L_low ml_L_140 ⟨hR.1, hR.2⟩ (c_L_low (l := l) (E := E) (M := M) (v := v) h0 hm) rfl rfl hr8 d ⟨hf.1, hf.2⟩ fun v M' h => by
    obtain ⟨rfl, rfl⟩ := h
    exact kk
/-- the row of kinds, and a sign of it -/
theorem j_ldcX (d : decode cc pc = .ok (.ldc 146, 2)) (kk : ∀ sa va : Nat, Jd l E RL cc nL rt tb R (QX E sa va Qf) k n (pc + 2) ls (.ref sa :: st) M) : Jd l E RL cc nL rt tb R Qf k n pc ls st M := by
  intro p e s m args below meth c C H locs lsr hP hS hl
  obtain ⟨hx, hb, hr, hml, hown, hts, hlk, hK, hB, hE, hX, htb⟩ := id C
  obtain ⟨hU, hN, hbad, hnc, hstr, hki, ⟨sa, va, hk1, hk2⟩, hfm, hcs⟩ := id hX
  have hq : Kx E sa va s := hk2
  refine va_ldcS hx hb hown hk1 d ?_
  intro T hT X
  obtain ⟨t, a1, b1⟩ := kk sa va p e s m args below meth c C H locs lsr hP hS hl T hT X
  exact ⟨t, a1, b1 hq⟩
theorem j_charX {sa va i : Nat} (hi : i < 8) (hR : 5 ≤ R.frames ∧ 221 ≤ R.locals) (hr8 : (rest.map fun v => v.category).sum ≤ 8) (d : decode cc pc = .ok (.invokevirtual 148, 3)) (hf : k ≤ R.cells ∧ n ≤ R.slots) (kk : Jd l E RL cc nL rt tb R Qf k n (pc + 3) ls (.int (kxB.getD i 0) :: rest) M) : Jd l E RL cc nL rt tb R (QX E sa va Qf) k n pc ls (.int (nI i) :: .ref sa :: rest) M := by
  refine j_X fun p e s m args below meth c C hq H locs lsr hP hS hl => ?_
  obtain ⟨hx, hb, hr, hml, hown, hts, hlk, hK, hB, hE, hX, htb⟩ := id C
  have h := run_go (post := dv (.int (kxB.getD i 0)) M) (Q := Qf below args s) (mc := 0) (ms := 0) (va_runV (As := [.int (nI i)]) (rest := rest) ⟨hx, hb, hml, hown, hts⟩ (cy_ca (l := l) (E := E) (sa := sa) (va := va) (M := M) hi) (cwV_of hts mx_ca mx_law ⟨hR.1, hR.2⟩) ⟨kx_blind, by rw [show yJ0_charAt_5068e.cls = "java/lang/String" from rfl]; exact vk_recv hq (i := 0) (by decide) hS, fun U hU hW => ⟨rfl, pre_go C hP hS U hU hW, kx_go hq hS hU hW⟩⟩ rfl rfl hl.1 rfl (lv_room hr8) d hf) hS
    (fun v M' H1 locs1 hp hP1 hS1 => by
      obtain ⟨hv9, hM9⟩ := hp
      rw [hM9] at hP1
      rw [hv9]
      exact kk p e s m args below meth c C H1 locs1 lsr hP1 hS1 hl)
  intro T hT X
  obtain ⟨t, a1, b1⟩ := h T hT X
  exact ⟨t, a1, fun _ => b1⟩
end RR
