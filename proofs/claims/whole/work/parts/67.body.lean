/-! THE CLAIM OUT OF ONE WALK OF THE LAW'S BODY. Your part is whole_start (and what it stands on); all else here is the same for every law, but numbers. -/
def R_law : String := "SolidhearthLaw"
def lw_P (b : Addr) (xs : List Int32) (args : Array Value) (s : State) : Prop := args = #[.ref b] ∧ s.IntsAt b xs ∧ xs.length ≤ 2560 ∧ (Jvm.Cond.and given_1 narrow_1).before args s = true
/-- what a walk over the start with the record d0 says of its end, said of the start itself -/
theorem lw_closed {s t : State} {o : Outcome} {d0 : Drawn} {L : List Loc} {k n : Nat} (hd0 : s.drawn.sameBut d0 lw_cs) (hv : ∃ v, o = .returned v) (hW : (s.setDrawn d0).WarmedH t.vm) (hs : (s.setDrawn d0).sameButNew ({ t with vm := s.vm } : State) L k n) : State.butDraws s t lw_cs (fun t1 => Framed s o t1 L k n) := by
  have h2 : t.drawn = d0 := congrArg State.drawn hs.1
  refine ⟨⟨hv, hW, State.sameButNew.setDrawn hs s.drawn⟩, ?_, by decide⟩
  rw [h2]
  exact hd0
def lw_Q (_ : Array Value) (s : State) (o : Outcome) (t : State) : Prop := o = .returned (some (.int 1)) ∧ State.butDraws s t lw_cs (fun t1 => Framed s o t1 [] 603072 7207018)
def lw_Z (below : List Frame) (a : Array Value) (s : State) : State → Prop := fun t => ∃ o, t.status = .running ∧ Ended t below o ∧ lw_Q a s o t
/-- the law's own end, with 1 on the stack, nothing written that was there before, its room as the claim has it; d0: the record of draws at this point (at the entry s.drawn: begin with 'refine W.base ?_' and 'have hd0 := Drawn.sameBut.refl s.drawn lw_cs') -/
theorem lw_ret {p : Program} {l : Launch} {e : Env} {s : State} {m : MethodId} {below : List Frame} {meth : Method} {c : Code} {b : Nat} {d0 : Drawn} (hd0 : s.drawn.sameBut d0 lw_cs) (hx : p.tables.exec = Jvm.exec) (hb : c.code = code) (hr : meth.sig.returnType = ret) (hlocks : meth.locks = false) {pc : Nat} {H : Heap} {ls : Array Slot} (hdg : decode code pc = .ok (.ireturn, 1)) : W p l e room_1 (s.setDrawn d0) m #[Value.ref b] below meth c H [] 603072 7207018 (lw_Z below #[Value.ref b] s) (F0 m pc ls [.int 1]) := by
  intro T hT X
  obtain ⟨fs, hret, hrun, hended, hW, hframe⟩ := X.leave (v := some (.int 1)) (hlocks := hlocks) (fun h => by rw [hr] at h; cases h)
  have hmeth' : T.vm.method? m = some meth := X.method'
  refine ⟨T.setFrames fs, ?_, .returned (some (.int 1)), hrun, hended, rfl, lw_closed hd0 ⟨_, rfl⟩ hW hframe⟩
  jvm_step X.here [X.here.top, hx, hb, hdg, hmeth', hr, ret, narrow_b1]
  (try refine ⟨rfl, ?_⟩); (try refine ⟨rfl, ?_⟩)
  first | (intro acts; rw [hret _ acts rfl rfl rfl]) | rw [hret _ _ rfl rfl rfl]
  exact Steps.refl _
/-- what holds at the law's entry: the machine, the code, the tables' words (any of lw_tbl by 'hts w (by decide +kernel)'), the script of L ints xs at the cell b, what the Statement gives of the start (any of its parts by flat_of_before) -/
def lw_At (p : Program) (s : State) (m : MethodId) (meth : Method) (c : Code) (b L : Nat) (xs : Nat → Int32) : Prop :=
  p.tables.exec = Jvm.exec ∧ c.code = code ∧ meth.sig.returnType = ret ∧ c.maxLocals = 10 ∧ s.vm.findClass R_law = some m.cls ∧ (∀ w ∈ lw_tbl, w.before #[Value.ref b] s = true) ∧ va_X b L xs s s.heap ∧ b < s.heap.size ∧ meth.locks = false ∧ (Jvm.Cond.and given_1 narrow_1).before #[Value.ref b] s = true
/-! the law's body as a walk over the memory -/
def SCr (b L : Nat) (xs : Nat → Int32) (E : Ev) (args : Array Value) (s : State) : Prop := args = #[.ref b] ∧ va_X b L xs s s.heap ∧ b < s.heap.size ∧ eB E = s.heap.size
def LQ (b L : Nat) (xs : Nat → Int32) (E : Ev) : List Frame → Array Value → State → State → Prop := fun below args s t => SCr b L xs E args s → lw_Z below args s t
abbrev JL (l : Launch) (E : Ev) (b L : Nat) (xs : Nat → Int32) (k n pc : Nat) (ls : List (Option Value)) (st : List Value) (M : Mm) : Prop := Jd l E RL cL_law 10 (some .boolean) [] room_1 (LQ b L xs E) k n pc ls st M
section LB
variable {l : Launch} {E : Ev} {b L : Nat} {xs : Nat → Int32} {k n pc : Nat} {ls : List (Option Value)} {st : List Value} {M : Mm}
theorem no_SC {p : Program} {e : Env} {s : State} {m : MethodId} {args : Array Value} {below : List Frame} {meth : Method} {c : Code} {H : Heap} {locs : List Loc} {g : JFrame} (h : ¬ SCr b L xs E args s) : W p l e room_1 s m args below meth c H locs k n (LQ b L xs E below args s) g :=
  fun T _ _ => ⟨_, Steps.refl _, fun q => absurd q h⟩
theorem j_sld {j : Nat} (d : decode cL_law pc = .ok (.iaload, 1)) (hj : j < L) (hL : L < 2 ^ 31) (kk : JL l E b L xs k n (pc + 1) ls (.int (xs j) :: st) M) : JL l E b L xs k n pc ls (.int (nI j) :: .ref b :: st) M := by
  intro p e s m args below meth c C H locs lsr hP hS hl
  by_cases q : SCr b L xs E args s
  · obtain ⟨-, hX, hb, hE⟩ := id q
    refine va_sld C.1 C.2.1 hX hb (show ¬ eB E ≤ b by omega) hS (i := nI j) (vp_in_nI hj hL) d ?_
    rw [nI_clamp (by omega)]
    exact kk p e s m args below meth c C H locs lsr hP hS hl
  · exact no_SC q
theorem j_slen (d : decode cL_law pc = .ok (.arraylength, 1)) (kk : JL l E b L xs k n (pc + 1) ls (.int (nI L) :: st) M) : JL l E b L xs k n pc ls (.ref b :: st) M := by
  intro p e s m args below meth c C H locs lsr hP hS hl
  by_cases q : SCr b L xs E args s
  · obtain ⟨-, hX, hb, hE⟩ := id q
    exact va_slen C.1 C.2.1 hX hb (show ¬ eB E ≤ b by omega) hS d (kk p e s m args below meth c C H locs lsr hP hS hl)
  · exact no_SC q
theorem j_end (d : decode cL_law pc = .ok (.ireturn, 1)) (hk : k ≤ 603072) (hn : n ≤ 7207018) : JL l E b L xs k n pc ls [.int 1] M := by
  intro p e s m args below meth c C H locs lsr hP hS hl
  by_cases q : SCr b L xs E args s
  · obtain ⟨rfl, hX, hb, hE⟩ := id q
    have h : W p l e room_1 s m #[.ref b] below meth c H locs k n (lw_Z below #[.ref b] s) (F0 m pc lsr [.int 1]) :=
      va_forget (fun q hq => by have := hS.2.2 q hq; show s.heap.size ≤ q.base; rw [← hE]; exact this) (W.widen hk hn (W.base (lw_ret (Drawn.sameBut.refl s.drawn lw_cs) C.1 C.2.1 C.2.2.1 C.2.2.2.2.2.2.1 d)))
    exact fun T hT X => (h T hT X).elim fun t ht => ⟨t, ht.1, fun _ => ht.2⟩
  · exact no_SC q
theorem j_widen {k' n' : Nat} (hk : k ≤ k') (hn : n ≤ n') (kk : JL l E b L xs k' n' pc ls st M) : JL l E b L xs k n pc ls st M :=
  fun p e s m args below meth c C H locs lsr hP hS hl => W.widen hk hn (kk p e s m args below meth c C H locs lsr hP hS hl)
theorem j_tabIn {dflt lo hi : Int} {offs : Array Int} {len : Nat} {x : Int32} {off : Int} {tgt : Nat} (d : decode cL_law pc = .ok (.tableswitch dflt lo hi offs, len)) (h1 : ¬ x.toInt < lo) (h2 : ¬ hi < x.toInt) (ho : offs[(x.toInt - lo).toNat]? = some off) (ht : (pc : Int) + off = (tgt : Int)) (kk : JL l E b L xs k n tgt ls st M) : JL l E b L xs k n pc ls (.int x :: st) M :=
  fun p e s m args below meth c C H locs lsr hP hS hl => lv_tableIn C.1 C.2.1 d h1 h2 ho ht (kk p e s m args below meth c C H locs lsr hP hS hl)
theorem j_tabOut {dflt lo hi : Int} {offs : Array Int} {len : Nat} {x : Int32} {tgt : Nat} (d : decode cL_law pc = .ok (.tableswitch dflt lo hi offs, len)) (h : x.toInt < lo ∨ hi < x.toInt) (ht : (pc : Int) + dflt = (tgt : Int)) (kk : JL l E b L xs k n tgt ls st M) : JL l E b L xs k n pc ls (.int x :: st) M :=
  fun p e s m args below meth c C H locs lsr hP hS hl => lv_tableOut C.1 C.2.1 d h ht (kk p e s m args below meth c C H locs lsr hP hS hl)
variable {y : MethodName} {cy : ByteArray} {nY a ix lv' mc ms : Nat} {ret' : Option FieldType} {As rest : List Value} {post' : Option Value → Mm → Prop}
theorem j_lV {t i ci : Nat} {T : u_T} {N : Nat} {fs : List Value} (mf : MfV y cy nY ret' a) (hw : Cond.methodLink RL ix y ∈ wsG) (hlv : lv' + 1 ≤ 19 ∧ 8 + (nY + 11) + 50 * lv' ≤ 10840) (hC : Ct l E y cy nY ret' lv' mc ms (.ref (eA E t i) :: As) M post') (hi : i < nv t) (hc : cv E M t i = .inr (ci, fs)) (hcl : vwCl[ci]? = some (y.cls, T, N)) (ha : As.length = a) (hst : st = As.reverse ++ .ref (eA E t i) :: rest) (hr8 : (rest.map fun v => v.category).sum ≤ 8) (d : decode cL_law pc = .ok (.invokevirtual ix, 3)) (hf : k + mc ≤ 603072 ∧ n + ms ≤ 7207018)
    (kk : ∀ v M', post' v M' → JL l E b L xs (k + mc) (n + ms) (pc + 3) ls (v.toList ++ rest) M') : JL l E b L xs k n pc ls st M := by
  intro p e s m args below meth c C H locs lsr hP hS hl
  obtain ⟨hx, hb, hr, hml, hown, hts, hlk, hK, hB, hE, hX, htb⟩ := id C
  subst hst
  obtain ⟨q, hq⟩ := wd_at hE M hi
  rw [hc] at hq
  exact run_go (va_runV (As := As) (rest := rest) ⟨hx, hb, hml, hown, hts⟩ hC (cwV_of hts mf hw hlv) ⟨wd_blind, va_recv hK hP hcl hq, fun U hU hW => ⟨rfl, pre_go C hP hS U hU hW⟩⟩ rfl ha hl.1 rfl (lv_room hr8) d hf) hS
    (fun v M' H1 locs1 hp hP1 hS1 => kk v M' hp p e s m args below meth c C H1 locs1 lsr hP1 hS1 hl)
theorem j_lW {hh : List (Nat × Nat × Nat × Nat)} (mf : MfW y cy nY ret' hh a) (hw : Cond.methodLink RL ix y ∈ wsG) (hlv : lv' + 1 ≤ 19 ∧ 8 + (nY + 11) + 50 * lv' ≤ 10840) (hC : CtW l E y cy nY ret' hh lv' mc ms As M post') (ha : As.length = a) (hst : st = As.reverse ++ rest) (hr8 : (rest.map fun v => v.category).sum ≤ 8) (d : decode cL_law pc = .ok (.invokestatic ix, 3)) (hf : k + mc ≤ 603072 ∧ n + ms ≤ 7207018)
    (kk : ∀ v M', post' v M' → JL l E b L xs (k + mc) (n + ms) (pc + 3) ls (v.toList ++ rest) M') : JL l E b L xs k n pc ls st M := by
  intro p e s m args below meth c C H locs lsr hP hS hl
  obtain ⟨hx, hb, hr, hml, hown, hts, hlk, hK, hB, hE, hX, htb⟩ := id C
  subst hst
  obtain ⟨h0, h1, h3, h4⟩ := mf
  have hT : GoodIn wsG (va_wsS RL ix y (wsW y cy nY ret' hh)) := by
    intro w hw9
    simp only [va_wsS, wsW, List.cons_append, List.nil_append, List.mem_cons] at hw9
    rcases hw9 with rfl | rfl | rfl | rfl | h
    all_goals first | exact wsG_good _ hw | exact wsG_good _ h1 | exact wsG_good _ h3 | exact wsG_good _ h4 | exact wsG_good _ h
  exact run_go (vx_runSW (As := As) (rest := rest) ⟨hx, hb, hml, hown, hts⟩ hC (vx_cwSW a hts hT rfl rfl rfl h0 hlv) ⟨wd_blind, fun U hU hW => ⟨rfl, pre_go C hP hS U hU hW⟩⟩ rfl ha hl.1 rfl (lv_room hr8) d hf) hS
    (fun v M' H1 locs1 hp hP1 hS1 => kk v M' hp p e s m args below meth c C H1 locs1 lsr hP1 hS1 hl)
end LB
theorem cmp_self (x : Int64) : lg_cmp x x = 0 := by
  unfold lg_cmp
  simp
theorem lm5 {a L : Nat} (ha : a < 2 ^ 30) (hL : L < 2 ^ 30) : (nI L - nI 5 < nI a) ↔ L < a + 5 := by
  rw [Int32.lt_iff_toInt_lt, nI_toInt (by omega), Int32.toInt_sub, nI_toInt (by omega), nI_toInt (by omega)]
  have h : ((L : Int) - (5 : Nat)).bmod (2 ^ 32) = (L : Int) - 5 := by
    rw [Int.bmod_def]
    omega
  rw [h]
  omega
theorem and31 (x : Int32) : ∃ c, c < 32 ∧ x &&& nI 31 = nI c := by
  refine ⟨x.toBitVec.toNat % 32, Nat.mod_lt _ (by decide), ?_⟩
  apply Int32.toBitVec_inj.mp
  apply BitVec.eq_of_toNat_eq
  have h1 : (x &&& nI 31).toBitVec = x.toBitVec &&& 31#32 := rfl
  have h2 : (nI (x.toBitVec.toNat % 32)).toBitVec = BitVec.ofNat 32 (x.toBitVec.toNat % 32) := rfl
  rw [h1, h2, BitVec.toNat_and]
  show x.toBitVec.toNat &&& (2 ^ 5 - 1) = _
  have h3 : x.toBitVec.toNat % 32 < 2 ^ 32 := Nat.lt_trans (Nat.mod_lt _ (by decide)) (by decide)
  rw [Nat.and_two_pow_sub_one_eq_mod, BitVec.toNat_ofNat, Nat.mod_eq_of_lt h3]
