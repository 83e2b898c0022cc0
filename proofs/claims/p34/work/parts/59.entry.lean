/-! THE LAW FROM ITS ENTRY: what is known there -/
abbrev fl9 : List Cond := flatC (Jvm.Cond.and given_1 narrow_1)
theorem sw_bad : ∀ w ∈ badS, w ∈ lw_tbl := by decide +kernel
theorem sw_nes : ∀ w ∈ nesW, w ∈ lw_tbl := by decide +kernel
theorem sw_ao : Cond.arrayOver (.object RX0) ∈ lw_tbl ∧ Cond.arrayOver (.object RX1) ∈ lw_tbl := by decide +kernel
theorem sw_str : ∀ q ∈ strs, Cond.exactly (.string RX9 q.1) "java/lang/String" ∈ fl9 ∧ Cond.stringRef RX9 q.1 q.2 ∈ lw_tbl := by decide +kernel
theorem sw_exc : ∀ a ∈ exC, ∀ b ∈ exC, a ≠ b → Cond.not (.castable a b) ∈ fl9 := by decide +kernel
theorem sw_st : Cond.laysStatic Bundle.tN "UNASSIGNED_STACK" Bundle.steD ∈ lw_tbl ∧ Cond.laysStatic Bundle.tN "SUPPRESSED_SENTINEL" Bundle.listD ∈ lw_tbl ∧ Cond.initialized Bundle.tN ∈ lw_tbl ∧ Cond.laysStatic "java/lang/String" "COMPACT_STRINGS" "Z" ∈ lw_tbl ∧ Cond.initialized "java/lang/String" ∈ lw_tbl ∧ Cond.stringRef RX9 91 "bcimphe" ∈ lw_tbl ∧ Cond.stringRef RL 146 "bcimphex" ∈ lw_tbl ∧ Cond.laysStatic "jdk/internal/util/Preconditions" "SIOOBE_FORMATTER" "Ljava/util/function/BiFunction;" ∈ lw_tbl ∧ Cond.initialized "jdk/internal/util/Preconditions" ∈ lw_tbl := by decide +kernel
theorem sw_nr : Cond.isRef (.static Bundle.tN "UNASSIGNED_STACK" Bundle.steD) ∈ fl9 ∧ Cond.isRef (.static Bundle.tN "SUPPRESSED_SENTINEL" Bundle.listD) ∈ fl9 ∧ Cond.eq (.static "java/lang/String" "COMPACT_STRINGS" "Z") (.int 1) ∈ fl9 ∧ Cond.isRef (.static "jdk/internal/util/Preconditions" "SIOOBE_FORMATTER" "Ljava/util/function/BiFunction;") ∈ fl9 := by decide +kernel
abbrev tm9 : Term := .string RX9 91
theorem sw_kq : Cond.exactly tm9 "java/lang/String" ∈ fl9 ∧ Cond.eq (.field tm9 "java/lang/String" "coder" "B") (.int 0) ∈ fl9 ∧ Cond.arrayOf (.field tm9 "java/lang/String" "value" "[B") .byte ∈ fl9 ∧ Cond.eq (.length (.field tm9 "java/lang/String" "value" "[B")) (.int (Int32.ofNat 7)) ∈ fl9 := by decide +kernel
theorem sw_kb : ∀ j, j < 7 → Cond.eq (.elem (.field tm9 "java/lang/String" "value" "[B") (.int (Int32.ofNat j))) (.int (kqB.getD j 0)) ∈ fl9 := by decide +kernel
abbrev tm8 : Term := .string RL 146
theorem sw_kx : Cond.exactly tm8 "java/lang/String" ∈ fl9 ∧ Cond.eq (.field tm8 "java/lang/String" "coder" "B") (.int 0) ∈ fl9 ∧ Cond.arrayOf (.field tm8 "java/lang/String" "value" "[B") .byte ∈ fl9 ∧ Cond.eq (.length (.field tm8 "java/lang/String" "value" "[B")) (.int (Int32.ofNat 8)) ∈ fl9 := by decide +kernel
theorem sw_kxb : ∀ j, j < 8 → Cond.eq (.elem (.field tm8 "java/lang/String" "value" "[B") (.int (Int32.ofNat j))) (.int (kxB.getD j 0)) ∈ fl9 := by decide +kernel
theorem xt_0 {s : State} {b : Nat} {E : Ev} (hlo : eB E = s.heap.size) (hts : ∀ w ∈ lw_tbl, w.before #[Value.ref b] s = true) (hgv : (Jvm.Cond.and given_1 narrow_1).before #[Value.ref b] s = true) : Xt E s := by
  have hs := flat_of_before _ hgv
  have hA : ∀ a : Nat, a < s.heap.size → ¬ eF E a := fun a h z => by
    have z : eB E ≤ a := z
    omega
  obtain ⟨t1, t2, t3, t4, t5, t6, t7, t8, t9⟩ := sw_st
  obtain ⟨n1, n2, n3, n4⟩ := sw_nr
  obtain ⟨u1, u2, u3, u4⟩ := sw_kx
  obtain ⟨k1, k2, k3, k4⟩ := sw_kq
  refine ⟨vx_Zqof (hts _ t1) (hts _ t3) (hs _ n1) hA, vx_Zqof (hts _ t2) (hts _ t3) (hs _ n2) hA, fun w hw => va_tabs (wrm_on (List.all_eq_true.mp badS_wrm w hw)) rfl (hts _ (sw_bad w hw)), fun a ha b hb hab => va_Nc.of (hs _ (sw_exc a ha b hb hab)), fun q hq => ?_, ?_, ?_, va_Zqof (hts _ t8) (hts _ t9) (hs _ n4) hA, va_Zof (hts _ t4) (hts _ t5) (va_eqt (hs _ n3)) hA⟩
  · obtain ⟨q1, q2⟩ := sw_str q hq
    obtain ⟨a, c, cell, kk, e1, -⟩ := Cond.exactly_spec (args := #[Value.ref b]) (first := s) (o := none) (s := s) (idx := []) (hs _ q1)
    exact ⟨a, vk_R.of (A := #[Value.ref b]) (hts _ q2) e1⟩
  · obtain ⟨adK, adV, h1, h2⟩ := vk_Sof (args := #[Value.ref b]) (s := s) (N := 1) (tm := fun _ => tm9) (len := [7]) (byt := [kqB]) (A := eF E) (fun i hi => by rw [show i = 0 by omega]; decide) (fun i hi => hs _ k1) (fun i hi => hs _ k2) (fun i hi => hs _ k3) (fun i hi => by rw [show i = 0 by omega]; exact hs _ k4) (fun i hi j hj => by rw [show i = 0 by omega] at hj ⊢; exact hs _ (sw_kb j hj)) (fun i j hi hj hij => absurd (show i = j by omega) hij) hA
    refine ⟨adK 0, adV 0, vk_R.of (A := #[Value.ref b]) (hts _ t6) (h2 0 (by decide)), fun i hi => ?_, fun i j hi hj _ => by omega⟩
    have hz : i = 0 := by omega
    subst hz
    exact h1.1 0 hi
  · obtain ⟨adK, adV, h1, h2⟩ := vk_Sof (args := #[Value.ref b]) (s := s) (N := 1) (tm := fun _ => tm8) (len := [8]) (byt := [kxB]) (A := eF E) (fun i hi => by rw [show i = 0 by omega]; decide) (fun i hi => hs _ u1) (fun i hi => hs _ u2) (fun i hi => hs _ u3) (fun i hi => by rw [show i = 0 by omega]; exact hs _ u4) (fun i hi j hj => by rw [show i = 0 by omega] at hj ⊢; exact hs _ (sw_kxb j hj)) (fun i j hi hj hij => absurd (show i = j by omega) hij) hA
    refine ⟨adK 0, adV 0, vk_R.of (A := #[Value.ref b]) (hts _ t7) (h2 0 (by decide)), fun i hi => ?_, fun i j hi hj _ => by omega⟩
    have hz : i = 0 := by omega
    subst hz
    exact h1.1 0 hi
theorem nx_0 {s : State} {b : Nat} (hts : ∀ w ∈ lw_tbl, w.before #[Value.ref b] s = true) : Nx s :=
  ⟨fun w hw => va_tabs (wrm_on (List.all_eq_true.mp nesW_wrm w hw)) rfl (hts _ (sw_nes w hw)), va_AO.of (hts _ sw_ao.1), va_AO.of (hts _ sw_ao.2)⟩
/-! the classes' numbers -/
theorem sl_0 : ∀ w ∈ u_ws RJ0 TJ0 2, w ∈ lw_tbl := by decide +kernel
theorem sl_1 : ∀ w ∈ u_ws RJx00060 TJx00060 6, w ∈ lw_tbl := by decide +kernel
theorem si_0 : Cond.instantiable RJ0 4 ∈ lw_tbl ∧ Cond.instantiable RJx00060 6 ∈ lw_tbl := by decide +kernel
theorem wsG_t {w : Cond} (h : w ∈ wsG) : w ∈ lw_tbl := (List.mem_filter.mp h).1
theorem kn_0 {s : State} {b : Nat} (hts : ∀ w ∈ lw_tbl, w.before #[Value.ref b] s = true) : ∃ D : va_G, ∀ (c : Nat) (q : vw_C), vwCl[c]? = some q → u_Kn s q.1 q.2.1 q.2.2 (D.1 c) (D.2 c) := by
  have h0 : ∀ c : Nat, ∃ p : ClassId × (Nat → Nat), ∀ q : vw_C, vwCl[c]? = some q → u_Kn s q.1 q.2.1 q.2.2 p.1 p.2 := by
    intro c
    match c with
    | 0 => obtain ⟨a, i, h⟩ := u_known hts sl_0 (hts _ si_0.1); exact ⟨(a, i), fun q hq => by cases hq; exact h⟩
    | 1 => obtain ⟨a, i, h⟩ := u_known hts sl_1 (hts _ si_0.2); exact ⟨(a, i), fun q hq => by cases hq; exact h⟩
    | 2 => obtain ⟨a, i, h⟩ := u_known hts (fun w h => wsG_t (lays_X0 w h)) (hts _ (wsG_t in_X0)); exact ⟨(a, i), fun q hq => by cases hq; exact h⟩
    | 3 => obtain ⟨a, i, h⟩ := u_known hts (fun w h => wsG_t (lays_X1 w h)) (hts _ (wsG_t in_X1)); exact ⟨(a, i), fun q hq => by cases hq; exact h⟩
    | 4 => obtain ⟨a, i, h⟩ := u_known hts (fun w h => wsG_t (lays_X2 w h)) (hts _ (wsG_t in_X2)); exact ⟨(a, i), fun q hq => by cases hq; exact h⟩
    | 5 => obtain ⟨a, i, h⟩ := u_known hts (fun w h => wsG_t (lays_X3 w h)) (hts _ (wsG_t in_X3)); exact ⟨(a, i), fun q hq => by cases hq; exact h⟩
    | 6 => obtain ⟨a, i, h⟩ := u_known hts (fun w h => wsG_t (lays_X5 w h)) (hts _ (wsG_t in_X5)); exact ⟨(a, i), fun q hq => by cases hq; exact h⟩
    | 7 => obtain ⟨a, i, h⟩ := u_known hts (fun w h => wsG_t (lays_X6 w h)) (hts _ (wsG_t in_X6)); exact ⟨(a, i), fun q hq => by cases hq; exact h⟩
    | 8 => obtain ⟨a, i, h⟩ := u_known hts (fun w h => wsG_t (lays_X8 w h)) (hts _ (wsG_t in_X8)); exact ⟨(a, i), fun q hq => by cases hq; exact h⟩
    | 9 => obtain ⟨a, i, h⟩ := u_known hts (fun w h => wsG_t (lays_X9 w h)) (hts _ (wsG_t in_X9)); exact ⟨(a, i), fun q hq => by cases hq; exact h⟩
    | c + 10 => exact ⟨(0, fun _ => 0), fun q hq => by
        have : vwCl[c + 10]? = none := List.getElem?_eq_none (by show 10 ≤ c + 10; omega)
        rw [this] at hq; cases hq⟩
  obtain ⟨g, hg⟩ := Classical.axiomOfChoice h0
  exact ⟨(fun c => (g c).1, fun c => (g c).2), fun c q hq => hg c q hq⟩
theorem ar_0 {s : State} {b : Nat} {ty : FieldType} (h : (Cond.arrayClass ty).before #[Value.ref b] s = true) : ∃ c : ClassId, ArrOfT s c ty ∧ s.vm.findClass ("[" ++ ty.toString) = some c := by
  obtain ⟨c, k, comp, h1, h2, h3⟩ := Cond.arrayClass_spec (first := s) (o := none) (idx := []) h
  exact ⟨c, fun n z => ⟨fun k h => (by cases h), k, h2, comp, h3⟩, h1⟩
theorem aq_0 {s : State} {b : Nat} {C : String} (h : (Cond.arrayOver (.object C)).before #[Value.ref b] s = true) : ∃ c : ClassId, ArrOfT s c (.object C) ∧ va_RA s c (.object C) := by
  obtain ⟨comp, c, k, h1, h2, h3, h4, h5⟩ := Cond.arrayOver_spec (first := s) (o := none) (idx := []) h
  exact ⟨c, fun n z => ⟨fun k h => (by cases h), k, h3, comp, h4⟩, k, comp, h3, h4, h1, h5⟩
theorem ty_0 {s : State} {b : Nat} (hts : ∀ w ∈ lw_tbl, w.before #[Value.ref b] s = true) : ∃ y : Nat → ClassId, ∀ (lo : Nat) (D : va_G) (k : Nat) (q : ClassId × FieldType), (tysE (E09 lo D y))[k]? = some q → ArrOfT s q.1 q.2 ∧ va_RA s q.1 q.2 := by
  obtain ⟨c0, a0, b0⟩ := ar_0 (hts _ (wsG_t ar_int))
  obtain ⟨c1, a1, b1⟩ := ar_0 (hts _ (wsG_t ar_long))
  obtain ⟨c2, a2, b2⟩ := ar_0 (hts _ (wsG_t ar_boolean))
  obtain ⟨c3, a3, b3⟩ := ar_0 (hts _ (wsG_t ar_char))
  obtain ⟨c5, a5, b5⟩ := aq_0 (hts _ sw_ao.1)
  obtain ⟨c6, a6, b6⟩ := aq_0 (hts _ sw_ao.2)
  refine ⟨fun k => match k with | 0 => c0 | 1 => c1 | 2 => c2 | 3 => c3 | 5 => c5 | _ => c6, fun lo D k q hq => ?_⟩
  match k, hq with
  | 0, hq => cases hq; exact ⟨a0, b0⟩
  | 1, hq => cases hq; exact ⟨a1, b1⟩
  | 2, hq => cases hq; exact ⟨a2, b2⟩
  | 3, hq => cases hq; exact ⟨a3, b3⟩
  | 4, hq => cases hq; exact ⟨a0, b0⟩
  | 5, hq => cases hq; exact ⟨a5, b5⟩
  | 6, hq => cases hq; exact ⟨a6, b6⟩
  | k + 7, hq =>
    exfalso
    have : (tysE (E09 lo D fun k => match k with | 0 => c0 | 1 => c1 | 2 => c2 | 3 => c3 | 5 => c5 | _ => c6))[k + 7]? = none := List.getElem?_eq_none (by show 7 ≤ k + 7; omega)
    rw [this] at hq; cases hq
/-! the law's first steps -/
def law9 : Method → Code → Prop := fun _ c => c.exceptionTable.toList = []
abbrev f09 : Nat → va_E := fun _ => .inr (0, [])
def QS (E : Ev) (b L : Nat) (xs : Nat → Int32) : List Frame → Array Value → State → State → Prop := fun below args s t => (Xt E s ∧ eB E ≤ s.heap.size) → LQ b L xs E below args s t
theorem n_toJ {l : Launch} {lo : Nat} {D : va_G} {y : Nat → ClassId} {b L : Nat} {xs : Nat → Int32} {k w pc : Nat} {ls : List (Option Value)} {st : List Value} (hJ : JL l (E09 lo D y) b L xs k w pc ls st M09) : Jn l (E09 lo D y) RL law9 cL_law 20 (some .boolean) room_1 (QS (E09 lo D y) b L xs) k w pc ls st 107 (fE9 (E09 lo D y)) := by
  intro p e s m args below meth c C9 H locs lsr hP hS hl
  obtain ⟨hx, hb, hr, hml, hown, hts, hlk, hK, hnm, hne⟩ := id C9
  by_cases hq : Xt (E09 lo D y) s ∧ eB (E09 lo D y) ≤ s.heap.size
  · intro T hT X
    obtain ⟨t, a1, b1⟩ := hJ p e s m args below meth c ⟨hx, hb, hr, hml, hown, hts, hlk, hK, hq.2, lay_ok lo D y, hq.1, hnm⟩ H locs lsr (pic_wd hP) hS hl T hT X
    exact ⟨t, a1, fun _ => b1⟩
  · intro T hT X
    exact ⟨_, Steps.refl _, fun z => absurd z hq⟩
set_option maxRecDepth 100000 in
set_option maxHeartbeats 2000000 in
theorem law_pre {l : Launch} {lo : Nat} {D : va_G} {y : Nat → ClassId} {b L : Nat} {xs : Nat → Int32} (hJ : JL l (E09 lo D y) b L xs 107 5300 21 [some (.ref b), some (.ref (eA (E09 lo D y) 0 0)), some (.int (nI 0)), some (.int (nI 0)), some (.int (nI 0)), some (.int (nI 0)), some (.int (nI 0)), none, none, none, none, none, none, none, none, none, none, none, none, none] [] M09) : Jn l (E09 lo D y) RL law9 cL_law 20 (some .boolean) room_1 (QS (E09 lo D y) b L xs) 0 0 0 [some (.ref b), none, none, none, none, none, none, none, none, none, none, none, none, none, none, none, none, none, none, none] [] 0 f09 := by
  refine n_new (ci := 9) tyX9 tyX9_ok lays_X9 rfl (wg1 (i := 29) rfl rfl) in_X9 ii_X9 fd_X9 (Nat.le_of_ble_eq_true rfl) (Nat.le_of_ble_eq_true rfl) dL_law_0 ?_
  refine n_dup dL_law_3 rfl ?_
  refine n_call (lv' := 4) mi_X9 (wg1 (i := 31) rfl rfl) ⟨Nat.le_of_ble_eq_true rfl, Nat.le_of_ble_eq_true rfl⟩ (cc_X9 (i := 0) (n := 1) (by decide)) (Nat.le_of_ble_eq_true rfl) dL_law_4 ⟨Nat.le_of_ble_eq_true rfl, Nat.le_of_ble_eq_true rfl⟩ ?_
  refine n_astn (ls' := [some (.ref b), some (.ref (eA (E09 lo D y) 0 0)), none, none, none, none, none, none, none, none, none, none, none, none, none, none, none, none, none, none]) dL_law_7 rfl (by decide) rfl rfl ?_
  refine n_ic (v := nI 0) dL_law_8 rfl ?_
  refine n_istn (ls' := [some (.ref b), some (.ref (eA (E09 lo D y) 0 0)), some (.int (nI 0)), none, none, none, none, none, none, none, none, none, none, none, none, none, none, none, none, none]) dL_law_9 rfl (by decide) rfl rfl ?_
  refine n_ic (v := nI 0) dL_law_10 rfl ?_
  refine n_istn (ls' := [some (.ref b), some (.ref (eA (E09 lo D y) 0 0)), some (.int (nI 0)), some (.int (nI 0)), none, none, none, none, none, none, none, none, none, none, none, none, none, none, none, none]) dL_law_11 rfl (by decide) rfl rfl ?_
  refine n_ic (v := nI 0) dL_law_12 rfl ?_
  refine n_ist (ls' := [some (.ref b), some (.ref (eA (E09 lo D y) 0 0)), some (.int (nI 0)), some (.int (nI 0)), some (.int (nI 0)), none, none, none, none, none, none, none, none, none, none, none, none, none, none, none]) dL_law_13 (by decide) rfl rfl ?_
  refine n_ic (v := nI 0) dL_law_15 rfl ?_
  refine n_ist (ls' := [some (.ref b), some (.ref (eA (E09 lo D y) 0 0)), some (.int (nI 0)), some (.int (nI 0)), some (.int (nI 0)), some (.int (nI 0)), none, none, none, none, none, none, none, none, none, none, none, none, none, none]) dL_law_16 (by decide) rfl rfl ?_
  refine n_ic (v := nI 0) dL_law_18 rfl ?_
  refine n_ist (ls' := [some (.ref b), some (.ref (eA (E09 lo D y) 0 0)), some (.int (nI 0)), some (.int (nI 0)), some (.int (nI 0)), some (.int (nI 0)), some (.int (nI 0)), none, none, none, none, none, none, none, none, none, none, none, none, none]) dL_law_19 (by decide) rfl rfl ?_
  exact n_k (k' := 107) (w' := 5300) (Nat.le_of_ble_eq_true rfl) (Nat.le_of_ble_eq_true rfl) (n_toJ hJ)
theorem CI_0 : CI M09 0 0 0 (fun _ => 0) 0 0 := by
  refine ⟨⟨rfl, rfl, rfl, fun k hk => absurd hk (Nat.not_lt_zero _)⟩, ⟨by decide, by decide, Nat.le_refl _, fun k hk => absurd hk (Nat.not_lt_zero _), fun i j hi => absurd hi (Nat.not_lt_zero _)⟩, ⟨fun f hf => absurd hf (Nat.not_lt_zero _), fun f _ => Or.inl rfl⟩, ⟨fun n hn => ?_, ⟨fun _ => 0, fun n _ m hm h => ?_⟩, fun n _ => ?_⟩, ⟨rfl, fun k hk => absurd hk (Nat.not_lt_zero _), ⟨⟨fun _ _ => rfl, fun _ _ => rfl⟩, fun k hk => absurd hk (Nat.not_lt_zero _)⟩, fun f _ => Or.inl rfl⟩, rfl, ⟨rfl, by decide⟩, ⟨rfl, by decide⟩, fun k hk => absurd hk (Nat.not_lt_zero _), rfl⟩
  · have hz : ∀ k, k ≤ 8 → ∀ m, rdX (mI M09 20) (mI M09 21) (mI M09 22) (mI M09 23) k m = 0 := by
      intro k
      induction k with
      | zero => intro _ m; rw [rdX_0]; rfl
      | succ k ih =>
        intro hk m
        rw [rdX_s, upd_at]
        by_cases c : m = k
        · rw [if_pos c]
          unfold outX
          rw [show mI M09 21 k = 0 from rfl, if_neg (show ¬ (0 : Int32) = nI 42 by decide), if_neg (show ¬ (0 : Int32) = nI 45 by decide), show mI M09 20 k = 0 from rfl, show mI M09 22 k = 0 from rfl]
          unfold valX
          rw [if_neg (show ¬ nmd 0 = true by decide)]
          show cutX (0 + 0) = 0
          decide
        · rw [if_neg c]; exact ih (by omega) m
    rw [hz 8 (Nat.le_refl _) n]; rfl
  · have hn : ∀ m, m < 8 → ¬ (0 : Int32) = nI (100 + m) := by decide
    exact absurd (h.elim id id) (hn m hm)
  · show vp_nar .char 0 = 0
    decide
theorem whole_start {p : Program} {e : Env} {s : State} {m : MethodId} {below : List Frame} {meth : Method} {c : Code} (l : Launch) (hflags : l.flags = flags0) {b L : Nat} {xs : Nat → Int32} (hL : L ≤ 260) (C0 : lw_At p s m meth c b L xs) (htb : c.exceptionTable.toList = []) : W p l e room_1 s m #[Value.ref b] below meth c s.heap [] 0 0 (lw_Z below #[Value.ref b] s) (entryFrame m ([Value.ref b] : List Value).toArray 20) := by
  obtain ⟨hx, hb, hr, hml, hown, hts, hX, hbl, hlocks, hgv⟩ := id C0
  have hl9 : l.stackTraces = false := by unfold Launch.stackTraces; rw [hflags]; decide
  obtain ⟨D, hD⟩ := kn_0 hts
  obtain ⟨y, hy⟩ := ty_0 hts
  have hJ := law_loop (l := l) (E := E09 s.heap.size D y) (b := b) (xs := xs) hl9 rfl hL 0 (by decide) M09 0 0 0 (fun _ => 0) 0 0 107 5300 CI_0 ⟨0, Nat.le_refl _, rfl⟩ (Nat.le_of_ble_eq_true rfl) (Nat.le_of_ble_eq_true rfl)
  obtain ⟨lsr, e1, hl⟩ := ent_has (m := m) (As := [Value.ref b]) (nL := 20) (ls := [some (.ref b), none, none, none, none, none, none, none, none, none, none, none, none, none, none, none, none, none, none, none]) (Nat.le_of_ble_eq_true rfl) rfl
  rw [e1]
  intro T hT X
  obtain ⟨t, a1, b1⟩ := law_pre (l := l) (lo := s.heap.size) (D := D) (y := y) hJ p e s m #[Value.ref b] below meth c ⟨hx, hb, hr, hml, hown, fun w h => hts w (wsG_t h), hlocks, ⟨hD, hy s.heap.size D⟩, htb, nx_0 hts⟩ s.heap [] lsr ⟨rfl, fun i hi => absurd hi (Nat.not_lt_zero _)⟩ va_S.rf hl T hT X
  exact ⟨t, a1, b1 ⟨xt_0 rfl hts hgv, Nat.le_refl _⟩ ⟨rfl, hX, hbl, rfl⟩⟩
