/-! groups, slides, fits -/
theorem grK_c {A P O A' P' O' : Nat → Int32} {ax g : Int32} : ∀ k, (∀ j, j < k → A j = A' j ∧ P j = P' j ∧ O j = O' j) → grK A P O ax k g = grK A' P' O' ax k g := by
  intro k
  induction k with
  | zero => intro _; rfl
  | succ k ih =>
    intro h
    show gS A P O ax (grK A P O ax k g) k = gS A' P' O' ax (grK A' P' O' ax k g) k
    obtain ⟨e1, e2, e3⟩ := h k (by omega)
    rw [ih fun j hj => h j (by omega)]
    unfold gS
    rw [e1, e2, e3]
theorem grR_c {A P O A' P' O' : Nat → Int32} {ax g : Int32} {mc : Nat} (h : ∀ j, j < mc → A j = A' j ∧ P j = P' j ∧ O j = O' j) : ∀ r, grR A P O ax mc r g = grR A' P' O' ax mc r g := by
  intro r
  induction r with
  | zero => rfl
  | succ r ih =>
    show grK A P O ax mc (grR A P O ax mc r g) = grK A' P' O' ax mc (grR A' P' O' ax mc r g)
    rw [ih, grK_c mc h]
theorem IP_mt {M : Mm} {pc mc : Nat} (q : IP M pc mc) : (∀ j, j < mc → mtE (mI M 64) (mI M 65) j) ∧ mtP M mc ∧ ∀ j, j < mc → mI M 35 j = mI M 63 j ∧ mI M 36 j = mI M 64 j ∧ mI M 37 j = mI M 65 j := by
  obtain ⟨p1, p2, p3, p4, p5, p6, p7⟩ := q
  have h : ∀ j, j < mc → mtE (mI M 64) (mI M 65) j := fun j hj => by
    obtain ⟨-, -, -, -, ⟨p, hp, e5⟩, e6⟩ := p6 j hj
    refine ⟨⟨p, by omega, e5⟩, e6.imp id fun ⟨r, hr, e⟩ => ⟨r, by omega, e⟩⟩
  exact ⟨h, h, fun j hj => ⟨(p6 j hj).1, (p6 j hj).2.1, (p6 j hj).2.2.1⟩⟩
theorem grp_E {M : Mm} {pc mc : Nat} (q : IP M pc mc) {p : Nat} (hp : p < 6) (ax : Int32) (r : Nat → Int32) : GT (grp M mc ax (nI p)) (tiE M mc ax r p) ∧ cls (mI M 63) (mI M 64) (mI M 65) ax mc (onT (tiE M mc ax r p)) ∧ onT (tiE M mc ax r p) p := by
  obtain ⟨hm, -, hc⟩ := IP_mt q
  have h12 := q.2.1.2.2
  have h0 := GT_r (A := mI M 63) (ax := ax) (mc := mc) hm (GT_0 hp r) mc
  have hup := stb_up (A := mI M 63) (ax := ax) hm (st0 r p) (12 - mc)
  rw [show mc + (12 - mc) = 12 by omega] at hup
  have hcl := stb_cls hm (stb_mc (A := mI M 63) (ax := ax) hm (st0 r p))
  refine ⟨?_, fun k hk hA => ?_, ?_⟩
  · unfold grp
    rw [grR_c hc]
    obtain ⟨m, h1, h2, h3⟩ := h0
    refine ⟨m, h1, h2, fun e he => ?_⟩
    rw [h3 e he]
    exact (hup e he).symm
  · have h7 := tg7 (hm k hk)
    show onT (tiR (mI M 63) (mI M 64) (mI M 65) ax mc (st0 r p) 12) _ ↔ onT (tiR (mI M 63) (mI M 64) (mI M 65) ax mc (st0 r p) 12) _
    rw [hup _ h7.1, hup _ h7.2]
    exact hcl k hk hA
  · refine tiR_mono hm ?_ 12
    show ¬ st0 r p p = 0
    unfold st0
    rw [cpR_lt _ _ (by omega), if_pos rfl]; decide
/-- y in p's group, as the class and the model ask it -/
theorem td_T {M : Mm} {pc mc : Nat} (q : IP M pc mc) {p : Nat} (hp : p < 6) (ax : Int32) (r : Nat → Int32) {y : Int32} (hy : y = -1 ∨ ∃ p, p < 6 ∧ y = nI p) : tdX M mc ax (nI p) y = true ↔ ¬ tiE M mc ax r p (tgX y) = 0 := by
  obtain ⟨h7, e⟩ := el_tg hy
  have h := GT_ing (grp_E q hp ax r).1 h7
  rw [← e] at h
  unfold tdX
  rw [decide_eq_true_iff]
  exact h
theorem ing_p {g : Int32} {T : Nat → Int32} (h : GT g T) {p : Nat} (hp : p < 6) : (¬ g &&& ptb (nI p) = 0) ↔ ¬ T p = 0 := by
  have e : nI p = el p := by unfold el; rw [if_neg (by omega)]
  rw [e]
  exact GT_ing h (by omega)
theorem sl_eq {mv r T : Nat → Int32} {g w : Int32} {a pc : Nat} (hpc : pc ≤ 6) (h : GT g T) (he : ∀ i, i < 18 → mv i = r i) : ∀ i, i < 18 → slM mv a g w pc i = smR r T a w pc i := by
  intro i hi
  unfold slM smR
  rw [he i hi]
  by_cases c : i % 3 = a ∧ i / 3 < pc ∧ ¬ g &&& ptb (nI (i / 3)) = 0
  · rw [if_pos c, if_pos ⟨c.1, c.2.1, (ing_p h (by omega)).mp c.2.2⟩]
  · rw [if_neg c, if_neg fun z => c ⟨z.1, z.2.1, (ing_p h (by omega)).mpr z.2.2⟩]
theorem slN_s (g : Int32) (k : Nat) : slN g (k + 1) = if g &&& ptb (nI k) = 0 then slN g k else slN g k + 1 := by rw [slN]
theorem slN_n {T : Nat → Int32} {g : Int32} (h : GT g T) : ∀ k, k ≤ 6 → nI (slN g k) = ctK (fun i => T i = 0) k := by
  intro k
  induction k with
  | zero => intro _; rfl
  | succ k ih =>
    intro hk
    have e := ing_p h (show k < 6 by omega)
    rw [slN_s]
    by_cases c : g &&& ptb (nI k) = 0
    · have z : T k = 0 := Classical.byContradiction fun z => e.mpr z c
      rw [if_pos c, ih (by omega), ctK_t (P := fun i => T i = 0) z]; exact (Int32.add_zero _).symm
    · rw [if_neg c, ctK_f (P := fun i => T i = 0) (e.mp c), ← ih (by omega), nI_add]
theorem mvS {mv T : Nat → Int32} {g w : Int32} {a b pc p : Nat} (hpc : pc ≤ 6) (hb : b < 3) (h : GT g T) (hp : p < pc) : mvX (slM mv a g w pc) (nI p) b = if b = a ∧ ¬ T p = 0 then mvX mv (nI p) b + w else mvX mv (nI p) b := by
  unfold mvX
  rw [if_neg (nI_nm1 (by omega)), if_neg (nI_nm1 (by omega)), ntX_nI (by omega)]
  unfold slM
  rw [show (p * 3 + b) % 3 = b by omega, show (p * 3 + b) / 3 = p by omega]
  have e := ing_p h (show p < 6 by omega)
  by_cases c : b = a ∧ ¬ T p = 0
  · rw [if_pos c, if_pos ⟨c.1, hp, e.mpr c.2⟩]
  · rw [if_neg c, if_neg fun z => c ⟨z.1, e.mp z.2.2⟩]
theorem mvX_m (mv : Nat → Int32) (b : Nat) : mvX mv (-1) b = nI 0 := if_pos rfl
theorem cnc (a b w : Int32) : (a + w) - (b + w) = a - b := by
  rw [Int32.sub_eq_add_neg, Int32.neg_add, Int32.sub_eq_add_neg, Int32.add_assoc, Int32.add_comm w, Int32.add_assoc, Int32.add_comm (-w), Int32.add_right_neg, Int32.add_zero, ← Int32.sub_eq_add_neg]
/-- a slide of a closed group without the ground keeps what fits -/
theorem ap_sl {mv T : Nat → Int32} {g w : Int32} {a b pc : Nat} (hpc : pc ≤ 6) (hb : b < 3) (h : GT g T) (h6 : T 6 = 0) {x y : Int32} (hx : ∃ p, p < pc ∧ x = nI p) (hy : y = -1 ∨ ∃ p, p < pc ∧ y = nI p) (hc : b = a → (onT T (tgX x) ↔ onT T (tgX y))) : apX (slM mv a g w pc) b x y = apX mv b x y := by
  obtain ⟨p, hp, rfl⟩ := hx
  have tp : ∀ p, p < pc → tgX (nI p) = p := fun p hp => by unfold tgX; rw [if_neg (nI_nm1 (by omega)), ntX_nI (by omega)]
  rw [tp p hp] at hc
  unfold apX
  rw [mvS hpc hb h hp]
  rcases hy with rfl | ⟨r, hr, rfl⟩
  · rw [mvX_m, mvX_m]
    by_cases c : b = a ∧ ¬ T p = 0
    · exact absurd h6 ((hc c.1).mp c.2)
    · rw [if_neg c]
  · rw [tp r hr] at hc
    rw [mvS hpc hb h hr]
    by_cases c : b = a ∧ ¬ T p = 0
    · rw [if_pos c, if_pos ⟨c.1, (hc c.1).mp c.2⟩]; exact cnc _ _ _
    · rw [if_neg c, if_neg fun z => c ⟨z.1, (hc z.1).mpr z.2⟩]
theorem fit_i {M : Mm} {mc : Nat} : fitX M mc = true ↔ ∀ k, k < mc → apX (mI M 34) (ntX (mI M 35 k)) (mI M 36 k) (mI M 37 k) = mI M 38 k := by
  unfold fitX
  rw [List.all_eq_true]
  exact ⟨fun h k hk => of_decide_eq_true (h k (List.mem_range.mpr hk)), fun h k hk => decide_eq_true (h k (List.mem_range.mp hk))⟩
/-- the mates that stand fit after a slide too -/
theorem fit_sl {M : Mm} {pc mc a : Nat} (q : IP M pc mc) {T : Nat → Int32} {g w : Int32} (h : GT g T) (h6 : T 6 = 0) (hcl : cls (mI M 63) (mI M 64) (mI M 65) (nI a) mc (onT T)) (ha : a < 3) : ∀ k, k < mc → apX (slM (mI M 34) a g w pc) (ntX (mI M 35 k)) (mI M 36 k) (mI M 37 k) = mI M 38 k := by
  intro k hk
  obtain ⟨p1, p2, p3, p4, p5, p6, p7⟩ := q
  obtain ⟨e1, e2, e3, ⟨b, hb, e4⟩, e5, e6⟩ := p6 k hk
  rw [← fit_i.mp p7 k hk, e1, e4, ntX_nI (by omega), e2, e3]
  refine ap_sl p1.2.2 hb h h6 e5 e6 fun z => hcl k hk ?_
  rw [e4, z]
/-- what holds, for changes of parts alone -/
theorem INV_pt {M M' : Mm} {g cnt bar : Nat} {fr : Nat → Nat} {pc mc pc2 mc2 : Nat} (h : ∀ t, ¬ (t = 5 ∨ t = 12 ∨ (33 ≤ t ∧ t ≤ 38) ∨ (60 ≤ t ∧ t ≤ 66)) → mI M' t = mI M t) (h12 : ∀ i, i = 5 ∨ i = 6 ∨ i = 7 → mI M' 12 i = mI M 12 i) (hL : ∀ c, c ≤ 12 → mL M' c = mL M c) (hK : ∀ c, c ≤ 12 → mK M' c = mK M c) (w0 : mW M' 0 = mW M 0) (w1 : mW M' 1 = mW M 1) (q : INV M g cnt bar fr pc mc) (hp : IP M' pc2 mc2) : INV M' g cnt bar fr pc2 mc2 := by
  have hb := INV_b q
  obtain ⟨q1, q2, q3, q4, q5, q6, q7⟩ := q
  exact ⟨IA_c (h 2 (by omega)) (h 24 (by omega)) q1, MV_c q2 (h12 5 (by omega)) (h12 6 (by omega)) (h12 7 (by omega)) fun t a b => h t (by omega), IF_c (fun t ht => h t (by omega)) q3, IN_c (fun t ht => h t (by omega)) q4, IH_c (by rw [h 1 (by omega)]) (fun t ht => h t (by omega)) (fun c hc => hL c (by omega)) (fun c hc => hK c (by omega)) w0 w1 q5, IO_c (fun t ht => h t (by omega)) q6, hp⟩
