/-! ties -/
def inX (v lo hi : Int32) : Bool := decide (¬ v < lo ∧ ¬ hi < v)
theorem inX_i {v lo hi : Int32} : inX v lo hi = true ↔ ¬ v < lo ∧ ¬ hi < v := by unfold inX; exact decide_eq_true_iff
def cpR (r q : Nat → Int32) (n : Nat) : Nat → Int32 := fun j => if j < n then r j else q j
def in2 (x : Int32) : Bool := inX x (nI 0) (nI 2)
theorem in2_n {x : Int32} (h : in2 x = true) : ∃ n, n < 3 ∧ x = nI n := by
  have h2 := inX_i.mp h
  obtain ⟨w, hw, rfl⟩ := nn_le (n := 2) (by decide) h2.1 (Int32.not_lt.mp h2.2)
  exact ⟨w, by omega, rfl⟩
theorem nI_nm1 {a : Nat} (h : a < 2 ^ 31) : ¬ nI a = -1 := fun q => absurd (show nI a < 0 by rw [q]; decide) (nI_pos h)
def cN (f : Nat → Bool) : Nat → Nat
  | 0 => 0
  | k + 1 => cN f k + (if f k = true then 1 else 0)
theorem cN_0 (f : Nat → Bool) : cN f 0 = 0 := by rw [cN]
theorem cN_s (f : Nat → Bool) (k : Nat) : cN f (k + 1) = cN f k + (if f k = true then 1 else 0) := by rw [cN]
theorem cN_le {f g : Nat → Bool} {k : Nat} (h : ∀ j, j < k → f j = true → g j = true) : cN f k ≤ cN g k := by
  induction k with
  | zero => exact Nat.le_refl _
  | succ k ih =>
    rw [cN_s, cN_s]
    have h1 := ih fun j hj => h j (by omega)
    by_cases e : f k = true
    · rw [if_pos e, if_pos (h k (by omega) e)]; omega
    · rw [if_neg e]; omega
theorem cN_lt {f g : Nat → Bool} {k i : Nat} (h : ∀ j, j < k → f j = true → g j = true) (hi : i < k) (hf : ¬ f i = true) (hg : g i = true) : cN f k < cN g k := by
  induction k with
  | zero => omega
  | succ k ih =>
    rw [cN_s, cN_s]
    by_cases e : i = k
    · subst e
      rw [if_neg hf, if_pos hg]
      have := cN_le (k := i) fun j hj => h j (by omega)
      omega
    · have h1 := ih (fun j hj => h j (by omega)) (by omega)
      by_cases e : f k = true
      · rw [if_pos e, if_pos (h k (by omega) e)]; omega
      · rw [if_neg e]; omega
theorem cpR_lt (r q : Nat → Int32) {i n : Nat} (h : i < n) : cpR r q n i = r i := if_pos h
def tgX (x : Int32) : Nat := if x = -1 then 6 else ntX x
def tiS (A P O : Nat → Int32) (ax : Int32) (T : Nat → Int32) (k : Nat) : Nat → Int32 := if A k = ax ∧ (¬ T (ntX (P k)) = 0 ∨ ¬ T (tgX (O k)) = 0) then upd (upd T (ntX (P k)) (nI 1)) (tgX (O k)) (nI 1) else T
def tiK (A P O : Nat → Int32) (ax : Int32) (T : Nat → Int32) : Nat → Nat → Int32
  | 0 => T
  | k + 1 => tiS A P O ax (tiK A P O ax T k) k
def tiR (A P O : Nat → Int32) (ax : Int32) (mc : Nat) (T : Nat → Int32) : Nat → Nat → Int32
  | 0 => T
  | r + 1 => tiK A P O ax (tiR A P O ax mc T r) mc
/-- what is tied to p, out of a row -/
def st0 (r : Nat → Int32) (p : Nat) : Nat → Int32 := cpR (fun k => if k = p then nI 1 else nI 0) r 7
theorem cN_ct (f : Nat → Bool) (n : Nat) : cN f n = fb_ct f n := by
  induction n with
  | zero => exact cN_0 f
  | succ n ih => rw [cN_s, fb_ct_succ, ih]
theorem rgX (x : Int32) {n : Nat} (hn : n + 1 < 2 ^ 31) : decide (¬ x < 0 ∧ ¬ nI (n + 1) ≤ x) = inX x (nI 0) (nI n) := by
  unfold inX
  apply decide_eq_decide.mpr
  have e0 : (0 : Int32).toInt = 0 := by decide
  rw [Int32.lt_iff_toInt_lt, Int32.le_iff_toInt_le, Int32.lt_iff_toInt_lt, Int32.lt_iff_toInt_lt, nI_toInt hn, nI_toInt (show n < 2 ^ 31 by omega), nI_toInt (show 0 < 2 ^ 31 by decide), e0]
  omega
theorem axX_2 (x : Int32) : axX x = in2 x := rgX x (n := 2) (by decide)
theorem prX_n {x : Int32} {c : Nat} (hc : c ≤ 6) (h : prX (nI c) x = true) : ∃ p, p < c ∧ x = nI p := by
  have h := of_decide_eq_true h
  exact nn_lt (by omega) h.1 (fun q => absurd h.2 (Int32.not_lt.mpr q))
theorem nI_and (a b : Nat) : nI a &&& nI b = nI (a &&& b) := nI_ext fun k hk => by rw [Int32.toBitVec_and, BitVec.getLsbD_and, nI_bit a hk, nI_bit b hk, Nat.testBit_and]
/-- is x (a part, or -1 the ground) in a group of bits -/
def ing (g x : Int32) : Prop := ¬ g &&& ptb x = 0
def el (e : Nat) : Int32 := if e = 6 then -1 else nI e
theorem ptb_el : ∀ e, e < 7 → ptb (el e) = nI (2 ^ (if e = 6 then 0 else e + 1)) := by decide +kernel
theorem el_tg {x : Int32} (h : x = -1 ∨ ∃ p, p < 6 ∧ x = nI p) : tgX x < 7 ∧ x = el (tgX x) := by
  unfold tgX el
  rcases h with rfl | ⟨p, hp, rfl⟩
  · exact ⟨by decide, by decide⟩
  · rw [if_neg (nI_nm1 (by omega)), ntX_nI (by omega), if_neg (by omega)]
    exact ⟨by omega, rfl⟩
/-- the numbers under 128 -/
def bt7 (e : Nat) : Nat := if e = 6 then 0 else e + 1
theorem bt7_lt {e : Nat} (h : e < 7) : bt7 e < 7 := by unfold bt7; split <;> omega
theorem bt7_inj {e e2 : Nat} (h : e < 7) (h2 : e2 < 7) (q : bt7 e = bt7 e2) : e = e2 := by unfold bt7 at q; split at q <;> split at q <;> omega
theorem ing_n {m e : Nat} (hm : m < 128) (he : e < 7) : ing (nI m) (el e) ↔ m.testBit (bt7 e) = true := by
  unfold ing
  rw [ptb_el e he, nI_and]
  have hl : m &&& 2 ^ bt7 e < 128 := Nat.lt_of_le_of_lt Nat.and_le_left hm
  show ¬ nI (m &&& 2 ^ bt7 e) = nI 0 ↔ _
  rw [nI_eq (by omega) (by decide), fb_bit_nat, Bool.not_eq_false]
/-- a group of bits and a row of marks hold the same -/
def GT (g : Int32) (T : Nat → Int32) : Prop := ∃ m, m < 128 ∧ g = nI m ∧ ∀ e, e < 7 → (m.testBit (bt7 e) = true ↔ ¬ T e = 0)
theorem or128 {a b : Nat} (ha : a < 128) (hb : b < 128) : a ||| b < 128 := Nat.or_lt_two_pow (n := 7) ha hb
theorem GT_ing {g : Int32} {T : Nat → Int32} (h : GT g T) {e : Nat} (he : e < 7) : ing g (el e) ↔ ¬ T e = 0 := by
  obtain ⟨m, hm, rfl, q⟩ := h
  rw [ing_n hm he, q e he]
theorem pw_lt {e : Nat} (he : e < 7) : 2 ^ bt7 e < 128 := Nat.pow_lt_pow_right (by decide) (bt7_lt he)
theorem GT_0 {p : Nat} (hp : p < 6) (r : Nat → Int32) : GT (ptb (nI p)) (st0 r p) := by
  have e : nI p = el p := by unfold el; rw [if_neg (by omega)]
  refine ⟨2 ^ bt7 p, pw_lt (by omega), by rw [e, ptb_el p (by omega)]; rfl, fun d hd => ?_⟩
  unfold st0
  rw [cpR_lt _ _ hd, Nat.testBit_two_pow, decide_eq_true_iff]
  constructor
  · intro q
    rw [if_pos (bt7_inj hd (by omega) q.symm)]; decide
  · intro q
    by_cases z : d = p
    · rw [z]
    · rw [if_neg z] at q; exact absurd rfl q
/-- the mates' parts, as elements -/
def mtE (P O : Nat → Int32) (k : Nat) : Prop := (∃ p, p < 6 ∧ P k = nI p) ∧ (O k = -1 ∨ ∃ p, p < 6 ∧ O k = nI p)
theorem GT_s {A P O : Nat → Int32} {ax g : Int32} {T : Nat → Int32} {k : Nat} (hk : mtE P O k) (h : GT g T) : GT (gS A P O ax g k) (tiS A P O ax T k) := by
  obtain ⟨⟨p, hp, ep⟩, ho⟩ := hk
  obtain ⟨o7, eo⟩ := el_tg ho
  have ep2 : P k = el p := by rw [ep]; unfold el; rw [if_neg (by omega)]
  have hnt : ntX (P k) = p := by rw [ep, ntX_nI (by omega)]
  obtain ⟨m, hm, rfl, q⟩ := h
  have hpb : ptb (P k) = nI (2 ^ bt7 p) := by rw [ep2, ptb_el p (by omega)]; rfl
  have hob : ptb (O k) = nI (2 ^ bt7 (tgX (O k))) := by
    have := ptb_el _ o7
    rw [← eo] at this
    exact this
  unfold gS tiS
  rw [hpb, hob, hnt, nI_or, nI_and, nI_or]
  generalize tgX (O k) = o at *
  have hc : ¬ nI (m &&& (2 ^ bt7 p ||| 2 ^ bt7 o)) = 0 ↔ ¬ T p = 0 ∨ ¬ T o = 0 := by
    have hl : m &&& (2 ^ bt7 p ||| 2 ^ bt7 o) < 128 := Nat.lt_of_le_of_lt Nat.and_le_left hm
    rw [← q p (by omega), ← q o o7]
    show ¬ nI _ = nI 0 ↔ _
    rw [nI_eq (by omega) (by decide), Nat.and_or_distrib_left, Nat.or_eq_zero_iff, fb_bit_nat, fb_bit_nat]
    cases m.testBit (bt7 p) <;> cases m.testBit (bt7 o) <;> decide
  by_cases c : A k = ax ∧ ¬ nI (m &&& (2 ^ bt7 p ||| 2 ^ bt7 o)) = 0
  · rw [if_pos c, if_pos ⟨c.1, hc.mp c.2⟩]
    refine ⟨_, or128 hm (or128 (pw_lt (by omega)) (pw_lt o7)), rfl, fun e he => ?_⟩
    rw [Nat.testBit_or, Nat.testBit_or, Nat.testBit_two_pow, Nat.testBit_two_pow, Bool.or_eq_true, Bool.or_eq_true, decide_eq_true_iff, decide_eq_true_iff, q e he]
    show _ ↔ ¬ (if e = o then nI 1 else if e = p then nI 1 else T e) = 0
    by_cases z1 : e = o
    · rw [if_pos z1, z1]; exact ⟨fun _ => by decide, fun _ => Or.inr (Or.inr rfl)⟩
    · rw [if_neg z1]
      by_cases z2 : e = p
      · rw [if_pos z2, z2]; exact ⟨fun _ => by decide, fun _ => Or.inr (Or.inl rfl)⟩
      · rw [if_neg z2]
        refine ⟨fun g => g.elim id fun g => g.elim (fun g => absurd (bt7_inj he (by omega) g.symm) z2) (fun g => absurd (bt7_inj he o7 g.symm) z1), Or.inl⟩
  · rw [if_neg c, if_neg fun z => c ⟨z.1, hc.mpr z.2⟩]
    exact ⟨m, hm, rfl, q⟩
theorem GT_k {A P O : Nat → Int32} {ax g : Int32} {T : Nat → Int32} (h : GT g T) : ∀ k, (∀ j, j < k → mtE P O j) → GT (grK A P O ax k g) (tiK A P O ax T k) := by
  intro k
  induction k with
  | zero => intro _; exact h
  | succ k ih => intro hm; exact GT_s (hm k (by omega)) (ih fun j hj => hm j (by omega))
theorem GT_r {A P O : Nat → Int32} {ax g : Int32} {T : Nat → Int32} {mc : Nat} (hm : ∀ j, j < mc → mtE P O j) (h : GT g T) : ∀ r, GT (grR A P O ax mc r g) (tiR A P O ax mc T r) := by
  intro r
  induction r with
  | zero => exact h
  | succ r ih => exact GT_k ih mc hm
/-- x is in the row -/
abbrev onT (T : Nat → Int32) (e : Nat) : Prop := ¬ T e = 0
def abs1 (A P O : Nat → Int32) (ax : Int32) (T : Nat → Int32) (k : Nat) : Bool := decide (A k = ax ∧ onT T (tgX (P k)) ∧ onT T (tgX (O k)))
theorem tg_p {P : Nat → Int32} {k : Nat} (h : ∃ p, p < 6 ∧ P k = nI p) : ntX (P k) = tgX (P k) := by
  obtain ⟨p, hp, e⟩ := h
  unfold tgX
  rw [e, if_neg (nI_nm1 (by omega))]
theorem tiS_at {A P O : Nat → Int32} {ax : Int32} {T : Nat → Int32} {k : Nat} (hk : mtE P O k) (e : Nat) : onT (tiS A P O ax T k) e ↔ onT T e ∨ (A k = ax ∧ (onT T (tgX (P k)) ∨ onT T (tgX (O k))) ∧ (e = tgX (P k) ∨ e = tgX (O k))) := by
  unfold tiS onT
  rw [tg_p hk.1]
  by_cases c : A k = ax ∧ (¬ T (tgX (P k)) = 0 ∨ ¬ T (tgX (O k)) = 0)
  · rw [if_pos c]
    show ¬ (if e = tgX (O k) then nI 1 else if e = tgX (P k) then nI 1 else T e) = 0 ↔ _
    by_cases z1 : e = tgX (O k)
    · rw [if_pos z1]; exact ⟨fun _ => Or.inr ⟨c.1, c.2, Or.inr z1⟩, fun _ => by decide⟩
    · rw [if_neg z1]
      by_cases z2 : e = tgX (P k)
      · rw [if_pos z2]; exact ⟨fun _ => Or.inr ⟨c.1, c.2, Or.inl z2⟩, fun _ => by decide⟩
      · rw [if_neg z2]
        exact ⟨Or.inl, fun g => g.elim id fun g => absurd g.2.2 (fun z => z.elim z2 z1)⟩
  · rw [if_neg c]
    exact ⟨Or.inl, fun g => g.elim id fun g => absurd ⟨g.1, g.2.1⟩ c⟩
theorem tiK_mono {A P O : Nat → Int32} {ax : Int32} {T : Nat → Int32} {e : Nat} (h : onT T e) : ∀ k, (∀ j, j < k → mtE P O j) → onT (tiK A P O ax T k) e := by
  intro k
  induction k with
  | zero => intro _; exact h
  | succ k ih => intro hm; exact (tiS_at (hm k (by omega)) e).mpr (Or.inl (ih fun j hj => hm j (by omega)))
/-- closed under the mates along the axis -/
def cls (A P O : Nat → Int32) (ax : Int32) (mc : Nat) (S : Nat → Prop) : Prop := ∀ k, k < mc → A k = ax → (S (tgX (P k)) ↔ S (tgX (O k)))
/-- within each closed set that holds the beginning -/
theorem tiK_in {A P O : Nat → Int32} {ax : Int32} {T : Nat → Int32} {mc : Nat} {S : Nat → Prop} (hS : cls A P O ax mc S) (h : ∀ e, onT T e → S e) : ∀ k, k ≤ mc → (∀ j, j < k → mtE P O j) → ∀ e, onT (tiK A P O ax T k) e → S e := by
  intro k
  induction k with
  | zero => intro _ _ e he; exact h e he
  | succ k ih =>
    intro hk hm e he
    have ih := ih (by omega) fun j hj => hm j (by omega)
    rcases (tiS_at (hm k (by omega)) e).mp he with q | ⟨q1, q2, q3⟩
    · exact ih e q
    · have hc := hS k (by omega) q1
      have hp : S (tgX (P k)) := q2.elim (fun z => ih _ z) (fun z => hc.mpr (ih _ z))
      rcases q3 with z | z
      · rw [z]; exact hp
      · rw [z]; exact hc.mp hp
theorem tiR_in {A P O : Nat → Int32} {ax : Int32} {T : Nat → Int32} {mc : Nat} {S : Nat → Prop} (hm : ∀ j, j < mc → mtE P O j) (hS : cls A P O ax mc S) (h : ∀ e, onT T e → S e) : ∀ r e, onT (tiR A P O ax mc T r) e → S e := by
  intro r
  induction r with
  | zero => exact h
  | succ r ih => exact tiK_in hS ih mc (Nat.le_refl _) hm
theorem tiR_mono {A P O : Nat → Int32} {ax : Int32} {T : Nat → Int32} {mc e : Nat} (hm : ∀ j, j < mc → mtE P O j) (h : onT T e) : ∀ r, onT (tiR A P O ax mc T r) e := by
  intro r
  induction r with
  | zero => exact h
  | succ r ih => exact tiK_mono ih mc hm
/-- a round that adds nothing: the row is closed -/
def stb (A P O : Nat → Int32) (ax : Int32) (mc : Nat) (T : Nat → Int32) : Prop := ∀ e, e < 7 → onT (tiK A P O ax T mc) e → onT T e
theorem tiK_at {A P O : Nat → Int32} {ax : Int32} {T : Nat → Int32} {k : Nat} : ∀ n, k < n → (∀ j, j < n → mtE P O j) → A k = ax → (onT T (tgX (P k)) ∨ onT T (tgX (O k))) → onT (tiK A P O ax T n) (tgX (P k)) ∧ onT (tiK A P O ax T n) (tgX (O k)) := by
  intro n
  induction n with
  | zero => intro h; omega
  | succ n ih =>
    intro hk hm hA hT
    by_cases e : k = n
    · subst e
      have h2 : onT (tiK A P O ax T k) (tgX (P k)) ∨ onT (tiK A P O ax T k) (tgX (O k)) := hT.imp (fun z => tiK_mono z k fun j hj => hm j (by omega)) (fun z => tiK_mono z k fun j hj => hm j (by omega))
      exact ⟨(tiS_at (hm k (by omega)) _).mpr (Or.inr ⟨hA, h2, Or.inl rfl⟩), (tiS_at (hm k (by omega)) _).mpr (Or.inr ⟨hA, h2, Or.inr rfl⟩)⟩
    · obtain ⟨a, b⟩ := ih (by omega) (fun j hj => hm j (by omega)) hA hT
      exact ⟨(tiS_at (hm n (by omega)) _).mpr (Or.inl a), (tiS_at (hm n (by omega)) _).mpr (Or.inl b)⟩
theorem tg7 {P O : Nat → Int32} {k : Nat} (h : mtE P O k) : tgX (P k) < 7 ∧ tgX (O k) < 7 := by
  obtain ⟨⟨p, hp, e⟩, ho⟩ := h
  exact ⟨(el_tg (Or.inr ⟨p, hp, e⟩)).1, (el_tg ho).1⟩
theorem stb_cls {A P O : Nat → Int32} {ax : Int32} {mc : Nat} {T : Nat → Int32} (hm : ∀ j, j < mc → mtE P O j) (h : stb A P O ax mc T) : cls A P O ax mc (onT T) := fun k hk hA => by
  have h7 := tg7 (hm k hk)
  exact ⟨fun z => h _ h7.2 (tiK_at mc hk hm hA (Or.inl z)).2, fun z => h _ h7.1 (tiK_at mc hk hm hA (Or.inr z)).1⟩
theorem stb_all {A P O : Nat → Int32} {ax : Int32} {mc : Nat} {T : Nat → Int32} (hm : ∀ j, j < mc → mtE P O j) (h : cls A P O ax mc (onT T)) : stb A P O ax mc T := fun e _ he => tiK_in h (fun _ z => z) mc (Nat.le_refl _) hm e he
/-- each round is closed, or takes another mate in -/
theorem ab_up {A P O : Nat → Int32} {ax : Int32} {mc : Nat} (hm : ∀ j, j < mc → mtE P O j) (T : Nat → Int32) : ∀ r, stb A P O ax mc (tiR A P O ax mc T r) ∨ r ≤ fb_ct (abs1 A P O ax (tiR A P O ax mc T r)) mc := by
  intro r
  induction r with
  | zero => exact Or.inr (Nat.zero_le _)
  | succ r ih =>
    by_cases hs : stb A P O ax mc (tiR A P O ax mc T r)
    · refine Or.inl (stb_all hm ?_)
      have hc := stb_cls hm hs
      intro k hk hA
      have h7 := tg7 (hm k hk)
      have hb : ∀ e, e < 7 → (onT (tiR A P O ax mc T (r + 1)) e ↔ onT (tiR A P O ax mc T r) e) := fun e he => ⟨fun z => hs e he z, fun z => tiK_mono z mc hm⟩
      rw [hb _ h7.1, hb _ h7.2]
      exact hc k hk hA
    · refine Or.inr ?_
      have ih := ih.resolve_left hs
      have hex : ∃ k, k < mc ∧ A k = ax ∧ ¬ (onT (tiR A P O ax mc T r) (tgX (P k)) ↔ onT (tiR A P O ax mc T r) (tgX (O k))) := Classical.byContradiction fun q => hs (stb_all hm fun k hk hA => Classical.byContradiction fun z => q ⟨k, hk, hA, z⟩)
      obtain ⟨k, hk, hA, hne⟩ := hex
      have hlt : fb_ct (abs1 A P O ax (tiR A P O ax mc T r)) mc < fb_ct (abs1 A P O ax (tiR A P O ax mc T (r + 1))) mc := by
        rw [← cN_ct, ← cN_ct]
        refine cN_lt (i := k) (fun j hj q => ?_) hk (fun q => ?_) ?_
        · have q := of_decide_eq_true q
          exact decide_eq_true ⟨q.1, tiK_mono q.2.1 mc hm, tiK_mono q.2.2 mc hm⟩
        · have q := of_decide_eq_true q
          exact hne ⟨fun _ => q.2.2, fun _ => q.2.1⟩
        · have hor : onT (tiR A P O ax mc T r) (tgX (P k)) ∨ onT (tiR A P O ax mc T r) (tgX (O k)) := Classical.byContradiction fun q => hne ⟨fun z => absurd (Or.inl z) q, fun z => absurd (Or.inr z) q⟩
          exact decide_eq_true ⟨hA, tiK_at mc hk hm hA hor⟩
      omega
theorem stb_mc {A P O : Nat → Int32} {ax : Int32} {mc : Nat} (hm : ∀ j, j < mc → mtE P O j) (T : Nat → Int32) : stb A P O ax mc (tiR A P O ax mc T mc) := by
  rcases ab_up (ax := ax) (A := A) hm T mc with h | h
  · exact h
  · refine stb_all hm fun k hk hA => ?_
    have h2 : fb_ct (abs1 A P O ax (tiR A P O ax mc T mc)) mc = mc := Nat.le_antisymm (fb_ct_le _ _) h
    have h3 := of_decide_eq_true (fb_ct_all.mp h2 k hk)
    exact ⟨fun _ => h3.2.2, fun _ => h3.2.1⟩
theorem ing_p {g : Int32} {T : Nat → Int32} (h : GT g T) {p : Nat} (hp : p < 6) : (¬ g &&& ptb (nI p) = 0) ↔ ¬ T p = 0 := by
  have e : nI p = el p := by unfold el; rw [if_neg (by omega)]
  rw [e]
  exact GT_ing h (by omega)
theorem slN_s (g : Int32) (k : Nat) : slN g (k + 1) = if g &&& ptb (nI k) = 0 then slN g k else slN g k + 1 := by rw [slN]
theorem mvS {mv T : Nat → Int32} {g w : Int32} {a b pc p : Nat} (hpc : pc ≤ 6) (hb : b < 3) (h : GT g T) (hp : p < pc) : mvX (slM mv a g w pc) (nI p) b = if b = a ∧ ¬ T p = 0 then mvX mv (nI p) b + w else mvX mv (nI p) b := by
  unfold mvX
  rw [if_neg (nI_nm1 (by omega)), if_neg (nI_nm1 (by omega)), ntX_nI (by omega)]
  unfold slM
  rw [show (p * 3 + b) % 3 = b by omega, show (p * 3 + b) / 3 = p by omega]
  have e := ing_p h (show p < 6 by omega)
  by_cases c : b = a ∧ ¬ T p = 0
  · rw [if_pos c, if_pos ⟨c.1, hp, e.mpr c.2⟩]
  · rw [if_neg c, if_neg fun z => c ⟨z.1, e.mp z.2.2⟩]
theorem mvX_m (mv : Nat → Int32) (b : Nat) : mvX mv (-1) b = nI 0 := if_pos rfl
theorem cnc (a b w : Int32) : (a + w) - (b + w) = a - b := by
  rw [Int32.sub_eq_add_neg, Int32.neg_add, Int32.sub_eq_add_neg, Int32.add_assoc, Int32.add_comm w, Int32.add_assoc, Int32.add_comm (-w), Int32.add_right_neg, Int32.add_zero, ← Int32.sub_eq_add_neg]
/-- a slide of a closed group without the ground keeps what fits -/
theorem ap_sl {mv T : Nat → Int32} {g w : Int32} {a b pc : Nat} (hpc : pc ≤ 6) (hb : b < 3) (h : GT g T) (h6 : T 6 = 0) {x y : Int32} (hx : ∃ p, p < pc ∧ x = nI p) (hy : y = -1 ∨ ∃ p, p < pc ∧ y = nI p) (hc : b = a → (onT T (tgX x) ↔ onT T (tgX y))) : apX (slM mv a g w pc) b x y = apX mv b x y := by
  obtain ⟨p, hp, rfl⟩ := hx
  have tp : ∀ p, p < pc → tgX (nI p) = p := fun p hp => by unfold tgX; rw [if_neg (nI_nm1 (by omega)), ntX_nI (by omega)]
  rw [tp p hp] at hc
  unfold apX
  rw [mvS hpc hb h hp]
  rcases hy with rfl | ⟨r, hr, rfl⟩
  · rw [mvX_m, mvX_m]
    by_cases c : b = a ∧ ¬ T p = 0
    · exact absurd h6 ((hc c.1).mp c.2)
    · rw [if_neg c]
  · rw [tp r hr] at hc
    rw [mvS hpc hb h hr]
    by_cases c : b = a ∧ ¬ T p = 0
    · rw [if_pos c, if_pos ⟨c.1, (hc c.1).mp c.2⟩]; exact cnc _ _ _
    · rw [if_neg c, if_neg fun z => c ⟨z.1, (hc z.1).mpr z.2⟩]
theorem fit_i {M : Mm} {mc : Nat} : fitX M mc = true ↔ ∀ k, k < mc → apX (mI M 34) (ntX (mI M 35 k)) (mI M 36 k) (mI M 37 k) = mI M 38 k := by
  unfold fitX
  rw [List.all_eq_true]
  exact ⟨fun h k hk => of_decide_eq_true (h k (List.mem_range.mpr hk)), fun h k hk => decide_eq_true (h k (List.mem_range.mp hk))⟩
theorem fit_c {M M' : Mm} {mc pc : Nat} (h35 : mI M' 35 = mI M 35) (h36 : mI M' 36 = mI M 36) (h37 : mI M' 37 = mI M 37) (h38 : mI M' 38 = mI M 38) (hap : ∀ k, k < mc → apX (mI M' 34) (ntX (mI M 35 k)) (mI M 36 k) (mI M 37 k) = apX (mI M 34) (ntX (mI M 35 k)) (mI M 36 k) (mI M 37 k)) (h : fitX M mc = true) : fitX M' mc = true := by
  rw [fit_i] at *
  intro k hk
  rw [h35, h36, h37, h38, hap k hk]; exact h k hk
theorem fit_n1 (A B d : Int32) : (A + (d - (A - B))) - B = d := by
  have : (A + (d - (A - B))) - B = d + (A + -A) + (B + -B) := by
    simp only [Int32.sub_eq_add_neg, Int32.neg_add, Int32.neg_neg]
    ac_rfl
  rw [this, Int32.add_right_neg, Int32.add_right_neg, Int32.add_zero, Int32.add_zero]
theorem fit_n2 (A B d : Int32) : A - (B + -(d - (A - B))) = d := by
  have : A - (B + -(d - (A - B))) = d + (A + -A) + (B + -B) := by
    simp only [Int32.sub_eq_add_neg, Int32.neg_add, Int32.neg_neg]
    ac_rfl
  rw [this, Int32.add_right_neg, Int32.add_right_neg, Int32.add_zero, Int32.add_zero]
/-! parts and mates, of the class alone -/
theorem CP_hm {M : Mm} {pc mc : Nat} (q : CP M pc mc) : ∀ j, j < mc → mtE (mI M 36) (mI M 37) j := fun j hj => by
  obtain ⟨⟨p1, p2⟩, p3, p4, p5⟩ := q
  obtain ⟨-, ⟨p, hp, e5⟩, e6⟩ := p4 j hj
  exact ⟨⟨p, by omega, e5⟩, e6.imp id fun ⟨r, hr, e⟩ => ⟨r, by omega, e⟩⟩
/-- the parts tied to p along an axis -/
def tyC (M : Mm) (mc : Nat) (ax : Int32) (p : Nat) : Nat → Int32 := tiR (mI M 35) (mI M 36) (mI M 37) ax mc (st0 (fun _ => nI 0) p) mc
theorem grp_C {M : Mm} {pc mc : Nat} (q : CP M pc mc) {p : Nat} (hp : p < 6) (ax : Int32) : GT (grp M mc ax (nI p)) (tyC M mc ax p) ∧ cls (mI M 35) (mI M 36) (mI M 37) ax mc (onT (tyC M mc ax p)) ∧ onT (tyC M mc ax p) p := by
  have hm := CP_hm q
  refine ⟨GT_r (A := mI M 35) (ax := ax) (mc := mc) hm (GT_0 hp (fun _ => nI 0)) mc, stb_cls hm (stb_mc (A := mI M 35) (ax := ax) hm (st0 (fun _ => nI 0) p)), ?_⟩
  refine tiR_mono hm ?_ mc
  show ¬ st0 (fun _ => nI 0) p p = 0
  unfold st0
  rw [cpR_lt _ _ (by omega), if_pos rfl]; decide
theorem td_C {M : Mm} {pc mc : Nat} (q : CP M pc mc) {p : Nat} (hp : p < 6) (ax : Int32) {y : Int32} (hy : y = -1 ∨ ∃ p, p < 6 ∧ y = nI p) : tdX M mc ax (nI p) y = true ↔ ¬ tyC M mc ax p (tgX y) = 0 := by
  obtain ⟨h7, e⟩ := el_tg hy
  have h := GT_ing (grp_C q hp ax).1 h7
  rw [← e] at h
  unfold tdX
  rw [decide_eq_true_iff]
  exact h
theorem ty_in {M : Mm} {pc mc : Nat} (q : CP M pc mc) {ax : Int32} {p : Nat} {S : Nat → Prop} (hS : cls (mI M 35) (mI M 36) (mI M 37) ax mc S) (h : S p) : ∀ e, e < 7 → onT (tyC M mc ax p) e → S e := by
  have hm := CP_hm q
  intro e he ht
  refine tiR_in (S := fun e => e < 7 → S e) hm (fun k hk hA => ?_) (fun e2 h2 h7 => ?_) mc e ht he
  · have h7 := tg7 (hm k hk)
    exact ⟨fun z _ => (hS k hk hA).mp (z h7.1), fun z _ => (hS k hk hA).mpr (z h7.2)⟩
  · have h2 : ¬ st0 (fun _ => nI 0) p e2 = 0 := h2
    unfold st0 at h2
    rw [cpR_lt _ _ h7] at h2
    by_cases z : e2 = p
    · rw [z]; exact h
    · rw [if_neg z] at h2; exact absurd rfl h2
/-- the mates that stand fit after a slide too -/
theorem fit_sC {M : Mm} {pc mc a : Nat} (q : CP M pc mc) {T : Nat → Int32} {g w : Int32} (h : GT g T) (h6 : T 6 = 0) (hcl : cls (mI M 35) (mI M 36) (mI M 37) (nI a) mc (onT T)) : ∀ k, k < mc → apX (slM (mI M 34) a g w pc) (ntX (mI M 35 k)) (mI M 36 k) (mI M 37 k) = mI M 38 k := by
  intro k hk
  obtain ⟨⟨p1, p2⟩, p3, p4, p5⟩ := q
  obtain ⟨⟨b, hb, e4⟩, e5, e6⟩ := p4 k hk
  rw [← fit_i.mp p5 k hk, e4, ntX_nI (by omega)]
  refine ap_sl p2 hb h h6 e5 e6 fun z => hcl k hk ?_
  rw [e4, z]
theorem CP_mv {M M' : Mm} {pc mc : Nat} (q : CP M pc mc) (h5 : mI M' 5 = mI M 5) (h : ∀ t, 35 ≤ t ∧ t ≤ 38 → mI M' t = mI M t) (hf : ∀ k, k < mc → apX (mI M' 34) (ntX (mI M 35 k)) (mI M 36 k) (mI M 37 k) = mI M 38 k) : CP M' pc mc := by
  obtain ⟨q1, q2, q3, q4⟩ := q
  refine ⟨by rw [h5]; exact q1, by rw [h5]; exact q2, by rw [h 35 (by omega), h 36 (by omega), h 37 (by omega)]; exact q3, ?_⟩
  rw [fit_i, h 35 (by omega), h 36 (by omega), h 37 (by omega), h 38 (by omega)]
  exact hf
theorem CP_drag {M : Mm} {pc mc a p : Nat} {w : Int32} (q : CP M pc mc) (hp : p < pc) (htd : tdX M mc (nI a) (nI p) (-1) = false) : CP (sI M 34 (slM (mI M 34) a (grp M mc (nI a) (nI p)) w pc)) pc mc := by
  have p6 := q.1.2
  have hG := grp_C q (show p < 6 by omega) (nI a)
  have h6 : tyC M mc (nI a) p 6 = 0 := Classical.byContradiction fun z => by
    have := (td_C q (show p < 6 by omega) (nI a) (y := -1) (Or.inl rfl)).mpr z
    rw [htd] at this; exact absurd this (by decide)
  refine CP_mv q (by rw [mI_sI, if_neg (by decide)]) (fun t ht => by rw [mI_sI, if_neg (by omega)]) ?_
  rw [mI_sI, if_pos rfl]
  exact fit_sC q hG.1 h6 hG.2.1
theorem CP_add {M : Mm} {pc mc : Nat} {x y z : Int32} (q : CP M pc mc) (hpc : pc < 6) : CP (sI (sI M 34 (upd (upd (upd (mI M 34) (pc * 3) x) (pc * 3 + 1) y) (pc * 3 + 2) z)) 5 (upd (mI M 5) 2 (nI (pc + 1)))) (pc + 1) mc := by
  obtain ⟨p1, p2, p3, p4⟩ := q
  have e34 : mI (sI (sI M 34 (upd (upd (upd (mI M 34) (pc * 3) x) (pc * 3 + 1) y) (pc * 3 + 2) z)) 5 (upd (mI M 5) 2 (nI (pc + 1)))) 34 = upd (upd (upd (mI M 34) (pc * 3) x) (pc * 3 + 1) y) (pc * 3 + 2) z := by rw [mI_sI, if_neg (by decide), mI_sI, if_pos rfl]
  have e5 : mI (sI (sI M 34 (upd (upd (upd (mI M 34) (pc * 3) x) (pc * 3 + 1) y) (pc * 3 + 2) z)) 5 (upd (mI M 5) 2 (nI (pc + 1)))) 5 = upd (mI M 5) 2 (nI (pc + 1)) := by rw [mI_sI, if_pos rfl]
  have et : ∀ t, 35 ≤ t ∧ t ≤ 38 → mI (sI (sI M 34 (upd (upd (upd (mI M 34) (pc * 3) x) (pc * 3 + 1) y) (pc * 3 + 2) z)) 5 (upd (mI M 5) 2 (nI (pc + 1)))) t = mI M t := fun t ht => by rw [mI_sI, if_neg (by omega), mI_sI, if_neg (by omega)]
  refine ⟨⟨by rw [e5, upd_at, if_pos rfl], by omega⟩, ⟨by rw [e5, upd_at, if_neg (by decide)]; exact p2.1, p2.2⟩, fun k hk => ?_, ?_⟩
  · rw [et 35 (by omega), et 36 (by omega), et 37 (by omega)]
    obtain ⟨e4, ⟨p, hp, e5⟩, e6⟩ := p3 k hk
    exact ⟨e4, ⟨p, by omega, e5⟩, e6.imp id fun ⟨r, hr, e⟩ => ⟨r, by omega, e⟩⟩
  · refine fit_c (pc := pc) (et 35 (by omega)) (et 36 (by omega)) (et 37 (by omega)) (et 38 (by omega)) (fun k hk => ?_) p4
    obtain ⟨⟨a, ha, e4⟩, ⟨p, hp, e5⟩, e6⟩ := p3 k hk
    rw [e34]
    have hm : ∀ r b, r < pc → b < 3 → mvX (upd (upd (upd (mI M 34) (pc * 3) x) (pc * 3 + 1) y) (pc * 3 + 2) z) (nI r) b = mvX (mI M 34) (nI r) b := fun r b hr hb => by
      unfold mvX
      rw [if_neg (nI_nm1 (by omega)), if_neg (nI_nm1 (by omega)), ntX_nI (by omega), upd_at, upd_at, upd_at, if_neg (by omega), if_neg (by omega), if_neg (by omega)]
    unfold apX
    rw [e4, ntX_nI (by omega), e5, hm p a hp ha]
    rcases e6 with e6 | ⟨r, hr, e6⟩
    · rw [e6, mvX_m, mvX_m]
    · rw [e6, hm r a hr ha]
theorem CP_mate {M : Mm} {pc mc a p : Nat} {y d : Int32} (q : CP M pc mc) (hmc : mc < 12) (ha : a < 3) (hp : p < pc) (hy : y = -1 ∨ ∃ r, r < pc ∧ y = nI r) (htd : tdX M mc (nI a) (nI p) y = false) : CP (tieM M pc mc a (nI p) y d (tdX M mc (nI a) (nI p) (-1))) pc (mc + 1) ∧ apX (mI (tieM M pc mc a (nI p) y d (tdX M mc (nI a) (nI p) (-1))) 34) a (nI p) y = d := by
  have p6 := q.1.2
  have hy6 : y = -1 ∨ ∃ r, r < 6 ∧ y = nI r := hy.imp id fun ⟨r, hr, e⟩ => ⟨r, by omega, e⟩
  have hG := grp_C q (show p < 6 by omega) (nI a)
  have hyT : tyC M mc (nI a) p (tgX y) = 0 := Classical.byContradiction fun z => by
    have := (td_C q (show p < 6 by omega) (nI a) hy6).mpr z
    rw [htd] at this; exact absurd this (by decide)
  have ht6 := td_C q (show p < 6 by omega) (nI a) (y := -1) (Or.inl rfl)
  generalize hheld : tdX M mc (nI a) (nI p) (-1) = held at *
  have e34 : mI (tieM M pc mc a (nI p) y d held) 34 = slM (mI M 34) a (tieG M mc a (nI p) y held) (tieB M a (nI p) y d held) pc := rfl
  have e35 : mI (tieM M pc mc a (nI p) y d held) 35 = upd (mI M 35) mc (nI a) := rfl
  have e36 : mI (tieM M pc mc a (nI p) y d held) 36 = upd (mI M 36) mc (nI p) := rfl
  have e37 : mI (tieM M pc mc a (nI p) y d held) 37 = upd (mI M 37) mc y := rfl
  have e38 : mI (tieM M pc mc a (nI p) y d held) 38 = upd (mI M 38) mc d := rfl
  have e5 : mI (tieM M pc mc a (nI p) y d held) 5 = upd (mI M 5) 3 (nI (mc + 1)) := rfl
  -- what moves, and that it fits
  have hT : ∃ T, GT (tieG M mc a (nI p) y held) T ∧ T 6 = 0 ∧ cls (mI M 35) (mI M 36) (mI M 37) (nI a) mc (onT T) ∧ apX (slM (mI M 34) a (tieG M mc a (nI p) y held) (tieB M a (nI p) y d held) pc) a (nI p) y = d := by
    by_cases hh : held = true
    · have h6 := ht6.mp hh
      have hyr : ∃ r, r < pc ∧ y = nI r := hy.resolve_left fun z => by rw [z] at hyT; exact h6 hyT
      obtain ⟨r, hr, e⟩ := hyr
      have htr : tgX y = r := by rw [e]; unfold tgX; rw [if_neg (nI_nm1 (by omega)), ntX_nI (by omega)]
      have hcl : cls (mI M 35) (mI M 36) (mI M 37) (nI a) mc (fun e => ¬ onT (tyC M mc (nI a) p) e) := fun k hk hA => not_congr (hG.2.1 k hk hA)
      have hin := ty_in q (p := r) hcl (by rw [htr] at hyT; exact fun z => z hyT)
      have hG2 := grp_C q (show r < 6 by omega) (nI a)
      have e2 : tieG M mc a (nI p) y held = grp M mc (nI a) (nI r) := by unfold tieG; rw [if_pos hh, e]
      have tp : tyC M mc (nI a) r p = 0 := Classical.byContradiction fun z => hin p (by omega) z hG.2.2
      refine ⟨tyC M mc (nI a) r, by rw [e2]; exact hG2.1, Classical.byContradiction fun z => hin 6 (by decide) z h6, hG2.2.1, ?_⟩
      rw [e2, e]
      unfold apX
      rw [mvS p6 ha hG2.1 hp, mvS p6 ha hG2.1 hr, if_neg (fun z => z.2 tp), if_pos ⟨rfl, hG2.2.2⟩]
      unfold tieB
      rw [if_pos hh]
      unfold apX
      exact fit_n2 _ _ _
    · have e2 : tieG M mc a (nI p) y held = grp M mc (nI a) (nI p) := by unfold tieG; rw [if_neg hh]
      have t6 : tyC M mc (nI a) p 6 = 0 := Classical.byContradiction fun z => hh (ht6.mpr z)
      refine ⟨tyC M mc (nI a) p, by rw [e2]; exact hG.1, t6, hG.2.1, ?_⟩
      rw [e2]
      unfold apX
      rw [mvS p6 ha hG.1 hp, if_pos ⟨rfl, hG.2.2⟩]
      have ey : mvX (slM (mI M 34) a (grp M mc (nI a) (nI p)) (tieB M a (nI p) y d held) pc) y a = mvX (mI M 34) y a := by
        rcases hy with e | ⟨r, hr, e⟩
        · rw [e, mvX_m, mvX_m]
        · have htr : tgX y = r := by rw [e]; unfold tgX; rw [if_neg (nI_nm1 (by omega)), ntX_nI (by omega)]
          rw [htr] at hyT
          rw [e, mvS p6 ha hG.1 hr, if_neg (fun z => z.2 hyT)]
      rw [ey]
      unfold tieB
      rw [if_neg hh]
      unfold apX
      exact fit_n1 _ _ _
  obtain ⟨T, t1, t2, t3, t4⟩ := hT
  refine ⟨?_, by rw [e34]; exact t4⟩
  have hf := fit_sC (w := tieB M a (nI p) y d held) q t1 t2 t3
  obtain ⟨q1, q2, q3, q4⟩ := q
  have u : ∀ (f : Nat → Int32) (v : Int32) k, k < mc → upd f mc v k = f k := fun f v k hk => by rw [upd_at, if_neg (by omega)]
  have w : ∀ (f : Nat → Int32) (v : Int32), upd f mc v mc = v := fun f v => by rw [upd_at, if_pos rfl]
  refine ⟨⟨by rw [e5, upd_at, if_neg (by decide)]; exact q1.1, p6⟩, ⟨by rw [e5, upd_at, if_pos rfl], by omega⟩, fun k hk => ?_, ?_⟩
  · rw [e35, e36, e37]
    by_cases e : k = mc
    · rw [e, w, w, w]
      exact ⟨⟨a, ha, rfl⟩, ⟨p, hp, rfl⟩, hy⟩
    · have hk : k < mc := by omega
      rw [u _ _ k hk, u _ _ k hk, u _ _ k hk]
      exact q3 k hk
  · rw [fit_i]
    intro k hk
    rw [e34, e35, e36, e37, e38]
    by_cases e : k = mc
    · rw [e, w, w, w, w, ntX_nI (by omega)]; exact t4
    · have hk : k < mc := by omega
      rw [u _ _ k hk, u _ _ k hk, u _ _ k hk, u _ _ k hk]; exact hf k hk
