/-! ties: the class's bits and the model's row are the same group -/
/-- is x (a part, or -1 the ground) in a group of bits -/
def ing (g x : Int32) : Prop := ¬ g &&& ptb x = 0
def el (e : Nat) : Int32 := if e = 6 then -1 else nI e
theorem ptb_el : ∀ e, e < 7 → ptb (el e) = nI (2 ^ (if e = 6 then 0 else e + 1)) := by decide +kernel
theorem el_tg {x : Int32} (h : x = -1 ∨ ∃ p, p < 6 ∧ x = nI p) : tgX x < 7 ∧ x = el (tgX x) := by
  unfold tgX el
  rcases h with rfl | ⟨p, hp, rfl⟩
  · exact ⟨by decide, by decide⟩
  · rw [if_neg (nI_nm1 (by omega)), ntX_nI (by omega), if_neg (by omega)]
    exact ⟨by omega, rfl⟩
/-- the numbers under 128 -/
def bt7 (e : Nat) : Nat := if e = 6 then 0 else e + 1
theorem bt7_lt {e : Nat} (h : e < 7) : bt7 e < 7 := by unfold bt7; split <;> omega
theorem bt7_inj {e e2 : Nat} (h : e < 7) (h2 : e2 < 7) (q : bt7 e = bt7 e2) : e = e2 := by unfold bt7 at q; split at q <;> split at q <;> omega
theorem ing_n {m e : Nat} (hm : m < 128) (he : e < 7) : ing (nI m) (el e) ↔ m.testBit (bt7 e) = true := by
  unfold ing
  rw [ptb_el e he, nI_and]
  have hl : m &&& 2 ^ bt7 e < 128 := Nat.lt_of_le_of_lt Nat.and_le_left hm
  show ¬ nI (m &&& 2 ^ bt7 e) = nI 0 ↔ _
  rw [nI_eq (by omega) (by decide), fb_bit_nat, Bool.not_eq_false]
/-- a group of bits and a row of marks hold the same -/
def GT (g : Int32) (T : Nat → Int32) : Prop := ∃ m, m < 128 ∧ g = nI m ∧ ∀ e, e < 7 → (m.testBit (bt7 e) = true ↔ ¬ T e = 0)
theorem or128 {a b : Nat} (ha : a < 128) (hb : b < 128) : a ||| b < 128 := Nat.or_lt_two_pow (n := 7) ha hb
theorem GT_ing {g : Int32} {T : Nat → Int32} (h : GT g T) {e : Nat} (he : e < 7) : ing g (el e) ↔ ¬ T e = 0 := by
  obtain ⟨m, hm, rfl, q⟩ := h
  rw [ing_n hm he, q e he]
theorem pw_lt {e : Nat} (he : e < 7) : 2 ^ bt7 e < 128 := Nat.pow_lt_pow_right (by decide) (bt7_lt he)
theorem GT_0 {p : Nat} (hp : p < 6) (r : Nat → Int32) : GT (ptb (nI p)) (st0 r p) := by
  have e : nI p = el p := by unfold el; rw [if_neg (by omega)]
  refine ⟨2 ^ bt7 p, pw_lt (by omega), by rw [e, ptb_el p (by omega)]; rfl, fun d hd => ?_⟩
  unfold st0
  rw [cpR_lt _ _ hd, Nat.testBit_two_pow, decide_eq_true_iff]
  constructor
  · intro q
    rw [if_pos (bt7_inj hd (by omega) q.symm)]; decide
  · intro q
    by_cases z : d = p
    · rw [z]
    · rw [if_neg z] at q; exact absurd rfl q
/-- the mates' parts, as elements -/
def mtE (P O : Nat → Int32) (k : Nat) : Prop := (∃ p, p < 6 ∧ P k = nI p) ∧ (O k = -1 ∨ ∃ p, p < 6 ∧ O k = nI p)
theorem GT_s {A P O : Nat → Int32} {ax g : Int32} {T : Nat → Int32} {k : Nat} (hk : mtE P O k) (h : GT g T) : GT (gS A P O ax g k) (tiS A P O ax T k) := by
  obtain ⟨⟨p, hp, ep⟩, ho⟩ := hk
  obtain ⟨o7, eo⟩ := el_tg ho
  have ep2 : P k = el p := by rw [ep]; unfold el; rw [if_neg (by omega)]
  have hnt : ntX (P k) = p := by rw [ep, ntX_nI (by omega)]
  obtain ⟨m, hm, rfl, q⟩ := h
  have hpb : ptb (P k) = nI (2 ^ bt7 p) := by rw [ep2, ptb_el p (by omega)]; rfl
  have hob : ptb (O k) = nI (2 ^ bt7 (tgX (O k))) := by
    have := ptb_el _ o7
    rw [← eo] at this
    exact this
  unfold gS tiS
  rw [hpb, hob, hnt, nI_or, nI_and, nI_or]
  generalize tgX (O k) = o at *
  have hc : ¬ nI (m &&& (2 ^ bt7 p ||| 2 ^ bt7 o)) = 0 ↔ ¬ T p = 0 ∨ ¬ T o = 0 := by
    have hl : m &&& (2 ^ bt7 p ||| 2 ^ bt7 o) < 128 := Nat.lt_of_le_of_lt Nat.and_le_left hm
    rw [← q p (by omega), ← q o o7]
    show ¬ nI _ = nI 0 ↔ _
    rw [nI_eq (by omega) (by decide), Nat.and_or_distrib_left, Nat.or_eq_zero_iff, fb_bit_nat, fb_bit_nat]
    cases m.testBit (bt7 p) <;> cases m.testBit (bt7 o) <;> decide
  by_cases c : A k = ax ∧ ¬ nI (m &&& (2 ^ bt7 p ||| 2 ^ bt7 o)) = 0
  · rw [if_pos c, if_pos ⟨c.1, hc.mp c.2⟩]
    refine ⟨_, or128 hm (or128 (pw_lt (by omega)) (pw_lt o7)), rfl, fun e he => ?_⟩
    rw [Nat.testBit_or, Nat.testBit_or, Nat.testBit_two_pow, Nat.testBit_two_pow, Bool.or_eq_true, Bool.or_eq_true, decide_eq_true_iff, decide_eq_true_iff, q e he]
    show _ ↔ ¬ (if e = o then nI 1 else if e = p then nI 1 else T e) = 0
    by_cases z1 : e = o
    · rw [if_pos z1, z1]; exact ⟨fun _ => by decide, fun _ => Or.inr (Or.inr rfl)⟩
    · rw [if_neg z1]
      by_cases z2 : e = p
      · rw [if_pos z2, z2]; exact ⟨fun _ => by decide, fun _ => Or.inr (Or.inl rfl)⟩
      · rw [if_neg z2]
        refine ⟨fun g => g.elim id fun g => g.elim (fun g => absurd (bt7_inj he (by omega) g.symm) z2) (fun g => absurd (bt7_inj he o7 g.symm) z1), Or.inl⟩
  · rw [if_neg c, if_neg fun z => c ⟨z.1, hc.mpr z.2⟩]
    exact ⟨m, hm, rfl, q⟩
theorem GT_k {A P O : Nat → Int32} {ax g : Int32} {T : Nat → Int32} (h : GT g T) : ∀ k, (∀ j, j < k → mtE P O j) → GT (grK A P O ax k g) (tiK A P O ax T k) := by
  intro k
  induction k with
  | zero => intro _; exact h
  | succ k ih => intro hm; exact GT_s (hm k (by omega)) (ih fun j hj => hm j (by omega))
theorem GT_r {A P O : Nat → Int32} {ax g : Int32} {T : Nat → Int32} {mc : Nat} (hm : ∀ j, j < mc → mtE P O j) (h : GT g T) : ∀ r, GT (grR A P O ax mc r g) (tiR A P O ax mc T r) := by
  intro r
  induction r with
  | zero => exact h
  | succ r ih => exact GT_k ih mc hm
/-! a group is complete after as many rounds as there are mates -/
/-- x is in the row -/
abbrev onT (T : Nat → Int32) (e : Nat) : Prop := ¬ T e = 0
def abs1 (A P O : Nat → Int32) (ax : Int32) (T : Nat → Int32) (k : Nat) : Bool := decide (A k = ax ∧ onT T (tgX (P k)) ∧ onT T (tgX (O k)))
theorem tg_p {P : Nat → Int32} {k : Nat} (h : ∃ p, p < 6 ∧ P k = nI p) : ntX (P k) = tgX (P k) := by
  obtain ⟨p, hp, e⟩ := h
  unfold tgX
  rw [e, if_neg (nI_nm1 (by omega))]
theorem tiS_at {A P O : Nat → Int32} {ax : Int32} {T : Nat → Int32} {k : Nat} (hk : mtE P O k) (e : Nat) : onT (tiS A P O ax T k) e ↔ onT T e ∨ (A k = ax ∧ (onT T (tgX (P k)) ∨ onT T (tgX (O k))) ∧ (e = tgX (P k) ∨ e = tgX (O k))) := by
  unfold tiS onT
  rw [tg_p hk.1]
  by_cases c : A k = ax ∧ (¬ T (tgX (P k)) = 0 ∨ ¬ T (tgX (O k)) = 0)
  · rw [if_pos c]
    show ¬ (if e = tgX (O k) then nI 1 else if e = tgX (P k) then nI 1 else T e) = 0 ↔ _
    by_cases z1 : e = tgX (O k)
    · rw [if_pos z1]; exact ⟨fun _ => Or.inr ⟨c.1, c.2, Or.inr z1⟩, fun _ => by decide⟩
    · rw [if_neg z1]
      by_cases z2 : e = tgX (P k)
      · rw [if_pos z2]; exact ⟨fun _ => Or.inr ⟨c.1, c.2, Or.inl z2⟩, fun _ => by decide⟩
      · rw [if_neg z2]
        exact ⟨Or.inl, fun g => g.elim id fun g => absurd g.2.2 (fun z => z.elim z2 z1)⟩
  · rw [if_neg c]
    exact ⟨Or.inl, fun g => g.elim id fun g => absurd ⟨g.1, g.2.1⟩ c⟩
theorem tiK_mono {A P O : Nat → Int32} {ax : Int32} {T : Nat → Int32} {e : Nat} (h : onT T e) : ∀ k, (∀ j, j < k → mtE P O j) → onT (tiK A P O ax T k) e := by
  intro k
  induction k with
  | zero => intro _; exact h
  | succ k ih => intro hm; exact (tiS_at (hm k (by omega)) e).mpr (Or.inl (ih fun j hj => hm j (by omega)))
/-- closed under the mates along the axis -/
def cls (A P O : Nat → Int32) (ax : Int32) (mc : Nat) (S : Nat → Prop) : Prop := ∀ k, k < mc → A k = ax → (S (tgX (P k)) ↔ S (tgX (O k)))
/-- within each closed set that holds the beginning -/
theorem tiK_in {A P O : Nat → Int32} {ax : Int32} {T : Nat → Int32} {mc : Nat} {S : Nat → Prop} (hS : cls A P O ax mc S) (h : ∀ e, onT T e → S e) : ∀ k, k ≤ mc → (∀ j, j < k → mtE P O j) → ∀ e, onT (tiK A P O ax T k) e → S e := by
  intro k
  induction k with
  | zero => intro _ _ e he; exact h e he
  | succ k ih =>
    intro hk hm e he
    have ih := ih (by omega) fun j hj => hm j (by omega)
    rcases (tiS_at (hm k (by omega)) e).mp he with q | ⟨q1, q2, q3⟩
    · exact ih e q
    · have hc := hS k (by omega) q1
      have hp : S (tgX (P k)) := q2.elim (fun z => ih _ z) (fun z => hc.mpr (ih _ z))
      rcases q3 with z | z
      · rw [z]; exact hp
      · rw [z]; exact hc.mp hp
theorem tiR_in {A P O : Nat → Int32} {ax : Int32} {T : Nat → Int32} {mc : Nat} {S : Nat → Prop} (hm : ∀ j, j < mc → mtE P O j) (hS : cls A P O ax mc S) (h : ∀ e, onT T e → S e) : ∀ r e, onT (tiR A P O ax mc T r) e → S e := by
  intro r
  induction r with
  | zero => exact h
  | succ r ih => exact tiK_in hS ih mc (Nat.le_refl _) hm
theorem tiR_mono {A P O : Nat → Int32} {ax : Int32} {T : Nat → Int32} {mc e : Nat} (hm : ∀ j, j < mc → mtE P O j) (h : onT T e) : ∀ r, onT (tiR A P O ax mc T r) e := by
  intro r
  induction r with
  | zero => exact h
  | succ r ih => exact tiK_mono ih mc hm
/-- a round that adds nothing: the row is closed -/
def stb (A P O : Nat → Int32) (ax : Int32) (mc : Nat) (T : Nat → Int32) : Prop := ∀ e, e < 7 → onT (tiK A P O ax T mc) e → onT T e
theorem tiK_at {A P O : Nat → Int32} {ax : Int32} {T : Nat → Int32} {k : Nat} : ∀ n, k < n → (∀ j, j < n → mtE P O j) → A k = ax → (onT T (tgX (P k)) ∨ onT T (tgX (O k))) → onT (tiK A P O ax T n) (tgX (P k)) ∧ onT (tiK A P O ax T n) (tgX (O k)) := by
  intro n
  induction n with
  | zero => intro h; omega
  | succ n ih =>
    intro hk hm hA hT
    by_cases e : k = n
    · subst e
      have h2 : onT (tiK A P O ax T k) (tgX (P k)) ∨ onT (tiK A P O ax T k) (tgX (O k)) := hT.imp (fun z => tiK_mono z k fun j hj => hm j (by omega)) (fun z => tiK_mono z k fun j hj => hm j (by omega))
      exact ⟨(tiS_at (hm k (by omega)) _).mpr (Or.inr ⟨hA, h2, Or.inl rfl⟩), (tiS_at (hm k (by omega)) _).mpr (Or.inr ⟨hA, h2, Or.inr rfl⟩)⟩
    · obtain ⟨a, b⟩ := ih (by omega) (fun j hj => hm j (by omega)) hA hT
      exact ⟨(tiS_at (hm n (by omega)) _).mpr (Or.inl a), (tiS_at (hm n (by omega)) _).mpr (Or.inl b)⟩
theorem tg7 {P O : Nat → Int32} {k : Nat} (h : mtE P O k) : tgX (P k) < 7 ∧ tgX (O k) < 7 := by
  obtain ⟨⟨p, hp, e⟩, ho⟩ := h
  exact ⟨(el_tg (Or.inr ⟨p, hp, e⟩)).1, (el_tg ho).1⟩
theorem stb_cls {A P O : Nat → Int32} {ax : Int32} {mc : Nat} {T : Nat → Int32} (hm : ∀ j, j < mc → mtE P O j) (h : stb A P O ax mc T) : cls A P O ax mc (onT T) := fun k hk hA => by
  have h7 := tg7 (hm k hk)
  exact ⟨fun z => h _ h7.2 (tiK_at mc hk hm hA (Or.inl z)).2, fun z => h _ h7.1 (tiK_at mc hk hm hA (Or.inr z)).1⟩
theorem stb_all {A P O : Nat → Int32} {ax : Int32} {mc : Nat} {T : Nat → Int32} (hm : ∀ j, j < mc → mtE P O j) (h : cls A P O ax mc (onT T)) : stb A P O ax mc T := fun e _ he => tiK_in h (fun _ z => z) mc (Nat.le_refl _) hm e he
/-- each round is closed, or takes another mate in -/
theorem ab_up {A P O : Nat → Int32} {ax : Int32} {mc : Nat} (hm : ∀ j, j < mc → mtE P O j) (T : Nat → Int32) : ∀ r, stb A P O ax mc (tiR A P O ax mc T r) ∨ r ≤ fb_ct (abs1 A P O ax (tiR A P O ax mc T r)) mc := by
  intro r
  induction r with
  | zero => exact Or.inr (Nat.zero_le _)
  | succ r ih =>
    by_cases hs : stb A P O ax mc (tiR A P O ax mc T r)
    · refine Or.inl (stb_all hm ?_)
      have hc := stb_cls hm hs
      intro k hk hA
      have h7 := tg7 (hm k hk)
      have hb : ∀ e, e < 7 → (onT (tiR A P O ax mc T (r + 1)) e ↔ onT (tiR A P O ax mc T r) e) := fun e he => ⟨fun z => hs e he z, fun z => tiK_mono z mc hm⟩
      rw [hb _ h7.1, hb _ h7.2]
      exact hc k hk hA
    · refine Or.inr ?_
      have ih := ih.resolve_left hs
      have hex : ∃ k, k < mc ∧ A k = ax ∧ ¬ (onT (tiR A P O ax mc T r) (tgX (P k)) ↔ onT (tiR A P O ax mc T r) (tgX (O k))) := Classical.byContradiction fun q => hs (stb_all hm fun k hk hA => Classical.byContradiction fun z => q ⟨k, hk, hA, z⟩)
      obtain ⟨k, hk, hA, hne⟩ := hex
      have hlt : fb_ct (abs1 A P O ax (tiR A P O ax mc T r)) mc < fb_ct (abs1 A P O ax (tiR A P O ax mc T (r + 1))) mc := by
        rw [← cN_ct, ← cN_ct]
        refine cN_lt (i := k) (fun j hj q => ?_) hk (fun q => ?_) ?_
        · have q := of_decide_eq_true q
          exact decide_eq_true ⟨q.1, tiK_mono q.2.1 mc hm, tiK_mono q.2.2 mc hm⟩
        · have q := of_decide_eq_true q
          exact hne ⟨fun _ => q.2.2, fun _ => q.2.1⟩
        · have hor : onT (tiR A P O ax mc T r) (tgX (P k)) ∨ onT (tiR A P O ax mc T r) (tgX (O k)) := Classical.byContradiction fun q => hne ⟨fun z => absurd (Or.inl z) q, fun z => absurd (Or.inr z) q⟩
          exact decide_eq_true ⟨hA, tiK_at mc hk hm hA hor⟩
      omega
theorem stb_mc {A P O : Nat → Int32} {ax : Int32} {mc : Nat} (hm : ∀ j, j < mc → mtE P O j) (T : Nat → Int32) : stb A P O ax mc (tiR A P O ax mc T mc) := by
  rcases ab_up (ax := ax) (A := A) hm T mc with h | h
  · exact h
  · refine stb_all hm fun k hk hA => ?_
    have h2 : fb_ct (abs1 A P O ax (tiR A P O ax mc T mc)) mc = mc := Nat.le_antisymm (fb_ct_le _ _) h
    have h3 := of_decide_eq_true (fb_ct_all.mp h2 k hk)
    exact ⟨fun _ => h3.2.2, fun _ => h3.2.1⟩
theorem stb_up {A P O : Nat → Int32} {ax : Int32} {mc : Nat} (hm : ∀ j, j < mc → mtE P O j) (T : Nat → Int32) : ∀ d, ∀ e, e < 7 → (onT (tiR A P O ax mc T (mc + d)) e ↔ onT (tiR A P O ax mc T mc) e) := by
  intro d
  induction d with
  | zero => exact fun e _ => Iff.rfl
  | succ d ih =>
    intro e he
    refine ⟨fun z => ?_, fun z => tiK_mono ((ih e he).mpr z) mc hm⟩
    have hc := stb_cls hm (stb_mc (ax := ax) (A := A) hm T)
    -- what one more round adds lies in the closed row
    exact tiK_in (S := fun e => e < 7 → onT (tiR A P O ax mc T mc) e) (fun k hk hA => by
      have h7 := tg7 (hm k hk)
      exact ⟨fun z _ => (hc k hk hA).mp (z h7.1), fun z _ => (hc k hk hA).mpr (z h7.2)⟩) (fun e2 z2 h7 => (ih e2 h7).mp z2) mc (Nat.le_refl _) hm e z he
