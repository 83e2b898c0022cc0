/-! corners and edges: the model's marks are the mixed places -/
def ex (b : Nat → Bool) (i j k : Nat) : Bool := decide (1 ≤ i ∧ i ≤ 8 ∧ 1 ≤ j ∧ j ≤ 8 ∧ 1 ≤ k ∧ k ≤ 8) && b (64 * (i - 1) + 8 * (j - 1) + (k - 1))
theorem ex_o {b : Nat → Bool} {i j k : Nat} (h : ¬ (1 ≤ i ∧ i ≤ 8 ∧ 1 ≤ j ∧ j ≤ 8 ∧ 1 ≤ k ∧ k ≤ 8)) : ex b i j k = false := by unfold ex; rw [decide_eq_false h, Bool.false_and]
theorem ex_i {b : Nat → Bool} {i j k : Nat} (h : 1 ≤ i ∧ i ≤ 8 ∧ 1 ≤ j ∧ j ≤ 8 ∧ 1 ≤ k ∧ k ≤ 8) : ex b i j k = b (64 * (i - 1) + 8 * (j - 1) + (k - 1)) := by unfold ex; rw [decide_eq_true h, Bool.true_and]
theorem ex_t {b : Nat → Bool} {i j k : Nat} (h : ex b i j k = true) : (1 ≤ i ∧ i ≤ 8 ∧ 1 ≤ j ∧ j ≤ 8 ∧ 1 ≤ k ∧ k ≤ 8) ∧ b (64 * (i - 1) + 8 * (j - 1) + (k - 1)) = true := by
  unfold ex at h
  have := Bool.and_eq_true_iff.mp h
  exact ⟨of_decide_eq_true this.1, this.2⟩
theorem ex_n (b : Nat → Bool) {n : Nat} (hn : n < 512) : ex b (alN n 0 + 1) (alN n 1 + 1) (alN n 2 + 1) = b n := by
  have h0 := alN_lt hn 0
  have h1 := alN_lt hn 1
  have h2 := alN_lt hn 2
  rw [ex_i (by omega)]
  congr 1
  rw [al_0, al_1, al_2]
  omega
/-- a coordinate one further in a side's direction -/
def sc (s d v : Nat) : Nat := if s / 2 = d then v + 2 * (s % 2) else v + 1
theorem ex_nb (b : Nat → Bool) {n s : Nat} (hn : n < 512) (hs : s < 6) : (nbN n s).elim false b = ex b (sc s 0 (alN n 0)) (sc s 1 (alN n 1)) (sc s 2 (alN n 2)) := by
  rw [al_0, al_1, al_2]
  rcases (show s = 0 ∨ s = 1 ∨ s = 2 ∨ s = 3 ∨ s = 4 ∨ s = 5 by omega) with e | e | e | e | e | e
  · subst e
    show _ = ex b (n / 64 + 0) (n / 8 % 8 + 1) (n % 8 + 1)
    rw [nbN_0]
    by_cases h : n / 64 = 0
    · rw [if_pos h, ex_o (by omega)]; rfl
    · rw [if_neg h, ex_i (by omega)]; show b _ = b _; congr 1; omega
  · subst e
    show _ = ex b (n / 64 + 2) (n / 8 % 8 + 1) (n % 8 + 1)
    rw [nbN_1]
    by_cases h : n / 64 = 7
    · rw [if_pos h, ex_o (by omega)]; rfl
    · rw [if_neg h, ex_i (by omega)]; show b _ = b _; congr 1; omega
  · subst e
    show _ = ex b (n / 64 + 1) (n / 8 % 8 + 0) (n % 8 + 1)
    rw [nbN_2]
    by_cases h : n / 8 % 8 = 0
    · rw [if_pos h, ex_o (by omega)]; rfl
    · rw [if_neg h, ex_i (by omega)]; show b _ = b _; congr 1; omega
  · subst e
    show _ = ex b (n / 64 + 1) (n / 8 % 8 + 2) (n % 8 + 1)
    rw [nbN_3]
    by_cases h : n / 8 % 8 = 7
    · rw [if_pos h, ex_o (by omega)]; rfl
    · rw [if_neg h, ex_i (by omega)]; show b _ = b _; congr 1; omega
  · subst e
    show _ = ex b (n / 64 + 1) (n / 8 % 8 + 1) (n % 8 + 0)
    rw [nbN_4]
    by_cases h : n % 8 = 0
    · rw [if_pos h, ex_o (by omega)]; rfl
    · rw [if_neg h, ex_i (by omega)]; show b _ = b _; congr 1; omega
  · subst e
    show _ = ex b (n / 64 + 1) (n / 8 % 8 + 1) (n % 8 + 2)
    rw [nbN_5]
    by_cases h : n % 8 = 7
    · rw [if_pos h, ex_o (by omega)]; rfl
    · rw [if_neg h, ex_i (by omega)]; show b _ = b _; congr 1; omega
theorem sq_ex (b : Nat → Bool) {n s : Nat} (hn : n < 512) (hs : s < 6) : sqB b n s = true ↔ ex b (alN n 0 + 1) (alN n 1 + 1) (alN n 2 + 1) = true ∧ ex b (sc s 0 (alN n 0)) (sc s 1 (alN n 1)) (sc s 2 (alN n 2)) = false := by
  unfold sqB
  rw [ex_nb b hn hs, ex_n b hn, Bool.and_eq_true, Bool.not_eq_true']
/-- mixed: some in, some out, of a block of cells -/
def mix3 (b : Nat → Bool) (X Y Z p r t : Nat) : Prop := (∃ i j k, i < p ∧ j < r ∧ k < t ∧ ex b (X + i) (Y + j) (Z + k) = true) ∧ ∃ i j k, i < p ∧ j < r ∧ k < t ∧ ex b (X + i) (Y + j) (Z + k) = false
/-- a step from in to out -/
def stp (b : Nat → Bool) (X Y Z p r t : Nat) : Prop := ∃ i j k i2 j2 k2, (i < p ∧ j < r ∧ k < t) ∧ (i2 < p ∧ j2 < r ∧ k2 < t) ∧ ((i2 = 1 - i ∧ ¬ i2 = i ∧ j2 = j ∧ k2 = k) ∨ (i2 = i ∧ j2 = 1 - j ∧ ¬ j2 = j ∧ k2 = k) ∨ (i2 = i ∧ j2 = j ∧ k2 = 1 - k ∧ ¬ k2 = k)) ∧ ex b (X + i) (Y + j) (Z + k) = true ∧ ex b (X + i2) (Y + j2) (Z + k2) = false
theorem stp_mix {b : Nat → Bool} {X Y Z p r t : Nat} (hp : p ≤ 2) (hr : r ≤ 2) (ht : t ≤ 2) : stp b X Y Z p r t ↔ mix3 b X Y Z p r t := by
  constructor
  · rintro ⟨i, j, k, i2, j2, k2, h1, h2, -, h3, h4⟩
    exact ⟨⟨i, j, k, h1.1, h1.2.1, h1.2.2, h3⟩, ⟨i2, j2, k2, h2.1, h2.2.1, h2.2.2, h4⟩⟩
  · rintro ⟨⟨i, j, k, h1, h2, h3, h4⟩, ⟨i2, j2, k2, g1, g2, g3, g4⟩⟩
    by_cases e1 : ex b (X + i2) (Y + j) (Z + k) = true
    · by_cases e2 : ex b (X + i2) (Y + j2) (Z + k) = true
      · by_cases q : k2 = k
        · rw [q] at g4; rw [g4] at e2; exact absurd e2 (by decide)
        · exact ⟨i2, j2, k, i2, j2, k2, ⟨g1, g2, h3⟩, ⟨g1, g2, g3⟩, Or.inr (Or.inr ⟨rfl, rfl, by omega, q⟩), e2, g4⟩
      · by_cases q : j2 = j
        · rw [q] at e2; exact absurd e1 e2
        · exact ⟨i2, j, k, i2, j2, k, ⟨g1, h2, h3⟩, ⟨g1, g2, h3⟩, Or.inr (Or.inl ⟨rfl, by omega, q, rfl⟩), e1, Bool.eq_false_iff.mpr e2⟩
    · by_cases q : i2 = i
      · rw [q] at e1; exact absurd h4 e1
      · exact ⟨i, j, k, i2, j, k, ⟨h1, h2, h3⟩, ⟨g1, h2, h3⟩, Or.inl ⟨by omega, q, rfl, rfl⟩, h4, Bool.eq_false_iff.mpr e1⟩
/-- a square at a place of the kind a: 3 a corner, else an edge along a -/
def at3 (n s X Y Z p r t : Nat) : Prop := (∃ i j k, i < p ∧ j < r ∧ k < t ∧ alN n 0 + 1 = X + i ∧ alN n 1 + 1 = Y + j ∧ alN n 2 + 1 = Z + k) ∧ ∃ i j k, i < p ∧ j < r ∧ k < t ∧ sc s 0 (alN n 0) = X + i ∧ sc s 1 (alN n 1) = Y + j ∧ sc s 2 (alN n 2) = Z + k
theorem at_mix {b : Nat → Bool} {X Y Z p r t : Nat} (hp : p ≤ 2) (hr : r ≤ 2) (ht : t ≤ 2) : (∃ n s, n < 512 ∧ s < 6 ∧ sqB b n s = true ∧ at3 n s X Y Z p r t) ↔ mix3 b X Y Z p r t := by
  constructor
  · rintro ⟨n, s, hn, hs, hq, ⟨i, j, k, h1, h2, h3, h4, h5, h6⟩, ⟨i2, j2, k2, g1, g2, g3, g4, g5, g6⟩⟩
    obtain ⟨a1, a2⟩ := (sq_ex b hn hs).mp hq
    rw [h4, h5, h6] at a1
    rw [g4, g5, g6] at a2
    exact ⟨⟨i, j, k, h1, h2, h3, a1⟩, ⟨i2, j2, k2, g1, g2, g3, a2⟩⟩
  · intro h
    obtain ⟨i, j, k, i2, j2, k2, ⟨h1, h2, h3⟩, ⟨g1, g2, g3⟩, hst, h4, h5⟩ := (stp_mix hp hr ht).mpr h
    obtain ⟨⟨c1, c2, c3, c4, c5, c6⟩, -⟩ := ex_t h4
    have hn : 64 * (X + i - 1) + 8 * (Y + j - 1) + (Z + k - 1) < 512 := by omega
    have e0 : alN (64 * (X + i - 1) + 8 * (Y + j - 1) + (Z + k - 1)) 0 = X + i - 1 := by rw [al_0]; omega
    have e1 : alN (64 * (X + i - 1) + 8 * (Y + j - 1) + (Z + k - 1)) 1 = Y + j - 1 := by rw [al_1]; omega
    have e2 : alN (64 * (X + i - 1) + 8 * (Y + j - 1) + (Z + k - 1)) 2 = Z + k - 1 := by rw [al_2]; omega
    have key : ∀ s, s < 6 → sc s 0 (X + i - 1) = X + i2 → sc s 1 (Y + j - 1) = Y + j2 → sc s 2 (Z + k - 1) = Z + k2 → ∃ n s, n < 512 ∧ s < 6 ∧ sqB b n s = true ∧ at3 n s X Y Z p r t := fun s hs a0 a1 a2 => by
      refine ⟨_, s, hn, hs, (sq_ex b hn hs).mpr ?_, ?_⟩
      · rw [e0, e1, e2, a0, a1, a2, show X + i - 1 + 1 = X + i by omega, show Y + j - 1 + 1 = Y + j by omega, show Z + k - 1 + 1 = Z + k by omega]
        exact ⟨h4, h5⟩
      · unfold at3
        rw [e0, e1, e2, a0, a1, a2]
        exact ⟨⟨i, j, k, h1, h2, h3, by omega, by omega, by omega⟩, ⟨i2, j2, k2, g1, g2, g3, rfl, rfl, rfl⟩⟩
    rcases hst with ⟨q1, q2, q3, q4⟩ | ⟨q1, q2, q3, q4⟩ | ⟨q1, q2, q3, q4⟩
    · by_cases z : i = 1
      · exact key 0 (by decide) (by show X + i - 1 + 0 = _; omega) (by show Y + j - 1 + 1 = _; omega) (by show Z + k - 1 + 1 = _; omega)
      · exact key 1 (by decide) (by show X + i - 1 + 2 = _; omega) (by show Y + j - 1 + 1 = _; omega) (by show Z + k - 1 + 1 = _; omega)
    · by_cases z : j = 1
      · exact key 2 (by decide) (by show X + i - 1 + 1 = _; omega) (by show Y + j - 1 + 0 = _; omega) (by show Z + k - 1 + 1 = _; omega)
      · exact key 3 (by decide) (by show X + i - 1 + 1 = _; omega) (by show Y + j - 1 + 2 = _; omega) (by show Z + k - 1 + 1 = _; omega)
    · by_cases z : k = 1
      · exact key 4 (by decide) (by show X + i - 1 + 1 = _; omega) (by show Y + j - 1 + 1 = _; omega) (by show Z + k - 1 + 0 = _; omega)
      · exact key 5 (by decide) (by show X + i - 1 + 1 = _; omega) (by show Y + j - 1 + 1 = _; omega) (by show Z + k - 1 + 2 = _; omega)
