/-! marks of squares: corners and edges -/
theorem dg3 {a b c X Y Z : Nat} (ha : a < 9) (hb : b < 9) (hc : c < 9) (hX : X < 9) (hY : Y < 9) (hZ : Z < 9) : 81 * a + 9 * b + c = 81 * X + 9 * Y + Z ↔ a = X ∧ b = Y ∧ c = Z := by omega
theorem dg4 {a b c X Y Z t x : Nat} (ha : a < 9) (hb : b < 9) (hc : c < 9) (hX : X < 9) (hY : Y < 9) (hZ : Z < 9) (ht : t < 3) (hx : x < 3) : 3 * (81 * a + 9 * b + c) + t = 3 * (81 * X + 9 * Y + Z) + x ↔ (a = X ∧ b = Y ∧ c = Z) ∧ t = x := by omega
theorem corn_at {n s X Y Z : Nat} (hn : n < 512) (hs : s < 6) (hX : X < 9) (hY : Y < 9) (hZ : Z < 9) : (∃ k, k < 4 ∧ cnI n s k = 81 * X + 9 * Y + Z) ↔ at3 n s X Y Z 2 2 2 := by
  have h0 := alN_lt hn 0
  have h1 := alN_lt hn 1
  have h2 := alN_lt hn 2
  have hc : ∀ k, cnI n s k = 81 * X + 9 * Y + Z ↔ plN n s (usN s) 0 k = X ∧ plN n s (usN s) 1 k = Y ∧ plN n s (usN s) 2 k = Z := fun k => dg3 (pl_lt hn) (pl_lt hn) (pl_lt hn) hX hY hZ
  simp only [hc]
  unfold at3
  rcases (show s = 0 ∨ s = 1 ∨ s = 2 ∨ s = 3 ∨ s = 4 ∨ s = 5 by omega) with e | e | e | e | e | e
  · subst e
    show (∃ k, k < 4 ∧ alN n 0 + 0 % 2 = X ∧ alN n 1 + k % 2 = Y ∧ alN n 2 + k / 2 % 2 = Z) ↔ (∃ i j k, i < 2 ∧ j < 2 ∧ k < 2 ∧ alN n 0 + 1 = X + i ∧ alN n 1 + 1 = Y + j ∧ alN n 2 + 1 = Z + k) ∧ ∃ i j k, i < 2 ∧ j < 2 ∧ k < 2 ∧ alN n 0 + 2 * (0 % 2) = X + i ∧ alN n 1 + 1 = Y + j ∧ alN n 2 + 1 = Z + k
    constructor
    · rintro ⟨k, hk, q1, q2, q3⟩
      exact ⟨⟨alN n 0 + 1 - X, alN n 1 + 1 - Y, alN n 2 + 1 - Z, by omega, by omega, by omega, by omega, by omega, by omega⟩, ⟨alN n 0 + 2 * (0 % 2) - X, alN n 1 + 1 - Y, alN n 2 + 1 - Z, by omega, by omega, by omega, by omega, by omega, by omega⟩⟩
    · rintro ⟨⟨i, j, k, p1, p2, p3, p4, p5, p6⟩, ⟨i2, j2, k2, r1, r2, r3, r4, r5, r6⟩⟩
      exact ⟨(1 - j) + 2 * (1 - k), by omega, by omega, by omega, by omega⟩
  · subst e
    show (∃ k, k < 4 ∧ alN n 0 + 1 % 2 = X ∧ alN n 1 + k % 2 = Y ∧ alN n 2 + k / 2 % 2 = Z) ↔ (∃ i j k, i < 2 ∧ j < 2 ∧ k < 2 ∧ alN n 0 + 1 = X + i ∧ alN n 1 + 1 = Y + j ∧ alN n 2 + 1 = Z + k) ∧ ∃ i j k, i < 2 ∧ j < 2 ∧ k < 2 ∧ alN n 0 + 2 * (1 % 2) = X + i ∧ alN n 1 + 1 = Y + j ∧ alN n 2 + 1 = Z + k
    constructor
    · rintro ⟨k, hk, q1, q2, q3⟩
      exact ⟨⟨alN n 0 + 1 - X, alN n 1 + 1 - Y, alN n 2 + 1 - Z, by omega, by omega, by omega, by omega, by omega, by omega⟩, ⟨alN n 0 + 2 * (1 % 2) - X, alN n 1 + 1 - Y, alN n 2 + 1 - Z, by omega, by omega, by omega, by omega, by omega, by omega⟩⟩
    · rintro ⟨⟨i, j, k, p1, p2, p3, p4, p5, p6⟩, ⟨i2, j2, k2, r1, r2, r3, r4, r5, r6⟩⟩
      exact ⟨(1 - j) + 2 * (1 - k), by omega, by omega, by omega, by omega⟩
  · subst e
    show (∃ k, k < 4 ∧ alN n 0 + k % 2 = X ∧ alN n 1 + 2 % 2 = Y ∧ alN n 2 + k / 2 % 2 = Z) ↔ (∃ i j k, i < 2 ∧ j < 2 ∧ k < 2 ∧ alN n 0 + 1 = X + i ∧ alN n 1 + 1 = Y + j ∧ alN n 2 + 1 = Z + k) ∧ ∃ i j k, i < 2 ∧ j < 2 ∧ k < 2 ∧ alN n 0 + 1 = X + i ∧ alN n 1 + 2 * (2 % 2) = Y + j ∧ alN n 2 + 1 = Z + k
    constructor
    · rintro ⟨k, hk, q1, q2, q3⟩
      exact ⟨⟨alN n 0 + 1 - X, alN n 1 + 1 - Y, alN n 2 + 1 - Z, by omega, by omega, by omega, by omega, by omega, by omega⟩, ⟨alN n 0 + 1 - X, alN n 1 + 2 * (2 % 2) - Y, alN n 2 + 1 - Z, by omega, by omega, by omega, by omega, by omega, by omega⟩⟩
    · rintro ⟨⟨i, j, k, p1, p2, p3, p4, p5, p6⟩, ⟨i2, j2, k2, r1, r2, r3, r4, r5, r6⟩⟩
      exact ⟨(1 - i) + 2 * (1 - k), by omega, by omega, by omega, by omega⟩
  · subst e
    show (∃ k, k < 4 ∧ alN n 0 + k % 2 = X ∧ alN n 1 + 3 % 2 = Y ∧ alN n 2 + k / 2 % 2 = Z) ↔ (∃ i j k, i < 2 ∧ j < 2 ∧ k < 2 ∧ alN n 0 + 1 = X + i ∧ alN n 1 + 1 = Y + j ∧ alN n 2 + 1 = Z + k) ∧ ∃ i j k, i < 2 ∧ j < 2 ∧ k < 2 ∧ alN n 0 + 1 = X + i ∧ alN n 1 + 2 * (3 % 2) = Y + j ∧ alN n 2 + 1 = Z + k
    constructor
    · rintro ⟨k, hk, q1, q2, q3⟩
      exact ⟨⟨alN n 0 + 1 - X, alN n 1 + 1 - Y, alN n 2 + 1 - Z, by omega, by omega, by omega, by omega, by omega, by omega⟩, ⟨alN n 0 + 1 - X, alN n 1 + 2 * (3 % 2) - Y, alN n 2 + 1 - Z, by omega, by omega, by omega, by omega, by omega, by omega⟩⟩
    · rintro ⟨⟨i, j, k, p1, p2, p3, p4, p5, p6⟩, ⟨i2, j2, k2, r1, r2, r3, r4, r5, r6⟩⟩
      exact ⟨(1 - i) + 2 * (1 - k), by omega, by omega, by omega, by omega⟩
  · subst e
    show (∃ k, k < 4 ∧ alN n 0 + k % 2 = X ∧ alN n 1 + k / 2 % 2 = Y ∧ alN n 2 + 4 % 2 = Z) ↔ (∃ i j k, i < 2 ∧ j < 2 ∧ k < 2 ∧ alN n 0 + 1 = X + i ∧ alN n 1 + 1 = Y + j ∧ alN n 2 + 1 = Z + k) ∧ ∃ i j k, i < 2 ∧ j < 2 ∧ k < 2 ∧ alN n 0 + 1 = X + i ∧ alN n 1 + 1 = Y + j ∧ alN n 2 + 2 * (4 % 2) = Z + k
    constructor
    · rintro ⟨k, hk, q1, q2, q3⟩
      exact ⟨⟨alN n 0 + 1 - X, alN n 1 + 1 - Y, alN n 2 + 1 - Z, by omega, by omega, by omega, by omega, by omega, by omega⟩, ⟨alN n 0 + 1 - X, alN n 1 + 1 - Y, alN n 2 + 2 * (4 % 2) - Z, by omega, by omega, by omega, by omega, by omega, by omega⟩⟩
    · rintro ⟨⟨i, j, k, p1, p2, p3, p4, p5, p6⟩, ⟨i2, j2, k2, r1, r2, r3, r4, r5, r6⟩⟩
      exact ⟨(1 - i) + 2 * (1 - j), by omega, by omega, by omega, by omega⟩
  · subst e
    show (∃ k, k < 4 ∧ alN n 0 + k % 2 = X ∧ alN n 1 + k / 2 % 2 = Y ∧ alN n 2 + 5 % 2 = Z) ↔ (∃ i j k, i < 2 ∧ j < 2 ∧ k < 2 ∧ alN n 0 + 1 = X + i ∧ alN n 1 + 1 = Y + j ∧ alN n 2 + 1 = Z + k) ∧ ∃ i j k, i < 2 ∧ j < 2 ∧ k < 2 ∧ alN n 0 + 1 = X + i ∧ alN n 1 + 1 = Y + j ∧ alN n 2 + 2 * (5 % 2) = Z + k
    constructor
    · rintro ⟨k, hk, q1, q2, q3⟩
      exact ⟨⟨alN n 0 + 1 - X, alN n 1 + 1 - Y, alN n 2 + 1 - Z, by omega, by omega, by omega, by omega, by omega, by omega⟩, ⟨alN n 0 + 1 - X, alN n 1 + 1 - Y, alN n 2 + 2 * (5 % 2) - Z, by omega, by omega, by omega, by omega, by omega, by omega⟩⟩
    · rintro ⟨⟨i, j, k, p1, p2, p3, p4, p5, p6⟩, ⟨i2, j2, k2, r1, r2, r3, r4, r5, r6⟩⟩
      exact ⟨(1 - i) + 2 * (1 - j), by omega, by omega, by omega, by omega⟩
theorem edge_0 {n s X Y Z : Nat} (hn : n < 512) (hs : s < 6) (hX : X < 9) (hY : Y < 9) (hZ : Z < 9) : (∃ k, k < 4 ∧ egI n s k = 3 * (81 * X + 9 * Y + Z) + 0) ↔ at3 n s (X + 1) Y Z 1 2 2 := by
  have h0 := alN_lt hn 0
  have h1 := alN_lt hn 1
  have h2 := alN_lt hn 2
  have hc : ∀ k, egI n s k = 3 * (81 * X + 9 * Y + Z) + 0 ↔ (plN n s (usN s) 0 (ecN k) = X ∧ plN n s (usN s) 1 (ecN k) = Y ∧ plN n s (usN s) 2 (ecN k) = Z) ∧ (if k < 2 then usN s else vsN s) = 0 := fun k => dg4 (pl_lt hn) (pl_lt hn) (pl_lt hn) hX hY hZ (by unfold usN vsN; (repeat' split) <;> omega) (by decide)
  simp only [hc]
  unfold at3
  rcases (show s = 0 ∨ s = 1 ∨ s = 2 ∨ s = 3 ∨ s = 4 ∨ s = 5 by omega) with e | e | e | e | e | e
  · subst e
    show (∃ k, k < 4 ∧ (alN n 0 + 0 % 2 = X ∧ alN n 1 + ecN k % 2 = Y ∧ alN n 2 + ecN k / 2 % 2 = Z) ∧ (if k < 2 then 1 else 2) = 0) ↔ (∃ i j k, i < 1 ∧ j < 2 ∧ k < 2 ∧ alN n 0 + 1 = (X + 1) + i ∧ alN n 1 + 1 = Y + j ∧ alN n 2 + 1 = Z + k) ∧ ∃ i j k, i < 1 ∧ j < 2 ∧ k < 2 ∧ alN n 0 + 2 * (0 % 2) = (X + 1) + i ∧ alN n 1 + 1 = Y + j ∧ alN n 2 + 1 = Z + k
    constructor
    · rintro ⟨k, hk, -, q4⟩
      exact absurd q4 (by split <;> decide)
    · rintro ⟨⟨i, j, k, p1, p2, p3, p4, p5, p6⟩, ⟨i2, j2, k2, r1, r2, r3, r4, r5, r6⟩⟩
      omega
  · subst e
    show (∃ k, k < 4 ∧ (alN n 0 + 1 % 2 = X ∧ alN n 1 + ecN k % 2 = Y ∧ alN n 2 + ecN k / 2 % 2 = Z) ∧ (if k < 2 then 1 else 2) = 0) ↔ (∃ i j k, i < 1 ∧ j < 2 ∧ k < 2 ∧ alN n 0 + 1 = (X + 1) + i ∧ alN n 1 + 1 = Y + j ∧ alN n 2 + 1 = Z + k) ∧ ∃ i j k, i < 1 ∧ j < 2 ∧ k < 2 ∧ alN n 0 + 2 * (1 % 2) = (X + 1) + i ∧ alN n 1 + 1 = Y + j ∧ alN n 2 + 1 = Z + k
    constructor
    · rintro ⟨k, hk, -, q4⟩
      exact absurd q4 (by split <;> decide)
    · rintro ⟨⟨i, j, k, p1, p2, p3, p4, p5, p6⟩, ⟨i2, j2, k2, r1, r2, r3, r4, r5, r6⟩⟩
      omega
  · subst e
    show (∃ k, k < 4 ∧ (alN n 0 + ecN k % 2 = X ∧ alN n 1 + 2 % 2 = Y ∧ alN n 2 + ecN k / 2 % 2 = Z) ∧ (if k < 2 then 0 else 2) = 0) ↔ (∃ i j k, i < 1 ∧ j < 2 ∧ k < 2 ∧ alN n 0 + 1 = (X + 1) + i ∧ alN n 1 + 1 = Y + j ∧ alN n 2 + 1 = Z + k) ∧ ∃ i j k, i < 1 ∧ j < 2 ∧ k < 2 ∧ alN n 0 + 1 = (X + 1) + i ∧ alN n 1 + 2 * (2 % 2) = Y + j ∧ alN n 2 + 1 = Z + k
    constructor
    · rintro ⟨k, hk, ⟨q1, q2, q3⟩, q4⟩
      have hk2 : k < 2 := Nat.lt_of_not_le fun z => absurd (q4.symm.trans (if_neg (Nat.not_lt.mpr z))) (by decide)
      have ek : ecN k = 2 * k := by rcases (show k = 0 ∨ k = 1 by omega) with z | z <;> subst z <;> rfl
      rw [ek] at q1 q3
      exact ⟨⟨alN n 0 + 1 - (X + 1), alN n 1 + 1 - Y, alN n 2 + 1 - Z, by omega, by omega, by omega, by omega, by omega, by omega⟩, ⟨alN n 0 + 1 - (X + 1), alN n 1 + 2 * (2 % 2) - Y, alN n 2 + 1 - Z, by omega, by omega, by omega, by omega, by omega, by omega⟩⟩
    · rintro ⟨⟨i, j, k, p1, p2, p3, p4, p5, p6⟩, ⟨i2, j2, k2, r1, r2, r3, r4, r5, r6⟩⟩
      by_cases z : k = 1
      · exact ⟨0, by decide, show alN n 0 + 0 % 2 = X ∧ alN n 1 + 2 % 2 = Y ∧ alN n 2 + 0 / 2 % 2 = Z by omega, rfl⟩
      · exact ⟨1, by decide, show alN n 0 + 2 % 2 = X ∧ alN n 1 + 2 % 2 = Y ∧ alN n 2 + 2 / 2 % 2 = Z by omega, rfl⟩
  · subst e
    show (∃ k, k < 4 ∧ (alN n 0 + ecN k % 2 = X ∧ alN n 1 + 3 % 2 = Y ∧ alN n 2 + ecN k / 2 % 2 = Z) ∧ (if k < 2 then 0 else 2) = 0) ↔ (∃ i j k, i < 1 ∧ j < 2 ∧ k < 2 ∧ alN n 0 + 1 = (X + 1) + i ∧ alN n 1 + 1 = Y + j ∧ alN n 2 + 1 = Z + k) ∧ ∃ i j k, i < 1 ∧ j < 2 ∧ k < 2 ∧ alN n 0 + 1 = (X + 1) + i ∧ alN n 1 + 2 * (3 % 2) = Y + j ∧ alN n 2 + 1 = Z + k
    constructor
    · rintro ⟨k, hk, ⟨q1, q2, q3⟩, q4⟩
      have hk2 : k < 2 := Nat.lt_of_not_le fun z => absurd (q4.symm.trans (if_neg (Nat.not_lt.mpr z))) (by decide)
      have ek : ecN k = 2 * k := by rcases (show k = 0 ∨ k = 1 by omega) with z | z <;> subst z <;> rfl
      rw [ek] at q1 q3
      exact ⟨⟨alN n 0 + 1 - (X + 1), alN n 1 + 1 - Y, alN n 2 + 1 - Z, by omega, by omega, by omega, by omega, by omega, by omega⟩, ⟨alN n 0 + 1 - (X + 1), alN n 1 + 2 * (3 % 2) - Y, alN n 2 + 1 - Z, by omega, by omega, by omega, by omega, by omega, by omega⟩⟩
    · rintro ⟨⟨i, j, k, p1, p2, p3, p4, p5, p6⟩, ⟨i2, j2, k2, r1, r2, r3, r4, r5, r6⟩⟩
      by_cases z : k = 1
      · exact ⟨0, by decide, show alN n 0 + 0 % 2 = X ∧ alN n 1 + 3 % 2 = Y ∧ alN n 2 + 0 / 2 % 2 = Z by omega, rfl⟩
      · exact ⟨1, by decide, show alN n 0 + 2 % 2 = X ∧ alN n 1 + 3 % 2 = Y ∧ alN n 2 + 2 / 2 % 2 = Z by omega, rfl⟩
  · subst e
    show (∃ k, k < 4 ∧ (alN n 0 + ecN k % 2 = X ∧ alN n 1 + ecN k / 2 % 2 = Y ∧ alN n 2 + 4 % 2 = Z) ∧ (if k < 2 then 0 else 1) = 0) ↔ (∃ i j k, i < 1 ∧ j < 2 ∧ k < 2 ∧ alN n 0 + 1 = (X + 1) + i ∧ alN n 1 + 1 = Y + j ∧ alN n 2 + 1 = Z + k) ∧ ∃ i j k, i < 1 ∧ j < 2 ∧ k < 2 ∧ alN n 0 + 1 = (X + 1) + i ∧ alN n 1 + 1 = Y + j ∧ alN n 2 + 2 * (4 % 2) = Z + k
    constructor
    · rintro ⟨k, hk, ⟨q1, q2, q3⟩, q4⟩
      have hk2 : k < 2 := Nat.lt_of_not_le fun z => absurd (q4.symm.trans (if_neg (Nat.not_lt.mpr z))) (by decide)
      have ek : ecN k = 2 * k := by rcases (show k = 0 ∨ k = 1 by omega) with z | z <;> subst z <;> rfl
      rw [ek] at q1 q2
      exact ⟨⟨alN n 0 + 1 - (X + 1), alN n 1 + 1 - Y, alN n 2 + 1 - Z, by omega, by omega, by omega, by omega, by omega, by omega⟩, ⟨alN n 0 + 1 - (X + 1), alN n 1 + 1 - Y, alN n 2 + 2 * (4 % 2) - Z, by omega, by omega, by omega, by omega, by omega, by omega⟩⟩
    · rintro ⟨⟨i, j, k, p1, p2, p3, p4, p5, p6⟩, ⟨i2, j2, k2, r1, r2, r3, r4, r5, r6⟩⟩
      by_cases z : j = 1
      · exact ⟨0, by decide, show alN n 0 + 0 % 2 = X ∧ alN n 1 + 0 / 2 % 2 = Y ∧ alN n 2 + 4 % 2 = Z by omega, rfl⟩
      · exact ⟨1, by decide, show alN n 0 + 2 % 2 = X ∧ alN n 1 + 2 / 2 % 2 = Y ∧ alN n 2 + 4 % 2 = Z by omega, rfl⟩
  · subst e
    show (∃ k, k < 4 ∧ (alN n 0 + ecN k % 2 = X ∧ alN n 1 + ecN k / 2 % 2 = Y ∧ alN n 2 + 5 % 2 = Z) ∧ (if k < 2 then 0 else 1) = 0) ↔ (∃ i j k, i < 1 ∧ j < 2 ∧ k < 2 ∧ alN n 0 + 1 = (X + 1) + i ∧ alN n 1 + 1 = Y + j ∧ alN n 2 + 1 = Z + k) ∧ ∃ i j k, i < 1 ∧ j < 2 ∧ k < 2 ∧ alN n 0 + 1 = (X + 1) + i ∧ alN n 1 + 1 = Y + j ∧ alN n 2 + 2 * (5 % 2) = Z + k
    constructor
    · rintro ⟨k, hk, ⟨q1, q2, q3⟩, q4⟩
      have hk2 : k < 2 := Nat.lt_of_not_le fun z => absurd (q4.symm.trans (if_neg (Nat.not_lt.mpr z))) (by decide)
      have ek : ecN k = 2 * k := by rcases (show k = 0 ∨ k = 1 by omega) with z | z <;> subst z <;> rfl
      rw [ek] at q1 q2
      exact ⟨⟨alN n 0 + 1 - (X + 1), alN n 1 + 1 - Y, alN n 2 + 1 - Z, by omega, by omega, by omega, by omega, by omega, by omega⟩, ⟨alN n 0 + 1 - (X + 1), alN n 1 + 1 - Y, alN n 2 + 2 * (5 % 2) - Z, by omega, by omega, by omega, by omega, by omega, by omega⟩⟩
    · rintro ⟨⟨i, j, k, p1, p2, p3, p4, p5, p6⟩, ⟨i2, j2, k2, r1, r2, r3, r4, r5, r6⟩⟩
      by_cases z : j = 1
      · exact ⟨0, by decide, show alN n 0 + 0 % 2 = X ∧ alN n 1 + 0 / 2 % 2 = Y ∧ alN n 2 + 5 % 2 = Z by omega, rfl⟩
      · exact ⟨1, by decide, show alN n 0 + 2 % 2 = X ∧ alN n 1 + 2 / 2 % 2 = Y ∧ alN n 2 + 5 % 2 = Z by omega, rfl⟩
theorem edge_1 {n s X Y Z : Nat} (hn : n < 512) (hs : s < 6) (hX : X < 9) (hY : Y < 9) (hZ : Z < 9) : (∃ k, k < 4 ∧ egI n s k = 3 * (81 * X + 9 * Y + Z) + 1) ↔ at3 n s X (Y + 1) Z 2 1 2 := by
  have h0 := alN_lt hn 0
  have h1 := alN_lt hn 1
  have h2 := alN_lt hn 2
  have hc : ∀ k, egI n s k = 3 * (81 * X + 9 * Y + Z) + 1 ↔ (plN n s (usN s) 0 (ecN k) = X ∧ plN n s (usN s) 1 (ecN k) = Y ∧ plN n s (usN s) 2 (ecN k) = Z) ∧ (if k < 2 then usN s else vsN s) = 1 := fun k => dg4 (pl_lt hn) (pl_lt hn) (pl_lt hn) hX hY hZ (by unfold usN vsN; (repeat' split) <;> omega) (by decide)
  simp only [hc]
  unfold at3
  rcases (show s = 0 ∨ s = 1 ∨ s = 2 ∨ s = 3 ∨ s = 4 ∨ s = 5 by omega) with e | e | e | e | e | e
  · subst e
    show (∃ k, k < 4 ∧ (alN n 0 + 0 % 2 = X ∧ alN n 1 + ecN k % 2 = Y ∧ alN n 2 + ecN k / 2 % 2 = Z) ∧ (if k < 2 then 1 else 2) = 1) ↔ (∃ i j k, i < 2 ∧ j < 1 ∧ k < 2 ∧ alN n 0 + 1 = X + i ∧ alN n 1 + 1 = (Y + 1) + j ∧ alN n 2 + 1 = Z + k) ∧ ∃ i j k, i < 2 ∧ j < 1 ∧ k < 2 ∧ alN n 0 + 2 * (0 % 2) = X + i ∧ alN n 1 + 1 = (Y + 1) + j ∧ alN n 2 + 1 = Z + k
    constructor
    · rintro ⟨k, hk, ⟨q1, q2, q3⟩, q4⟩
      have hk2 : k < 2 := Nat.lt_of_not_le fun z => absurd (q4.symm.trans (if_neg (Nat.not_lt.mpr z))) (by decide)
      have ek : ecN k = 2 * k := by rcases (show k = 0 ∨ k = 1 by omega) with z | z <;> subst z <;> rfl
      rw [ek] at q2 q3
      exact ⟨⟨alN n 0 + 1 - X, alN n 1 + 1 - (Y + 1), alN n 2 + 1 - Z, by omega, by omega, by omega, by omega, by omega, by omega⟩, ⟨alN n 0 + 2 * (0 % 2) - X, alN n 1 + 1 - (Y + 1), alN n 2 + 1 - Z, by omega, by omega, by omega, by omega, by omega, by omega⟩⟩
    · rintro ⟨⟨i, j, k, p1, p2, p3, p4, p5, p6⟩, ⟨i2, j2, k2, r1, r2, r3, r4, r5, r6⟩⟩
      by_cases z : k = 1
      · exact ⟨0, by decide, show alN n 0 + 0 % 2 = X ∧ alN n 1 + 0 % 2 = Y ∧ alN n 2 + 0 / 2 % 2 = Z by omega, rfl⟩
      · exact ⟨1, by decide, show alN n 0 + 0 % 2 = X ∧ alN n 1 + 2 % 2 = Y ∧ alN n 2 + 2 / 2 % 2 = Z by omega, rfl⟩
  · subst e
    show (∃ k, k < 4 ∧ (alN n 0 + 1 % 2 = X ∧ alN n 1 + ecN k % 2 = Y ∧ alN n 2 + ecN k / 2 % 2 = Z) ∧ (if k < 2 then 1 else 2) = 1) ↔ (∃ i j k, i < 2 ∧ j < 1 ∧ k < 2 ∧ alN n 0 + 1 = X + i ∧ alN n 1 + 1 = (Y + 1) + j ∧ alN n 2 + 1 = Z + k) ∧ ∃ i j k, i < 2 ∧ j < 1 ∧ k < 2 ∧ alN n 0 + 2 * (1 % 2) = X + i ∧ alN n 1 + 1 = (Y + 1) + j ∧ alN n 2 + 1 = Z + k
    constructor
    · rintro ⟨k, hk, ⟨q1, q2, q3⟩, q4⟩
      have hk2 : k < 2 := Nat.lt_of_not_le fun z => absurd (q4.symm.trans (if_neg (Nat.not_lt.mpr z))) (by decide)
      have ek : ecN k = 2 * k := by rcases (show k = 0 ∨ k = 1 by omega) with z | z <;> subst z <;> rfl
      rw [ek] at q2 q3
      exact ⟨⟨alN n 0 + 1 - X, alN n 1 + 1 - (Y + 1), alN n 2 + 1 - Z, by omega, by omega, by omega, by omega, by omega, by omega⟩, ⟨alN n 0 + 2 * (1 % 2) - X, alN n 1 + 1 - (Y + 1), alN n 2 + 1 - Z, by omega, by omega, by omega, by omega, by omega, by omega⟩⟩
    · rintro ⟨⟨i, j, k, p1, p2, p3, p4, p5, p6⟩, ⟨i2, j2, k2, r1, r2, r3, r4, r5, r6⟩⟩
      by_cases z : k = 1
      · exact ⟨0, by decide, show alN n 0 + 1 % 2 = X ∧ alN n 1 + 0 % 2 = Y ∧ alN n 2 + 0 / 2 % 2 = Z by omega, rfl⟩
      · exact ⟨1, by decide, show alN n 0 + 1 % 2 = X ∧ alN n 1 + 2 % 2 = Y ∧ alN n 2 + 2 / 2 % 2 = Z by omega, rfl⟩
  · subst e
    show (∃ k, k < 4 ∧ (alN n 0 + ecN k % 2 = X ∧ alN n 1 + 2 % 2 = Y ∧ alN n 2 + ecN k / 2 % 2 = Z) ∧ (if k < 2 then 0 else 2) = 1) ↔ (∃ i j k, i < 2 ∧ j < 1 ∧ k < 2 ∧ alN n 0 + 1 = X + i ∧ alN n 1 + 1 = (Y + 1) + j ∧ alN n 2 + 1 = Z + k) ∧ ∃ i j k, i < 2 ∧ j < 1 ∧ k < 2 ∧ alN n 0 + 1 = X + i ∧ alN n 1 + 2 * (2 % 2) = (Y + 1) + j ∧ alN n 2 + 1 = Z + k
    constructor
    · rintro ⟨k, hk, -, q4⟩
      exact absurd q4 (by split <;> decide)
    · rintro ⟨⟨i, j, k, p1, p2, p3, p4, p5, p6⟩, ⟨i2, j2, k2, r1, r2, r3, r4, r5, r6⟩⟩
      omega
  · subst e
    show (∃ k, k < 4 ∧ (alN n 0 + ecN k % 2 = X ∧ alN n 1 + 3 % 2 = Y ∧ alN n 2 + ecN k / 2 % 2 = Z) ∧ (if k < 2 then 0 else 2) = 1) ↔ (∃ i j k, i < 2 ∧ j < 1 ∧ k < 2 ∧ alN n 0 + 1 = X + i ∧ alN n 1 + 1 = (Y + 1) + j ∧ alN n 2 + 1 = Z + k) ∧ ∃ i j k, i < 2 ∧ j < 1 ∧ k < 2 ∧ alN n 0 + 1 = X + i ∧ alN n 1 + 2 * (3 % 2) = (Y + 1) + j ∧ alN n 2 + 1 = Z + k
    constructor
    · rintro ⟨k, hk, -, q4⟩
      exact absurd q4 (by split <;> decide)
    · rintro ⟨⟨i, j, k, p1, p2, p3, p4, p5, p6⟩, ⟨i2, j2, k2, r1, r2, r3, r4, r5, r6⟩⟩
      omega
  · subst e
    show (∃ k, k < 4 ∧ (alN n 0 + ecN k % 2 = X ∧ alN n 1 + ecN k / 2 % 2 = Y ∧ alN n 2 + 4 % 2 = Z) ∧ (if k < 2 then 0 else 1) = 1) ↔ (∃ i j k, i < 2 ∧ j < 1 ∧ k < 2 ∧ alN n 0 + 1 = X + i ∧ alN n 1 + 1 = (Y + 1) + j ∧ alN n 2 + 1 = Z + k) ∧ ∃ i j k, i < 2 ∧ j < 1 ∧ k < 2 ∧ alN n 0 + 1 = X + i ∧ alN n 1 + 1 = (Y + 1) + j ∧ alN n 2 + 2 * (4 % 2) = Z + k
    constructor
    · rintro ⟨k, hk, ⟨q1, q2, q3⟩, q4⟩
      have hk2 : 2 ≤ k := Nat.le_of_not_lt fun z => absurd (q4.symm.trans (if_pos z)) (by decide)
      have ek : ecN k = k - 2 := by rcases (show k = 2 ∨ k = 3 by omega) with z | z <;> subst z <;> rfl
      rw [ek] at q1 q2
      exact ⟨⟨alN n 0 + 1 - X, alN n 1 + 1 - (Y + 1), alN n 2 + 1 - Z, by omega, by omega, by omega, by omega, by omega, by omega⟩, ⟨alN n 0 + 1 - X, alN n 1 + 1 - (Y + 1), alN n 2 + 2 * (4 % 2) - Z, by omega, by omega, by omega, by omega, by omega, by omega⟩⟩
    · rintro ⟨⟨i, j, k, p1, p2, p3, p4, p5, p6⟩, ⟨i2, j2, k2, r1, r2, r3, r4, r5, r6⟩⟩
      by_cases z : i = 1
      · exact ⟨2, by decide, show alN n 0 + 0 % 2 = X ∧ alN n 1 + 0 / 2 % 2 = Y ∧ alN n 2 + 4 % 2 = Z by omega, rfl⟩
      · exact ⟨3, by decide, show alN n 0 + 1 % 2 = X ∧ alN n 1 + 1 / 2 % 2 = Y ∧ alN n 2 + 4 % 2 = Z by omega, rfl⟩
  · subst e
    show (∃ k, k < 4 ∧ (alN n 0 + ecN k % 2 = X ∧ alN n 1 + ecN k / 2 % 2 = Y ∧ alN n 2 + 5 % 2 = Z) ∧ (if k < 2 then 0 else 1) = 1) ↔ (∃ i j k, i < 2 ∧ j < 1 ∧ k < 2 ∧ alN n 0 + 1 = X + i ∧ alN n 1 + 1 = (Y + 1) + j ∧ alN n 2 + 1 = Z + k) ∧ ∃ i j k, i < 2 ∧ j < 1 ∧ k < 2 ∧ alN n 0 + 1 = X + i ∧ alN n 1 + 1 = (Y + 1) + j ∧ alN n 2 + 2 * (5 % 2) = Z + k
    constructor
    · rintro ⟨k, hk, ⟨q1, q2, q3⟩, q4⟩
      have hk2 : 2 ≤ k := Nat.le_of_not_lt fun z => absurd (q4.symm.trans (if_pos z)) (by decide)
      have ek : ecN k = k - 2 := by rcases (show k = 2 ∨ k = 3 by omega) with z | z <;> subst z <;> rfl
      rw [ek] at q1 q2
      exact ⟨⟨alN n 0 + 1 - X, alN n 1 + 1 - (Y + 1), alN n 2 + 1 - Z, by omega, by omega, by omega, by omega, by omega, by omega⟩, ⟨alN n 0 + 1 - X, alN n 1 + 1 - (Y + 1), alN n 2 + 2 * (5 % 2) - Z, by omega, by omega, by omega, by omega, by omega, by omega⟩⟩
    · rintro ⟨⟨i, j, k, p1, p2, p3, p4, p5, p6⟩, ⟨i2, j2, k2, r1, r2, r3, r4, r5, r6⟩⟩
      by_cases z : i = 1
      · exact ⟨2, by decide, show alN n 0 + 0 % 2 = X ∧ alN n 1 + 0 / 2 % 2 = Y ∧ alN n 2 + 5 % 2 = Z by omega, rfl⟩
      · exact ⟨3, by decide, show alN n 0 + 1 % 2 = X ∧ alN n 1 + 1 / 2 % 2 = Y ∧ alN n 2 + 5 % 2 = Z by omega, rfl⟩
theorem edge_2 {n s X Y Z : Nat} (hn : n < 512) (hs : s < 6) (hX : X < 9) (hY : Y < 9) (hZ : Z < 9) : (∃ k, k < 4 ∧ egI n s k = 3 * (81 * X + 9 * Y + Z) + 2) ↔ at3 n s X Y (Z + 1) 2 2 1 := by
  have h0 := alN_lt hn 0
  have h1 := alN_lt hn 1
  have h2 := alN_lt hn 2
  have hc : ∀ k, egI n s k = 3 * (81 * X + 9 * Y + Z) + 2 ↔ (plN n s (usN s) 0 (ecN k) = X ∧ plN n s (usN s) 1 (ecN k) = Y ∧ plN n s (usN s) 2 (ecN k) = Z) ∧ (if k < 2 then usN s else vsN s) = 2 := fun k => dg4 (pl_lt hn) (pl_lt hn) (pl_lt hn) hX hY hZ (by unfold usN vsN; (repeat' split) <;> omega) (by decide)
  simp only [hc]
  unfold at3
  rcases (show s = 0 ∨ s = 1 ∨ s = 2 ∨ s = 3 ∨ s = 4 ∨ s = 5 by omega) with e | e | e | e | e | e
  · subst e
    show (∃ k, k < 4 ∧ (alN n 0 + 0 % 2 = X ∧ alN n 1 + ecN k % 2 = Y ∧ alN n 2 + ecN k / 2 % 2 = Z) ∧ (if k < 2 then 1 else 2) = 2) ↔ (∃ i j k, i < 2 ∧ j < 2 ∧ k < 1 ∧ alN n 0 + 1 = X + i ∧ alN n 1 + 1 = Y + j ∧ alN n 2 + 1 = (Z + 1) + k) ∧ ∃ i j k, i < 2 ∧ j < 2 ∧ k < 1 ∧ alN n 0 + 2 * (0 % 2) = X + i ∧ alN n 1 + 1 = Y + j ∧ alN n 2 + 1 = (Z + 1) + k
    constructor
    · rintro ⟨k, hk, ⟨q1, q2, q3⟩, q4⟩
      have hk2 : 2 ≤ k := Nat.le_of_not_lt fun z => absurd (q4.symm.trans (if_pos z)) (by decide)
      have ek : ecN k = k - 2 := by rcases (show k = 2 ∨ k = 3 by omega) with z | z <;> subst z <;> rfl
      rw [ek] at q2 q3
      exact ⟨⟨alN n 0 + 1 - X, alN n 1 + 1 - Y, alN n 2 + 1 - (Z + 1), by omega, by omega, by omega, by omega, by omega, by omega⟩, ⟨alN n 0 + 2 * (0 % 2) - X, alN n 1 + 1 - Y, alN n 2 + 1 - (Z + 1), by omega, by omega, by omega, by omega, by omega, by omega⟩⟩
    · rintro ⟨⟨i, j, k, p1, p2, p3, p4, p5, p6⟩, ⟨i2, j2, k2, r1, r2, r3, r4, r5, r6⟩⟩
      by_cases z : j = 1
      · exact ⟨2, by decide, show alN n 0 + 0 % 2 = X ∧ alN n 1 + 0 % 2 = Y ∧ alN n 2 + 0 / 2 % 2 = Z by omega, rfl⟩
      · exact ⟨3, by decide, show alN n 0 + 0 % 2 = X ∧ alN n 1 + 1 % 2 = Y ∧ alN n 2 + 1 / 2 % 2 = Z by omega, rfl⟩
  · subst e
    show (∃ k, k < 4 ∧ (alN n 0 + 1 % 2 = X ∧ alN n 1 + ecN k % 2 = Y ∧ alN n 2 + ecN k / 2 % 2 = Z) ∧ (if k < 2 then 1 else 2) = 2) ↔ (∃ i j k, i < 2 ∧ j < 2 ∧ k < 1 ∧ alN n 0 + 1 = X + i ∧ alN n 1 + 1 = Y + j ∧ alN n 2 + 1 = (Z + 1) + k) ∧ ∃ i j k, i < 2 ∧ j < 2 ∧ k < 1 ∧ alN n 0 + 2 * (1 % 2) = X + i ∧ alN n 1 + 1 = Y + j ∧ alN n 2 + 1 = (Z + 1) + k
    constructor
    · rintro ⟨k, hk, ⟨q1, q2, q3⟩, q4⟩
      have hk2 : 2 ≤ k := Nat.le_of_not_lt fun z => absurd (q4.symm.trans (if_pos z)) (by decide)
      have ek : ecN k = k - 2 := by rcases (show k = 2 ∨ k = 3 by omega) with z | z <;> subst z <;> rfl
      rw [ek] at q2 q3
      exact ⟨⟨alN n 0 + 1 - X, alN n 1 + 1 - Y, alN n 2 + 1 - (Z + 1), by omega, by omega, by omega, by omega, by omega, by omega⟩, ⟨alN n 0 + 2 * (1 % 2) - X, alN n 1 + 1 - Y, alN n 2 + 1 - (Z + 1), by omega, by omega, by omega, by omega, by omega, by omega⟩⟩
    · rintro ⟨⟨i, j, k, p1, p2, p3, p4, p5, p6⟩, ⟨i2, j2, k2, r1, r2, r3, r4, r5, r6⟩⟩
      by_cases z : j = 1
      · exact ⟨2, by decide, show alN n 0 + 1 % 2 = X ∧ alN n 1 + 0 % 2 = Y ∧ alN n 2 + 0 / 2 % 2 = Z by omega, rfl⟩
      · exact ⟨3, by decide, show alN n 0 + 1 % 2 = X ∧ alN n 1 + 1 % 2 = Y ∧ alN n 2 + 1 / 2 % 2 = Z by omega, rfl⟩
  · subst e
    show (∃ k, k < 4 ∧ (alN n 0 + ecN k % 2 = X ∧ alN n 1 + 2 % 2 = Y ∧ alN n 2 + ecN k / 2 % 2 = Z) ∧ (if k < 2 then 0 else 2) = 2) ↔ (∃ i j k, i < 2 ∧ j < 2 ∧ k < 1 ∧ alN n 0 + 1 = X + i ∧ alN n 1 + 1 = Y + j ∧ alN n 2 + 1 = (Z + 1) + k) ∧ ∃ i j k, i < 2 ∧ j < 2 ∧ k < 1 ∧ alN n 0 + 1 = X + i ∧ alN n 1 + 2 * (2 % 2) = Y + j ∧ alN n 2 + 1 = (Z + 1) + k
    constructor
    · rintro ⟨k, hk, ⟨q1, q2, q3⟩, q4⟩
      have hk2 : 2 ≤ k := Nat.le_of_not_lt fun z => absurd (q4.symm.trans (if_pos z)) (by decide)
      have ek : ecN k = k - 2 := by rcases (show k = 2 ∨ k = 3 by omega) with z | z <;> subst z <;> rfl
      rw [ek] at q1 q3
      exact ⟨⟨alN n 0 + 1 - X, alN n 1 + 1 - Y, alN n 2 + 1 - (Z + 1), by omega, by omega, by omega, by omega, by omega, by omega⟩, ⟨alN n 0 + 1 - X, alN n 1 + 2 * (2 % 2) - Y, alN n 2 + 1 - (Z + 1), by omega, by omega, by omega, by omega, by omega, by omega⟩⟩
    · rintro ⟨⟨i, j, k, p1, p2, p3, p4, p5, p6⟩, ⟨i2, j2, k2, r1, r2, r3, r4, r5, r6⟩⟩
      by_cases z : i = 1
      · exact ⟨2, by decide, show alN n 0 + 0 % 2 = X ∧ alN n 1 + 2 % 2 = Y ∧ alN n 2 + 0 / 2 % 2 = Z by omega, rfl⟩
      · exact ⟨3, by decide, show alN n 0 + 1 % 2 = X ∧ alN n 1 + 2 % 2 = Y ∧ alN n 2 + 1 / 2 % 2 = Z by omega, rfl⟩
  · subst e
    show (∃ k, k < 4 ∧ (alN n 0 + ecN k % 2 = X ∧ alN n 1 + 3 % 2 = Y ∧ alN n 2 + ecN k / 2 % 2 = Z) ∧ (if k < 2 then 0 else 2) = 2) ↔ (∃ i j k, i < 2 ∧ j < 2 ∧ k < 1 ∧ alN n 0 + 1 = X + i ∧ alN n 1 + 1 = Y + j ∧ alN n 2 + 1 = (Z + 1) + k) ∧ ∃ i j k, i < 2 ∧ j < 2 ∧ k < 1 ∧ alN n 0 + 1 = X + i ∧ alN n 1 + 2 * (3 % 2) = Y + j ∧ alN n 2 + 1 = (Z + 1) + k
    constructor
    · rintro ⟨k, hk, ⟨q1, q2, q3⟩, q4⟩
      have hk2 : 2 ≤ k := Nat.le_of_not_lt fun z => absurd (q4.symm.trans (if_pos z)) (by decide)
      have ek : ecN k = k - 2 := by rcases (show k = 2 ∨ k = 3 by omega) with z | z <;> subst z <;> rfl
      rw [ek] at q1 q3
      exact ⟨⟨alN n 0 + 1 - X, alN n 1 + 1 - Y, alN n 2 + 1 - (Z + 1), by omega, by omega, by omega, by omega, by omega, by omega⟩, ⟨alN n 0 + 1 - X, alN n 1 + 2 * (3 % 2) - Y, alN n 2 + 1 - (Z + 1), by omega, by omega, by omega, by omega, by omega, by omega⟩⟩
    · rintro ⟨⟨i, j, k, p1, p2, p3, p4, p5, p6⟩, ⟨i2, j2, k2, r1, r2, r3, r4, r5, r6⟩⟩
      by_cases z : i = 1
      · exact ⟨2, by decide, show alN n 0 + 0 % 2 = X ∧ alN n 1 + 3 % 2 = Y ∧ alN n 2 + 0 / 2 % 2 = Z by omega, rfl⟩
      · exact ⟨3, by decide, show alN n 0 + 1 % 2 = X ∧ alN n 1 + 3 % 2 = Y ∧ alN n 2 + 1 / 2 % 2 = Z by omega, rfl⟩
  · subst e
    show (∃ k, k < 4 ∧ (alN n 0 + ecN k % 2 = X ∧ alN n 1 + ecN k / 2 % 2 = Y ∧ alN n 2 + 4 % 2 = Z) ∧ (if k < 2 then 0 else 1) = 2) ↔ (∃ i j k, i < 2 ∧ j < 2 ∧ k < 1 ∧ alN n 0 + 1 = X + i ∧ alN n 1 + 1 = Y + j ∧ alN n 2 + 1 = (Z + 1) + k) ∧ ∃ i j k, i < 2 ∧ j < 2 ∧ k < 1 ∧ alN n 0 + 1 = X + i ∧ alN n 1 + 1 = Y + j ∧ alN n 2 + 2 * (4 % 2) = (Z + 1) + k
    constructor
    · rintro ⟨k, hk, -, q4⟩
      exact absurd q4 (by split <;> decide)
    · rintro ⟨⟨i, j, k, p1, p2, p3, p4, p5, p6⟩, ⟨i2, j2, k2, r1, r2, r3, r4, r5, r6⟩⟩
      omega
  · subst e
    show (∃ k, k < 4 ∧ (alN n 0 + ecN k % 2 = X ∧ alN n 1 + ecN k / 2 % 2 = Y ∧ alN n 2 + 5 % 2 = Z) ∧ (if k < 2 then 0 else 1) = 2) ↔ (∃ i j k, i < 2 ∧ j < 2 ∧ k < 1 ∧ alN n 0 + 1 = X + i ∧ alN n 1 + 1 = Y + j ∧ alN n 2 + 1 = (Z + 1) + k) ∧ ∃ i j k, i < 2 ∧ j < 2 ∧ k < 1 ∧ alN n 0 + 1 = X + i ∧ alN n 1 + 1 = Y + j ∧ alN n 2 + 2 * (5 % 2) = (Z + 1) + k
    constructor
    · rintro ⟨k, hk, -, q4⟩
      exact absurd q4 (by split <;> decide)
    · rintro ⟨⟨i, j, k, p1, p2, p3, p4, p5, p6⟩, ⟨i2, j2, k2, r1, r2, r3, r4, r5, r6⟩⟩
      omega
