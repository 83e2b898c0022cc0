/-! the class's count: rows of eight cells as numbers -/
theorem nI_bv (m : Nat) : (nI m).toBitVec = BitVec.ofNat 32 m := rfl
theorem nI_bit (m : Nat) {k : Nat} (hk : k < 32) : (nI m).toBitVec.getLsbD k = m.testBit k := by
  rw [nI_bv, BitVec.getLsbD_ofNat, decide_eq_true hk, Bool.true_and]
theorem nI_ext {x : Int32} {m : Nat} (h : ∀ k, k < 32 → x.toBitVec.getLsbD k = m.testBit k) : x = nI m := Int32.toBitVec_inj.mp (BitVec.eq_of_getLsbD_eq fun i hi => by rw [h i hi, nI_bit m hi])
theorem nI_or (a b : Nat) : nI a ||| nI b = nI (a ||| b) := nI_ext fun k hk => by rw [Int32.toBitVec_or, BitVec.getLsbD_or, nI_bit a hk, nI_bit b hk, Nat.testBit_or]
theorem nI_and (a b : Nat) : nI a &&& nI b = nI (a &&& b) := nI_ext fun k hk => by rw [Int32.toBitVec_and, BitVec.getLsbD_and, nI_bit a hk, nI_bit b hk, Nat.testBit_and]
theorem tb8 {m k : Nat} (hm : m < 256) (hk : 8 ≤ k) : m.testBit k = false := Nat.testBit_lt_two_pow (Nat.lt_of_lt_of_le hm (Nat.pow_le_pow_right (by decide) hk : 2 ^ 8 ≤ 2 ^ k))
theorem nI_anot {a b : Nat} (ha : a < 256) : nI a &&& (nI b ^^^ -1) = nI (a &&& (b ^^^ 255)) := nI_ext fun k hk => by
  rw [Int32.toBitVec_and, BitVec.getLsbD_and, Int32.toBitVec_xor, BitVec.getLsbD_xor, nI_bit a hk, nI_bit b hk, show (-1 : Int32).toBitVec = BitVec.allOnes 32 from rfl, BitVec.getLsbD_allOnes, decide_eq_true hk, Nat.testBit_and, Nat.testBit_xor]
  by_cases h : k < 8
  · rw [show (255 : Nat).testBit k = true from (by decide : ∀ k, k < 8 → (255 : Nat).testBit k = true) k h]
  · rw [tb8 ha (by omega), Bool.false_and, Bool.false_and]
theorem sh1_n : ∀ a, a < 256 → shl1 (nI a) = nI (2 * a) := by decide +kernel
theorem tb2 (a k : Nat) : (2 * a).testBit k = (decide (0 < k) && a.testBit (k - 1)) := by
  cases k with
  | zero => rw [Nat.testBit_zero]; simp
  | succ k => rw [Nat.testBit_succ, show 2 * a / 2 = a by omega]; simp
theorem bci_c0 : ∀ n, n < 512 → bci (nI n) = nI (fb_ct (fun x => n.testBit x) 9) := by decide +kernel
theorem tb9 {m : Nat} (h : ∀ k, 9 ≤ k → m.testBit k = false) : m < 512 := Nat.lt_pow_two_of_testBit (n := 9) m h
/-- how many of nine -/
theorem bci_ct {m : Nat} {p : Nat → Bool} (h : ∀ k, m.testBit k = p k) (h9 : ∀ k, 9 ≤ k → p k = false) : bci (nI m) = nI (fb_ct p 9) := by
  rw [bci_c0 m (tb9 fun k hk => by rw [h k, h9 k hk])]
  exact congrArg nI (fb_ct_cong fun k _ => h k)
/-- a row of eight cells -/
theorem row_e (f : Nat → Int64) {Y Z : Int32} {j k : Nat} (eY : Y.toInt = (j : Int) - 1) (eZ : Z.toInt = (k : Int) - 1) : ∃ m, m < 256 ∧ rowI f Y Z = nI m ∧ ∀ x, m.testBit x = ex (cb f) (x + 1) j k := by
  by_cases h : insd 0 Y Z = true
  · have g := (insd_e 0 Y Z).mp h
    have e0 : (0 : Int32).toInt = 0 := by decide
    have hY : Y = nI (j - 1) := Int32.toInt_inj.mp (by rw [nI_toInt (by omega)]; omega)
    have hZ : Z = nI (k - 1) := Int32.toInt_inj.mp (by rw [nI_toInt (by omega)]; omega)
    have hb : ∀ x, (shr (f (k - 1)) ((j - 1) * 8) &&& 255).toBitVec.toNat.testBit x = ex (cb f) (x + 1) j k := fun x => by
      show bw (shr (f (k - 1)) ((j - 1) * 8) &&& 255) x = _
      rw [bw_and, bw_shr]
      by_cases hx : x < 8
      · rw [show bw (255 : Int64) x = true from (by decide : ∀ x, x < 8 → bw (255 : Int64) x = true) x hx, Bool.and_true, ex_i (by omega)]
        unfold cb po
        rw [show (64 * (x + 1 - 1) + 8 * (j - 1) + (k - 1)) % 8 = k - 1 by omega, show (64 * (x + 1 - 1) + 8 * (j - 1) + (k - 1)) / 8 % 8 = j - 1 by omega, show (64 * (x + 1 - 1) + 8 * (j - 1) + (k - 1)) / 64 = x by omega]
      · rw [ex_o (by omega), show bw (255 : Int64) x = false from ?_, Bool.and_false]
        by_cases h64 : x < 64
        · exact (by decide +kernel : ∀ x, x < 64 → ¬ x < 8 → bw (255 : Int64) x = false) x h64 hx
        · exact bw_ge _ (by omega)
    refine ⟨_, Nat.lt_pow_two_of_testBit (n := 8) _ (fun x hx => ?_), ?_, hb⟩
    · rw [hb x, ex_o (by omega)]
    · unfold rowI
      rw [if_pos h, hY, hZ, cl8 (by omega), cl8 (by omega)]
      refine nI_ext fun x hx => ?_
      show ((shr (f (k - 1)) ((j - 1) * 8) &&& 255).toBitVec.signExtend 32).getLsbD x = (shr (f (k - 1)) ((j - 1) * 8) &&& 255).toBitVec.getLsbD x
      rw [BitVec.signExtend_eq_setWidth_of_le _ (by decide), BitVec.getLsbD_setWidth, decide_eq_true hx, Bool.true_and]
  · refine ⟨0, by decide, by unfold rowI; rw [if_neg h]; rfl, fun x => ?_⟩
    rw [Nat.zero_testBit, ex_o]
    intro q
    apply h
    have e0 : (0 : Int32).toInt = 0 := by decide
    rw [insd_e, e0]
    omega
/-- mixed of nine: any of two neighbours' a, not both b -/
def mx9 (a b : Nat → Bool) (x : Nat) : Bool := (a (x + 1) || a x) && !(b (x + 1) && b x)
theorem mix_n {A B : Nat} {a b : Nat → Bool} (hA : A < 256) (hB : B < 256) (ha : ∀ x, A.testBit x = a (x + 1)) (hb : ∀ x, B.testBit x = b (x + 1)) (a0 : a 0 = false) (b0 : b 0 = false) (hab : ∀ x, b x = true → a x = true) : mixI (nI A) (nI B) = nI (fb_ct (mx9 a b) 9) := by
  have a8 : ∀ x, 9 ≤ x → a x = false := fun x hx => by have := ha (x - 1); rw [tb8 hA (by omega), show x - 1 + 1 = x by omega] at this; exact this.symm
  have b8 : ∀ x, 9 ≤ x → b x = false := fun x hx => by have := hb (x - 1); rw [tb8 hB (by omega), show x - 1 + 1 = x by omega] at this; exact this.symm
  have t : ∀ (C : Nat) (c : Nat → Bool), (∀ x, C.testBit x = c (x + 1)) → c 0 = false → ∀ x, (2 * C).testBit x = c x := fun C c hc c0 x => by
    rw [tb2]
    cases x with
    | zero => rw [c0]; rfl
    | succ x => rw [show x + 1 - 1 = x by omega, hc x]; simp
  have p1 : bci (nI (A ||| 2 * A)) = nI (fb_ct (fun x => a (x + 1) || a x) 9) := bci_ct (fun k => by rw [Nat.testBit_or, ha k, t A a ha a0 k]) (fun k hk => by rw [a8 (k + 1) (by omega), a8 k hk]; rfl)
  have p2 : bci (nI (B &&& 2 * B)) = nI (fb_ct (fun x => b (x + 1) && b x) 9) := bci_ct (fun k => by rw [Nat.testBit_and, hb k, t B b hb b0 k]) (fun k hk => by rw [b8 k hk, Bool.and_false])
  have e : fb_ct (fun x => a (x + 1) || a x) 9 = fb_ct (mx9 a b) 9 + fb_ct (fun x => b (x + 1) && b x) 9 := by
    rw [← fb_ct_or (fun k _ => by
      show ¬ (mx9 a b k = true ∧ (b (k + 1) && b k) = true)
      unfold mx9
      cases (b (k + 1) && b k) <;> simp)]
    refine fb_ct_cong fun k _ => ?_
    show (a (k + 1) || a k) = (mx9 a b k || (b (k + 1) && b k))
    unfold mx9
    have q1 := hab k
    have q2 := hab (k + 1)
    revert q1 q2
    cases a (k + 1) <;> cases a k <;> cases b (k + 1) <;> cases b k <;> decide
  unfold mixI
  rw [sh1_n A hA, sh1_n B hB, nI_or, nI_and, p1, p2, e, ← nI_add, Int32.add_sub_cancel]
