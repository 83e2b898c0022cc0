/-! the Euler count of both -/
def eqA (b : Nat → Bool) (y z x : Nat) : Bool := ((ex b x (y + 1) (z + 1) || ex b x y (z + 1)) || ex b x (y + 1) z) || ex b x y z
def eqB (b : Nat → Bool) (y z x : Nat) : Bool := ((ex b x (y + 1) (z + 1) && ex b x y (z + 1)) && ex b x (y + 1) z) && ex b x y z
def eP2 (b : Nat → Bool) (y z x : Nat) : Bool := ex b x (y + 1) (z + 1) || ex b x y (z + 1)
def eQ2 (b : Nat → Bool) (y z x : Nat) : Bool := ex b x (y + 1) (z + 1) && ex b x y (z + 1)
def eP1 (b : Nat → Bool) (y z x : Nat) : Bool := ex b x (y + 1) (z + 1) || ex b x (y + 1) z
def eQ1 (b : Nat → Bool) (y z x : Nat) : Bool := ex b x (y + 1) (z + 1) && ex b x (y + 1) z
def cC (b : Nat → Bool) (x y z : Nat) : Bool := mx9 (eqA b y z) (eqB b y z) x
def cE0 (b : Nat → Bool) (x y z : Nat) : Bool := eqA b y z (x + 1) && !eqB b y z (x + 1)
def cE1 (b : Nat → Bool) (x y z : Nat) : Bool := mx9 (eP1 b y z) (eQ1 b y z) x
def cE2 (b : Nat → Bool) (x y z : Nat) : Bool := mx9 (eP2 b y z) (eQ2 b y z) x
def sE (b : Nat → Bool) (z y : Nat) : Nat := fb_ct (fun x => cE0 b x y z) 9 + fb_ct (fun x => cE2 b x y z) 9 + fb_ct (fun x => cE1 b x y z) 9
theorem alg6 (n a b c d g h : Int32) : (((((n + a) - b) + c) - d) - g) - h = (n + (a + c)) - (b + (d + g + h)) := by
  simp only [Int32.sub_eq_add_neg, Int32.neg_add]
  ac_rfl
theorem ex_0 (b : Nat → Bool) (j k : Nat) : ex b 0 j k = false := ex_o (by omega)
theorem or_lt {a b : Nat} (ha : a < 256) (hb : b < 256) : a ||| b < 256 := Nat.or_lt_two_pow (n := 8) ha hb
theorem and_lt8 {a b : Nat} (ha : a < 256) : a &&& b < 256 := Nat.lt_of_le_of_lt Nat.and_le_left ha
theorem i_n1 {y : Nat} (h : y < 9) : (nI y).toInt = ((y + 1 : Nat) : Int) - 1 ∧ (nI y - nI 1).toInt = (y : Int) - 1 := by
  have e1 : (nI 1).toInt = 1 := by decide
  have ey : (nI y).toInt = (y : Int) := nI_toInt (by omega)
  refine ⟨by rw [ey]; omega, ?_⟩
  rw [fb_subI (by rw [ey, e1]; omega) (by rw [ey, e1]; omega), ey, e1]
theorem eul1_n (f : Nat → Int64) {z y : Nat} (hz : z < 9) (hy : y < 9) (n : Int32) : eul1 f z n y = (((n + nI (fb_ct (fun x => cC (cb f) x y z) 9)) - nI (fb_ct (fun x => cE0 (cb f) x y z) 9)) - nI (fb_ct (fun x => cE2 (cb f) x y z) 9)) - nI (fb_ct (fun x => cE1 (cb f) x y z) 9) := by
  obtain ⟨h, h8, hr, hb⟩ := row_e f (i_n1 hy).1 (i_n1 hz).1
  obtain ⟨p, p8, pr, pb⟩ := row_e f (i_n1 hy).2 (i_n1 hz).1
  obtain ⟨d, d8, dr, db⟩ := row_e f (i_n1 hy).1 (i_n1 hz).2
  obtain ⟨t, t8, tr, tb⟩ := row_e f (i_n1 hy).2 (i_n1 hz).2
  have A8 := or_lt (or_lt (or_lt h8 p8) d8) t8
  have bA : ∀ x, (((h ||| p) ||| d) ||| t).testBit x = eqA (cb f) y z (x + 1) := fun x => by rw [Nat.testBit_or, Nat.testBit_or, Nat.testBit_or, hb, pb, db, tb]; rfl
  have bB : ∀ x, (((h &&& p) &&& d) &&& t).testBit x = eqB (cb f) y z (x + 1) := fun x => by rw [Nat.testBit_and, Nat.testBit_and, Nat.testBit_and, hb, pb, db, tb]; rfl
  have m1 := mix_n A8 (and_lt8 (and_lt8 (and_lt8 h8))) bA bB (by unfold eqA; rw [ex_0, ex_0, ex_0, ex_0]; rfl) (by unfold eqB; rw [ex_0]; rfl) (fun x => by unfold eqA eqB; cases ex (cb f) x (y + 1) (z + 1) <;> simp)
  have m2 := mix_n (a := eP2 (cb f) y z) (b := eQ2 (cb f) y z) (or_lt h8 p8) (and_lt8 (b := p) h8) (fun x => by rw [Nat.testBit_or, hb, pb]; rfl) (fun x => by rw [Nat.testBit_and, hb, pb]; rfl) (by unfold eP2; rw [ex_0, ex_0]; rfl) (by unfold eQ2; rw [ex_0]; rfl) (fun x => by unfold eP2 eQ2; cases ex (cb f) x (y + 1) (z + 1) <;> simp)
  have m3 := mix_n (a := eP1 (cb f) y z) (b := eQ1 (cb f) y z) (or_lt h8 d8) (and_lt8 (b := d) h8) (fun x => by rw [Nat.testBit_or, hb, db]; rfl) (fun x => by rw [Nat.testBit_and, hb, db]; rfl) (by unfold eP1; rw [ex_0, ex_0]; rfl) (by unfold eQ1; rw [ex_0]; rfl) (fun x => by unfold eP1 eQ1; cases ex (cb f) x (y + 1) (z + 1) <;> simp)
  have m4 : bci (nI (((h ||| p) ||| d) ||| t) &&& (nI (((h &&& p) &&& d) &&& t) ^^^ -1)) = nI (fb_ct (fun x => cE0 (cb f) x y z) 9) := by
    rw [nI_anot A8]
    refine bci_ct (fun k => ?_) (fun k hk => ?_)
    · rw [Nat.testBit_and, Nat.testBit_xor, bA, bB]
      show (eqA (cb f) y z (k + 1) && (eqB (cb f) y z (k + 1) ^^ (255 : Nat).testBit k)) = (eqA (cb f) y z (k + 1) && !eqB (cb f) y z (k + 1))
      by_cases h9 : k < 8
      · rw [show (255 : Nat).testBit k = true from (by decide : ∀ k, k < 8 → (255 : Nat).testBit k = true) k h9, Bool.xor_true]
      · have := bA k
        rw [tb8 A8 (by omega)] at this
        rw [← this, Bool.false_and, Bool.false_and]
    · have := bA k
      rw [tb8 A8 (by omega)] at this
      show (eqA (cb f) y z (k + 1) && _) = false
      rw [← this, Bool.false_and]
  unfold eul1
  dsimp only
  rw [hr, pr, dr, tr, nI_or, nI_or, nI_or, nI_or, nI_and, nI_and, nI_and, nI_and, m1, m4, m2, m3]
  rfl
theorem eulY_s' (f : Nat → Int64) (z : Nat) (n : Int32) (y : Nat) : eulY f z n (y + 1) = eul1 f z (eulY f z n y) y := by rw [eulY]
theorem eulZ_s' (f : Nat → Int64) (n : Int32) (z : Nat) : eulZ f n (z + 1) = eulY f z (eulZ f n z) 9 := by rw [eulZ]
theorem eulY_n (f : Nat → Int64) {z : Nat} (hz : z < 9) (n a b : Int32) : ∀ y, y ≤ 9 → eulY f z ((n + a) - b) y = (n + (a + nI (fb_sm (fun y => fb_ct (fun x => cC (cb f) x y z) 9) y))) - (b + nI (fb_sm (sE (cb f) z) y)) := by
  intro y
  induction y with
  | zero =>
    intro _
    show (n + a) - b = (n + (a + 0)) - (b + 0)
    rw [Int32.add_zero, Int32.add_zero]
  | succ y ih =>
    intro hy
    rw [eulY_s', ih (by omega), eul1_n f hz (by omega), alg6, fb_sm_succ, fb_sm_succ]
    unfold sE
    rw [← nI_add, ← nI_add (fb_sm _ y), ← nI_add (_ + _), ← nI_add, Int32.add_assoc a, Int32.add_assoc b]
theorem eulZ_n (f : Nat → Int64) (n : Int32) : ∀ z, z ≤ 9 → eulZ f n z = (n + nI (fb_sm (fun z => fb_sm (fun y => fb_ct (fun x => cC (cb f) x y z) 9) 9) z)) - nI (fb_sm (fun z => fb_sm (sE (cb f) z) 9) z) := by
  intro z
  induction z with
  | zero =>
    intro _
    show n = (n + 0) - 0
    rw [Int32.add_zero, Int32.sub_zero]
  | succ z ih =>
    intro hz
    rw [eulZ_s', ih (by omega), eulY_n f (by omega) _ _ _ 9 (Nat.le_refl _), nI_add, nI_add, fb_sm_succ _ z, fb_sm_succ _ z]
