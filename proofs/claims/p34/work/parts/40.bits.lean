/-! bits of layers, cells, squares, names -/
/-- the neighbour at a side, by numbers -/
def nbN (n s : Nat) : Option Nat :=
  if s = 0 then (if n / 64 = 0 then none else some (n - 64)) else if s = 1 then (if n / 64 = 7 then none else some (n + 64))
  else if s = 2 then (if n / 8 % 8 = 0 then none else some (n - 8)) else if s = 3 then (if n / 8 % 8 = 7 then none else some (n + 8))
  else if s = 4 then (if n % 8 = 0 then none else some (n - 1)) else (if n % 8 = 7 then none else some (n + 1))
theorem nbN_0 (n : Nat) : nbN n 0 = if n / 64 = 0 then none else some (n - 64) := rfl
theorem nbN_1 (n : Nat) : nbN n 1 = if n / 64 = 7 then none else some (n + 64) := rfl
theorem nbN_2 (n : Nat) : nbN n 2 = if n / 8 % 8 = 0 then none else some (n - 8) := rfl
theorem nbN_3 (n : Nat) : nbN n 3 = if n / 8 % 8 = 7 then none else some (n + 8) := rfl
theorem nbN_4 (n : Nat) : nbN n 4 = if n % 8 = 0 then none else some (n - 1) := rfl
theorem nbN_5 (n : Nat) : nbN n 5 = if n % 8 = 7 then none else some (n + 1) := rfl
theorem nbN_lt {n s b : Nat} (hn : n < 512) (h : nbN n s = some b) : b < 512 := by
  unfold nbN at h
  repeat' split at h
  all_goals first | (cases h; omega) | cases h
theorem bw_and (v w : Int64) (k : Nat) : bw (v &&& w) k = (bw v k && bw w k) := by unfold bw; rw [Int64.toBitVec_and, BitVec.getLsbD_and]
theorem bw_not (v : Int64) {k : Nat} (hk : k < 64) : bw (v ^^^ -1) k = !bw v k := by
  unfold bw
  rw [Int64.toBitVec_xor, BitVec.getLsbD_xor, show (-1 : Int64).toBitVec = BitVec.allOnes 64 from rfl, BitVec.getLsbD_allOnes, decide_eq_true hk]
  cases v.toBitVec.getLsbD k <;> rfl
theorem bw_0 (k : Nat) : bw 0 k = false := BitVec.getLsbD_zero
theorem bw_shl (w : Int64) (s : Nat) {k : Nat} (hk : k < 64) : bw (shl w s) k = (decide (s ≤ k) && bw w (k - s)) := by
  unfold bw shl
  show (w.toBitVec <<< s).getLsbD k = _
  rw [BitVec.getLsbD_shiftLeft, decide_eq_true hk, Bool.true_and]
  by_cases h : k < s
  · rw [decide_eq_true h, decide_eq_false (show ¬ s ≤ k by omega)]; rfl
  · rw [decide_eq_false h, decide_eq_true (show s ≤ k by omega)]; rfl
theorem bw_shr (w : Int64) (s k : Nat) : bw (shr w s) k = bw w (s + k) := by
  unfold bw shr
  show (w.toBitVec >>> s).getLsbD k = _
  rw [BitVec.getLsbD_ushiftRight]
theorem bw_ge (w : Int64) {k : Nat} (h : 64 ≤ k) : bw w k = false := BitVec.getLsbD_of_ge _ _ h
theorem bw_ext {v w : Int64} (h : ∀ k, k < 64 → bw v k = bw w k) : v = w := Int64.toBitVec_inj.mp (BitVec.eq_of_getLsbD_eq fun i hi => h i hi)
theorem bw_c0 : ∀ k, k < 64 → bw (-72340172838076674) k = decide (¬ k % 8 = 0) := by decide +kernel
theorem bw_c7 : ∀ k, k < 64 → bw 9187201950435737471 k = decide (¬ k % 8 = 7) := by decide +kernel
/-- the place of a cell in its layer; a cell of a set -/
def po (n : Nat) : Nat := n / 8 % 8 * 8 + n / 64
def cb (f : Nat → Int64) (n : Nat) : Bool := bw (f (n % 8)) (po n)
theorem po_lt {n : Nat} (h : n < 512) : po n < 64 := by unfold po; omega
/-- the cell at a place -/
def ix (z k : Nat) : Nat := 64 * (k % 8) + 8 * (k / 8) + z
theorem ix_lt {z k : Nat} (hz : z < 8) (hk : k < 64) : ix z k < 512 := by unfold ix; omega
theorem ix_m {z k : Nat} (hz : z < 8) (hk : k < 64) : ix z k % 8 = z := by unfold ix; omega
theorem ix_p {z k : Nat} (hz : z < 8) (hk : k < 64) : po (ix z k) = k := by
  unfold po ix
  have h1 : (64 * (k % 8) + 8 * (k / 8) + z) / 8 = 8 * (k % 8) + k / 8 := by omega
  have h2 : (64 * (k % 8) + 8 * (k / 8) + z) / 64 = k % 8 := by omega
  rw [h1, h2]
  omega
theorem cb_ix (f : Nat → Int64) {z k : Nat} (hz : z < 8) (hk : k < 64) : cb f (ix z k) = bw (f z) k := by unfold cb; rw [ix_m hz hk, ix_p hz hk]
theorem ix_cb {n : Nat} (h : n < 512) : ix (n % 8) (po n) = n := by
  unfold ix po
  have h1 : (n / 8 % 8 * 8 + n / 64) % 8 = n / 64 := by omega
  have h2 : (n / 8 % 8 * 8 + n / 64) / 8 = n / 8 % 8 := by omega
  rw [h1, h2]
  omega
theorem cb_ext {f g : Nat → Int64} (h : ∀ n, n < 512 → cb f n = cb g n) : ∀ z, z < 8 → f z = g z := fun z hz =>
  bw_ext fun k hk => by rw [← cb_ix f hz hk, ← cb_ix g hz hk, h _ (ix_lt hz hk)]
theorem cb_bsd (f : Nat → Int64) {n s : Nat} (hn : n < 512) (hs : s < 6) : bw (bsd f s (n % 8)) (po n) = (nbN n s).elim false (cb f) := by
  have hp := po_lt hn
  have hs6 : s = 0 ∨ s = 1 ∨ s = 2 ∨ s = 3 ∨ s = 4 ∨ s = 5 := by omega
  rcases hs6 with rfl | rfl | rfl | rfl | rfl | rfl
  · rw [show bsd f 0 (n % 8) = shl (f (n % 8)) 1 &&& (-72340172838076674) from rfl, bw_and, bw_shl _ _ hp, bw_c0 _ hp, nbN_0]
    by_cases h : n / 64 = 0
    · rw [if_pos h, decide_eq_false (show ¬ ¬ po n % 8 = 0 by unfold po; omega), Bool.and_false]; rfl
    · rw [if_neg h, decide_eq_true (show ¬ po n % 8 = 0 by unfold po; omega), Bool.and_true, decide_eq_true (show 1 ≤ po n by unfold po; omega), Bool.true_and]
      show _ = cb f (n - 64)
      unfold cb
      rw [show (n - 64) % 8 = n % 8 by omega, show po (n - 64) = po n - 1 by unfold po; omega]
  · rw [show bsd f 1 (n % 8) = shr (f (n % 8)) 1 &&& 9187201950435737471 from rfl, bw_and, bw_shr, bw_c7 _ hp, nbN_1]
    by_cases h : n / 64 = 7
    · rw [if_pos h, decide_eq_false (show ¬ ¬ po n % 8 = 7 by unfold po; omega), Bool.and_false]; rfl
    · rw [if_neg h, decide_eq_true (show ¬ po n % 8 = 7 by unfold po; omega), Bool.and_true]
      show _ = cb f (n + 64)
      unfold cb
      rw [show (n + 64) % 8 = n % 8 by omega, show po (n + 64) = 1 + po n by unfold po; omega]
  · rw [show bsd f 2 (n % 8) = shl (f (n % 8)) 8 from rfl, bw_shl _ _ hp, nbN_2]
    by_cases h : n / 8 % 8 = 0
    · rw [if_pos h, decide_eq_false (show ¬ 8 ≤ po n by unfold po; omega)]; rfl
    · rw [if_neg h, decide_eq_true (show 8 ≤ po n by unfold po; omega), Bool.true_and]
      show _ = cb f (n - 8)
      unfold cb
      rw [show (n - 8) % 8 = n % 8 by omega, show po (n - 8) = po n - 8 by unfold po; omega]
  · rw [show bsd f 3 (n % 8) = shr (f (n % 8)) 8 from rfl, bw_shr, nbN_3]
    by_cases h : n / 8 % 8 = 7
    · rw [if_pos h, bw_ge _ (show 64 ≤ 8 + po n by unfold po; omega)]; rfl
    · rw [if_neg h]
      show _ = cb f (n + 8)
      unfold cb
      rw [show (n + 8) % 8 = n % 8 by omega, show po (n + 8) = 8 + po n by unfold po; omega]
  · rw [show bsd f 4 (n % 8) = if n % 8 = 0 then 0 else f (n % 8 - 1) from rfl, nbN_4]
    by_cases h : n % 8 = 0
    · rw [if_pos h, if_pos h, bw_0]; rfl
    · rw [if_neg h, if_neg h]
      show _ = cb f (n - 1)
      unfold cb
      rw [show (n - 1) % 8 = n % 8 - 1 by omega, show po (n - 1) = po n by unfold po; omega]
  · rw [show bsd f 5 (n % 8) = if n % 8 + 1 < 8 then f (n % 8 + 1) else 0 from rfl, nbN_5]
    by_cases h : n % 8 = 7
    · rw [if_pos h, if_neg (by omega), bw_0]; rfl
    · rw [if_neg h, if_pos (by omega)]
      show _ = cb f (n + 1)
      unfold cb
      rw [show (n + 1) % 8 = n % 8 + 1 by omega, show po (n + 1) = po n by unfold po; omega]
/-- a square of a set -/
def sqB (b : Nat → Bool) (n s : Nat) : Bool := b n && !((nbN n s).elim false b)
theorem cb_sqa (f : Nat → Int64) {n s : Nat} (hn : n < 512) (hs : s < 6) : bw (sqa f s (n % 8)) (po n) = sqB (cb f) n s := by
  unfold sqa sqB
  rw [bw_and, bw_not _ (po_lt hn), cb_bsd f hn hs]
  rfl
theorem sqB_ex {b c : Nat → Bool} (h : ∀ n, n < 512 → b n = c n) {n s : Nat} (hn : n < 512) : sqB b n s = sqB c n s := by
  unfold sqB
  rw [h n hn]
  cases e : nbN n s with
  | none => rfl
  | some m => show (c n && !b m) = (c n && !c m); rw [h m (nbN_lt hn e)]
theorem inr_B (f : Nat → Int64) {n : Nat} (hn : n < 512) (k : Nat) (hk : k ≤ 6) : bw (inr f (n % 8) k) (po n) = (cb f n && (List.range k).all (fun s => (nbN n s).elim false (cb f))) := by
  induction k with
  | zero => show _ = (cb f n && true); rw [Bool.and_true]; rfl
  | succ k ih =>
    show bw (inr f (n % 8) k &&& bsd f k (n % 8)) (po n) = _
    rw [bw_and, ih (by omega), cb_bsd f hn (by omega), List.range_succ, List.all_append, List.all_cons, List.all_nil, Bool.and_true, Bool.and_assoc]
/-- a square's name by its bits -/
def mkn (k : Nat → Int64) (s z a : Nat) : Nat → Nat
  | 0 => 0
  | j + 1 => mkn k s z a j + (if bw (k ((s * 6 + j) * 8 + z)) a = true then 2 ^ j else 0)
theorem mkn_s (k : Nat → Int64) (s z a j : Nat) : mkn k s z a (j + 1) = mkn k s z a j + (if bw (k ((s * 6 + j) * 8 + z)) a = true then 2 ^ j else 0) := by rw [mkn]
theorem mkn_lt (k : Nat → Int64) (s z a j : Nat) : mkn k s z a j < 2 ^ j := by
  induction j with
  | zero => exact Nat.zero_lt_one
  | succ j ih => rw [mkn_s, Nat.pow_succ]; split <;> omega
theorem or_pw : ∀ j, j < 6 → ∀ v, v < 2 ^ j → nI v ||| (1 : Int32) <<< (nI j &&& 31) = nI (v + 2 ^ j) := by decide +kernel
theorem or_zr : ∀ j, j < 6 → (0 : Int32) <<< (nI j &&& 31) = 0 := by decide +kernel
theorem mko_n (k : Nat → Int64) (s z a : Nat) (j : Nat) (hj : j ≤ 6) : mko k s z a j = nI (mkn k s z a j) := by
  induction j with
  | zero => rfl
  | succ j ih =>
    show mko k s z a j ||| ((shr (k ((s * 6 + j) * 8 + z)) a &&& 1).toInt32 <<< (nI j &&& 31)) = _
    rw [ih (by omega), mkn_s]
    by_cases h : bw (k ((s * 6 + j) * 8 + z)) a = true
    · rw [(bit1 _ _).mpr h, if_pos h, show (1 : Int64).toInt32 = 1 from rfl, or_pw j (by omega) _ (mkn_lt k s z a j)]
    · rw [(bit0 _ _).mpr (Bool.eq_false_iff.mpr h), if_neg h, show (0 : Int64).toInt32 = 0 from rfl, or_zr j (by omega), Nat.add_zero]
      exact Int32.or_zero
theorem mkn_bit (k : Nat → Int64) (s z a : Nat) : ∀ n j, j < n → (mkn k s z a n).testBit j = bw (k ((s * 6 + j) * 8 + z)) a := by
  intro n
  induction n with
  | zero => intro j hj; omega
  | succ n ih =>
    intro j hj
    rw [mkn_s]
    have hl := mkn_lt k s z a n
    by_cases e : j = n
    · subst e
      by_cases h : bw (k ((s * 6 + j) * 8 + z)) a = true
      · rw [if_pos h, Nat.add_comm, Nat.testBit_two_pow_add_eq, Nat.testBit_lt_two_pow hl, h]; rfl
      · rw [if_neg h, Nat.add_zero, Nat.testBit_lt_two_pow hl, Bool.eq_false_iff.mpr h]
    · by_cases h : bw (k ((s * 6 + n) * 8 + z)) a = true
      · rw [if_pos h, Nat.add_comm, Nat.testBit_two_pow_add_gt (by omega), ih j (by omega)]
      · rw [if_neg h, Nat.add_zero, ih j (by omega)]
theorem mkn_eq {k : Nat → Int64} {s z a g : Nat} (hg : g < 64) : mkn k s z a 6 = g ↔ ∀ j, j < 6 → bw (k ((s * 6 + j) * 8 + z)) a = g.testBit j := by
  constructor
  · intro h j hj
    rw [← mkn_bit k s z a 6 j hj, h]
  · intro h
    refine Nat.eq_of_testBit_eq fun j => ?_
    by_cases hj : j < 6
    · rw [mkn_bit k s z a 6 j hj, h j hj]
    · rw [Nat.testBit_lt_two_pow (Nat.lt_of_lt_of_le (mkn_lt k s z a 6) (Nat.pow_le_pow_right (by decide) (by omega))), Nat.testBit_lt_two_pow (Nat.lt_of_lt_of_le hg (show 2 ^ 6 ≤ 2 ^ j from Nat.pow_le_pow_right (by decide) (by omega)))]
