/-! how many bits a long has -/
def dg (B : Nat) : (Nat → Nat) → Nat → Nat
  | _, 0 => 0
  | d, n + 1 => d 0 + B * dg B (fun i => d (i + 1)) n
theorem dg_0 (B : Nat) (d : Nat → Nat) : dg B d 0 = 0 := by rw [dg]
theorem dg_s (B : Nat) (d : Nat → Nat) (n : Nat) : dg B d (n + 1) = d 0 + B * dg B (fun i => d (i + 1)) n := by rw [dg]
theorem dg_cg (B : Nat) : ∀ (n : Nat) (d e : Nat → Nat), (∀ i, i < n → d i = e i) → dg B d n = dg B e n := by
  intro n
  induction n with
  | zero => intro d e _; rw [dg_0, dg_0]
  | succ n ih => intro d e h; rw [dg_s, dg_s, h 0 (by omega), ih _ _ (fun i hi => h (i + 1) (by omega))]
theorem dg_two (B : Nat) : ∀ (n : Nat) (d : Nat → Nat), dg B d (2 * n) = dg (B * B) (fun i => d (2 * i) + B * d (2 * i + 1)) n := by
  intro n
  induction n with
  | zero => intro d; rw [dg_0, dg_0]
  | succ n ih =>
    intro d
    rw [show 2 * (n + 1) = 2 * n + 1 + 1 by omega, dg_s, dg_s, dg_s, ih]
    have e : ∀ i, (fun i => d (2 * i + 1 + 1) + B * d (2 * i + 1 + 1 + 1)) i = (fun i => d (2 * (i + 1)) + B * d (2 * (i + 1) + 1)) i := fun i => rfl
    rw [dg_cg (B * B) n (fun i => (fun i => d (i + 1 + 1)) (2 * i) + B * (fun i => d (i + 1 + 1)) (2 * i + 1)) (fun i => (fun i => d (2 * i) + B * d (2 * i + 1)) (i + 1)) (fun i _ => rfl)]
    show d 0 + B * (d 1 + B * _) = d (2 * 0) + B * d (2 * 0 + 1) + B * B * _
    rw [Nat.mul_add, ← Nat.mul_assoc, Nat.add_assoc]
theorem and_w {w a e : Nat} (a' e' : Nat) (ha : a < 2 ^ w) (he : e < 2 ^ w) : (a + 2 ^ w * a') &&& (e + 2 ^ w * e') = (a &&& e) + 2 ^ w * (a' &&& e') := by
  refine Nat.eq_of_testBit_eq fun j => ?_
  rw [Nat.add_comm a, Nat.add_comm e, Nat.add_comm (a &&& e), Nat.testBit_and, Nat.testBit_two_pow_mul_add _ ha, Nat.testBit_two_pow_mul_add _ he, Nat.testBit_two_pow_mul_add _ (Nat.lt_of_le_of_lt Nat.and_le_left ha)]
  split
  · rw [Nat.testBit_and]
  · rw [Nat.testBit_and]
theorem half4 : ∀ d, d < 4 → ∀ r, r < 2 → (d / 2 + 2 * r) &&& 1 = d / 2 := by decide
/-- the first stage -/
theorem pc_1 : ∀ (n : Nat) (d : Nat → Nat), (∀ i, d i < 4) → dg 4 d n / 2 &&& dg 4 (fun _ => 1) n = dg 4 (fun i => d i / 2) n := by
  intro n
  induction n with
  | zero => intro d _; rw [dg_0, dg_0, dg_0]; rfl
  | succ n ih =>
    intro d hd
    rw [dg_s, dg_s, dg_s, ← ih (fun i => d (i + 1)) (fun i => hd (i + 1))]
    have h0 := hd 0
    have e : (d 0 + 4 * dg 4 (fun i => d (i + 1)) n) / 2 = (d 0 / 2 + 2 * (dg 4 (fun i => d (i + 1)) n % 2)) + 2 ^ 2 * (dg 4 (fun i => d (i + 1)) n / 2) := by omega
    rw [e, show 1 + 4 * dg 4 (fun _ => 1) n = 1 + 2 ^ 2 * dg 4 (fun _ => 1) n from rfl, and_w _ _ (show _ < 2 ^ 2 by omega) (by decide), half4 (d 0) h0 _ (Nat.mod_lt _ (by decide))]
theorem pc_s : ∀ (n : Nat) (d e : Nat → Nat), (∀ i, e i ≤ d i) → dg 4 e n ≤ dg 4 d n ∧ dg 4 d n - dg 4 e n = dg 4 (fun i => d i - e i) n := by
  intro n
  induction n with
  | zero => intro d e _; rw [dg_0, dg_0, dg_0]; exact ⟨Nat.le_refl _, rfl⟩
  | succ n ih =>
    intro d e h
    obtain ⟨h1, h2⟩ := ih (fun i => d (i + 1)) (fun i => e (i + 1)) (fun i => h (i + 1))
    have h0 := h 0
    rw [dg_s, dg_s, dg_s]
    omega
theorem q16 : ∀ p0, p0 < 3 → ∀ p1, p1 < 3 → (p0 + 4 * p1) &&& 3 = p0 ∧ ∀ r, r < 4 → ((p0 + 4 * p1) / 4 + 4 * r) &&& 3 = p1 := by decide
/-- the second stage -/
theorem pc_2 : ∀ (n : Nat) (p0 p1 : Nat → Nat), (∀ i, p0 i < 3) → (∀ i, p1 i < 3) → (dg 16 (fun i => p0 i + 4 * p1 i) n &&& dg 16 (fun _ => 3) n) + (dg 16 (fun i => p0 i + 4 * p1 i) n / 4 &&& dg 16 (fun _ => 3) n) = dg 16 (fun i => p0 i + p1 i) n := by
  intro n
  induction n with
  | zero => intro p0 p1 _ _; rw [dg_0, dg_0, dg_0]; rfl
  | succ n ih =>
    intro p0 p1 h0 h1
    have ih := ih (fun i => p0 (i + 1)) (fun i => p1 (i + 1)) (fun i => h0 (i + 1)) (fun i => h1 (i + 1))
    obtain ⟨q1, q2⟩ := q16 (p0 0) (h0 0) (p1 0) (h1 0)
    rw [dg_s, dg_s, dg_s]
    generalize hN : dg 16 (fun i => p0 (i + 1) + 4 * p1 (i + 1)) n = N at ih ⊢
    generalize hK : dg 16 (fun _ => 3) n = K at ih ⊢
    have a0 := h0 0
    have a1 := h1 0
    have e : (p0 0 + 4 * p1 0 + 16 * N) / 4 = ((p0 0 + 4 * p1 0) / 4 + 4 * (N % 4)) + 2 ^ 4 * (N / 4) := by omega
    rw [e, show 3 + 16 * K = 3 + 2 ^ 4 * K from rfl, show p0 0 + 4 * p1 0 + 16 * N = (p0 0 + 4 * p1 0) + 2 ^ 4 * N from rfl, and_w _ _ (show _ < 2 ^ 4 by omega) (by decide), and_w _ _ (show _ < 2 ^ 4 by omega) (by decide), q1, q2 _ (Nat.mod_lt _ (by decide))]
    omega
theorem q256 : ∀ a, a < 9 → ∀ b, b < 9 → (a + 16 * b) &&& 15 = a := by decide
/-- the third stage -/
theorem pc_3 : ∀ (n : Nat) (r0 r1 : Nat → Nat), (∀ i, r0 i < 5) → (∀ i, r1 i < 5) → (dg 256 (fun i => r0 i + 16 * r1 i) n + dg 256 (fun i => r0 i + 16 * r1 i) n / 16) &&& dg 256 (fun _ => 15) n = dg 256 (fun i => r0 i + r1 i) n := by
  intro n
  induction n with
  | zero => intro r0 r1 _ _; rw [dg_0, dg_0, dg_0]; rfl
  | succ n ih =>
    intro r0 r1 h0 h1
    have ih := ih (fun i => r0 (i + 1)) (fun i => r1 (i + 1)) (fun i => h0 (i + 1)) (fun i => h1 (i + 1))
    have hm : dg 256 (fun i => r0 (i + 1) + 16 * r1 (i + 1)) n % 16 < 5 := by
      cases n with
      | zero => rw [dg_0]; decide
      | succ n => rw [dg_s]; have := h0 (0 + 1); show (r0 (0 + 1) + 16 * r1 (0 + 1) + 256 * _) % 16 < 5; omega
    rw [dg_s, dg_s, dg_s]
    generalize hN : dg 256 (fun i => r0 (i + 1) + 16 * r1 (i + 1)) n = N at ih hm ⊢
    generalize hK : dg 256 (fun _ => 15) n = K at ih ⊢
    have a0 := h0 0
    have a1 := h1 0
    have e : (r0 0 + 16 * r1 0 + 256 * N) + (r0 0 + 16 * r1 0 + 256 * N) / 16 = ((r0 0 + r1 0) + 16 * (r1 0 + N % 16)) + 2 ^ 8 * (N + N / 16) := by omega
    rw [e, show 15 + 256 * K = 15 + 2 ^ 8 * K from rfl, and_w _ _ (show _ < 2 ^ 8 by omega) (by decide), q256 _ (by omega) _ (by omega), ih]
theorem pc_4 {t : Nat → Nat} (h : ∀ i, t i < 9) : dg 256 t 8 + dg 256 t 8 / 256 < 2 ^ 61 ∧ ∀ D E, D = dg 256 t 8 + dg 256 t 8 / 256 → E = D + D / 65536 → E < 2 ^ 62 ∧ E + E / 4294967296 < 2 ^ 63 ∧ (E + E / 4294967296) % 128 = fb_sm t 8 := by
  have e : dg 256 t 8 = t 0 + 256 * (t 1 + 256 * (t 2 + 256 * (t 3 + 256 * (t 4 + 256 * (t 5 + 256 * (t 6 + 256 * (t 7 + 256 * 0))))))) := rfl
  have s : fb_sm t 8 = t 0 + t 1 + t 2 + t 3 + t 4 + t 5 + t 6 + t 7 := by
    show 0 + t 0 + t 1 + t 2 + t 3 + t 4 + t 5 + t 6 + t 7 = _
    omega
  have h0 := h 0; have h1 := h 1; have h2 := h 2; have h3 := h 3; have h4 := h 4; have h5 := h 5; have h6 := h 6; have h7 := h 7
  rw [e, s]
  refine ⟨by omega, fun D E hD hE => ?_⟩
  have hD2 : D = (t 0 + t 1) + 256 * ((t 1 + t 2) + 256 * ((t 2 + t 3) + 256 * ((t 3 + t 4) + 256 * ((t 4 + t 5) + 256 * ((t 5 + t 6) + 256 * ((t 6 + t 7) + 256 * (t 7))))))) := by omega
  have hE2 : E = (t 0 + t 1 + t 2 + t 3) + 256 * ((t 1 + t 2 + t 3 + t 4) + 256 * ((t 2 + t 3 + t 4 + t 5) + 256 * ((t 3 + t 4 + t 5 + t 6) + 256 * ((t 4 + t 5 + t 6 + t 7) + 256 * ((t 5 + t 6 + t 7) + 256 * ((t 6 + t 7) + 256 * (t 7))))))) := by
    clear e s
    have hq : D / 65536 = (t 2 + t 3) + 256 * ((t 3 + t 4) + 256 * ((t 4 + t 5) + 256 * ((t 5 + t 6) + 256 * ((t 6 + t 7) + 256 * (t 7))))) := by clear hD hE; omega
    clear hD
    omega
  have hG : E / 4294967296 = (t 4 + t 5 + t 6 + t 7) + 256 * ((t 5 + t 6 + t 7) + 256 * ((t 6 + t 7) + 256 * (t 7))) := by clear hD hE hD2 e s; omega
  clear hD hE hD2 e s
  refine ⟨by omega, by omega, ?_⟩
  rw [hG, hE2]
  clear hG hE2
  omega
theorem sm_two (f : Nat → Nat) : ∀ n, fb_sm f (2 * n) = fb_sm (fun i => f (2 * i) + f (2 * i + 1)) n := by
  intro n
  induction n with
  | zero => rfl
  | succ n ih => rw [show 2 * (n + 1) = 2 * n + 1 + 1 by omega, fb_sm_succ, fb_sm_succ, fb_sm_succ, ih]; omega
/-- the bits as a number -/
def b01 (p : Nat → Bool) (k : Nat) : Nat := if p k = true then 1 else 0
theorem b01_lt (p : Nat → Bool) (k : Nat) : b01 p k < 2 := by unfold b01; split <;> omega
theorem ct_b01 (p : Nat → Bool) (n : Nat) : fb_ct p n = fb_sm (b01 p) n := by
  induction n with
  | zero => rfl
  | succ n ih => rw [fb_ct_succ, fb_sm_succ, ih]; rfl
theorem dg2_bit : ∀ (n : Nat) (p : Nat → Bool) (k : Nat), (dg 2 (b01 p) n).testBit k = (decide (k < n) && p k) := by
  intro n
  induction n with
  | zero => intro p k; rw [dg_0, Nat.zero_testBit]; rfl
  | succ n ih =>
    intro p k
    rw [dg_s, show (fun i => b01 p (i + 1)) = b01 (fun i => p (i + 1)) from rfl]
    cases k with
    | zero =>
      rw [Nat.testBit_zero]
      unfold b01
      cases h : p 0 <;> simp <;> omega
    | succ k =>
      rw [Nat.testBit_succ, show (b01 p 0 + 2 * dg 2 (b01 fun i => p (i + 1)) n) / 2 = dg 2 (b01 fun i => p (i + 1)) n by have := b01_lt p 0; omega, ih]
      by_cases h : k < n
      · rw [decide_eq_true h, decide_eq_true (show k + 1 < n + 1 by omega)]
      · rw [decide_eq_false h, decide_eq_false (show ¬ k + 1 < n + 1 by omega)]
theorem x_dg (x : Int64) : x.toBitVec.toNat = dg 2 (b01 (bw x)) 64 := by
  refine Nat.eq_of_testBit_eq fun k => ?_
  rw [dg2_bit]
  show x.toBitVec.getLsbD k = _
  by_cases h : k < 64
  · rw [decide_eq_true h]; rfl
  · rw [decide_eq_false h, Bool.false_and]; exact bw_ge x (by omega)
theorem shr_lN {n : Nat} (h : n < 2 ^ 64) (s : Nat) : shr (lN n) s = lN (n / 2 ^ s) := by
  apply Int64.toBitVec_inj.mp
  show (lN n).toBitVec >>> s = (lN (n / 2 ^ s)).toBitVec
  apply BitVec.eq_of_toNat_eq
  rw [BitVec.toNat_ushiftRight, lN_nat h, Nat.shiftRight_eq_div_pow, lN_nat (Nat.lt_of_le_of_lt (Nat.div_le_self _ _) h)]
theorem lN_plus (a b : Nat) : lN a + lN b = lN (a + b) := by
  apply Int64.toBitVec_inj.mp
  show BitVec.ofNat 64 a + BitVec.ofNat 64 b = BitVec.ofNat 64 (a + b)
  rw [BitVec.ofNat_add]
theorem lN_minus {a b : Nat} (h : b ≤ a) : lN a - lN b = lN (a - b) := by
  have e : lN (a - b) + lN b = lN a := by rw [lN_plus, Nat.sub_add_cancel h]
  rw [← e, Int64.add_sub_cancel]
theorem lo127 (g : Nat) : (lN g).toInt32 &&& nI 127 = nI (g % 128) := by
  have e : (lN g).toInt32 = nI g := by
    apply Int32.toBitVec_inj.mp
    show ((lN g).toBitVec).signExtend 32 = BitVec.ofNat 32 g
    rw [BitVec.signExtend_eq_setWidth_of_le _ (by decide)]
    apply BitVec.eq_of_toNat_eq
    rw [BitVec.toNat_setWidth, lN_bv, BitVec.toNat_ofNat, BitVec.toNat_ofNat, Nat.mod_mod_of_dvd _ (by decide)]
  rw [e, nx_and, show (127 : Nat) = 2 ^ 7 - 1 from rfl, Nat.and_two_pow_sub_one_eq_mod]
theorem bcl_ct (x : Int64) : bcl x = nI (fb_ct (bw x) 64) := by
  obtain ⟨n, hn, rfl⟩ := wb_of x
  have hx := x_dg (lN n)
  rw [lN_nat hn] at hx
  rw [ct_b01]
  generalize hb : b01 (bw (lN n)) = b at hx
  have hb2 : ∀ i, b i < 2 := fun i => by rw [← hb]; exact b01_lt _ _
  have h4 : n = dg 4 (fun i => b (2 * i) + 2 * b (2 * i + 1)) 32 := by rw [hx]; exact dg_two 2 32 b
  have d4 : ∀ i, b (2 * i) + 2 * b (2 * i + 1) < 4 := fun i => by have := hb2 (2 * i); have := hb2 (2 * i + 1); omega
  have e1 := pc_1 32 _ d4
  obtain ⟨s1, s2⟩ := pc_s 32 (fun i => b (2 * i) + 2 * b (2 * i + 1)) (fun i => (b (2 * i) + 2 * b (2 * i + 1)) / 2) (fun i => by show _ / 2 ≤ _; omega)
  have e2 : dg 4 (fun i => (b (2 * i) + 2 * b (2 * i + 1)) - (b (2 * i) + 2 * b (2 * i + 1)) / 2) 32 = dg 4 (fun i => b (2 * i) + b (2 * i + 1)) 32 := dg_cg 4 32 _ _ fun i _ => by have := hb2 (2 * i); have := hb2 (2 * i + 1); omega
  rw [← h4] at e1 s1 s2
  have hM1 : dg 4 (fun _ => 1) 32 = 6148914691236517205 := by decide +kernel
  have hM2 : dg 16 (fun _ => 3) 16 = 3689348814741910323 := by decide +kernel
  have hM3 : dg 256 (fun _ => 15) 8 = 1085102592571150095 := by decide +kernel
  rw [hM1] at e1
  -- stage 1
  have A1 : lN n - (shr (lN n) 1 &&& 6148914691236517205) = lN (dg 4 (fun i => b (2 * i) + b (2 * i + 1)) 32) := by
    rw [shr_lN hn, show (6148914691236517205 : Int64) = lN 6148914691236517205 from rfl, fb_andL, show n / 2 ^ 1 = n / 2 from rfl, e1, lN_minus s1, s2, e2]
  generalize hp : (fun i => b (2 * i) + b (2 * i + 1)) = p at A1
  have hp3 : ∀ i, p i < 3 := fun i => by rw [← hp]; have := hb2 (2 * i); have := hb2 (2 * i + 1); show b (2 * i) + b (2 * i + 1) < 3; omega
  have hA : dg 4 p 32 ≤ n := by rw [← hp, ← e2, ← s2]; omega
  have e3 := pc_2 16 (fun i => p (2 * i)) (fun i => p (2 * i + 1)) (fun i => hp3 _) (fun i => hp3 _)
  rw [← dg_two 4 16 p, hM2] at e3
  generalize hr : (fun i => p (2 * i) + p (2 * i + 1)) = r at e3
  have hr5 : ∀ i, r i < 5 := fun i => by rw [← hr]; have := hp3 (2 * i); have := hp3 (2 * i + 1); show p (2 * i) + p (2 * i + 1) < 5; omega
  have A2 : (lN (dg 4 p 32) &&& 3689348814741910323) + (shr (lN (dg 4 p 32)) 2 &&& 3689348814741910323) = lN (dg 16 r 16) := by
    rw [shr_lN (by omega), show (3689348814741910323 : Int64) = lN 3689348814741910323 from rfl, fb_andL, fb_andL, lN_plus, show dg 4 p 32 / 2 ^ 2 = dg 4 p 32 / 4 from rfl, e3]
  have hB : dg 16 r 16 ≤ 2 * 3689348814741910323 := by
    rw [← e3]
    have := @Nat.and_le_right (dg 4 p (2 * 16)) 3689348814741910323
    have := @Nat.and_le_right (dg 4 p (2 * 16) / 4) 3689348814741910323
    omega
  have e4 := pc_3 8 (fun i => r (2 * i)) (fun i => r (2 * i + 1)) (fun i => hr5 _) (fun i => hr5 _)
  rw [← dg_two 16 8 r, hM3] at e4
  generalize ht : (fun i => r (2 * i) + r (2 * i + 1)) = t at e4
  have ht9 : ∀ i, t i < 9 := fun i => by rw [← ht]; have := hr5 (2 * i); have := hr5 (2 * i + 1); show r (2 * i) + r (2 * i + 1) < 9; omega
  have A3 : (lN (dg 16 r 16) + shr (lN (dg 16 r 16)) 4) &&& 1085102592571150095 = lN (dg 256 t 8) := by
    rw [shr_lN (by omega), show (1085102592571150095 : Int64) = lN 1085102592571150095 from rfl, lN_plus, fb_andL, show dg 16 r 16 / 2 ^ 4 = dg 16 r 16 / 16 from rfl, e4]
  have hC : dg 256 t 8 ≤ 1085102592571150095 := by rw [← e4]; exact Nat.and_le_right
  obtain ⟨h61, hfin⟩ := pc_4 ht9
  obtain ⟨h62, h63, hsum⟩ := hfin _ _ rfl rfl
  have hs : fb_sm t 8 = fb_sm b 64 := by
    rw [← ht, ← sm_two r 8, ← hr, ← sm_two p 16, ← hp, ← sm_two b 32]
  show (let a := lN n - (shr (lN n) 1 &&& 6148914691236517205); let b := (a &&& 3689348814741910323) + (shr a 2 &&& 3689348814741910323); let c := (b + shr b 4) &&& 1085102592571150095; let d := c + shr c 8; let e := d + shr d 16; let g := e + shr e 32; g.toInt32 &&& nI 127) = _
  rw [A1]
  show (let b := (lN (dg 4 p 32) &&& 3689348814741910323) + (shr (lN (dg 4 p 32)) 2 &&& 3689348814741910323); let c := (b + shr b 4) &&& 1085102592571150095; let d := c + shr c 8; let e := d + shr d 16; let g := e + shr e 32; g.toInt32 &&& nI 127) = _
  rw [A2]
  show (let c := (lN (dg 16 r 16) + shr (lN (dg 16 r 16)) 4) &&& 1085102592571150095; let d := c + shr c 8; let e := d + shr d 16; let g := e + shr e 32; g.toInt32 &&& nI 127) = _
  rw [A3]
  show (let d := lN (dg 256 t 8) + shr (lN (dg 256 t 8)) 8; let e := d + shr d 16; let g := e + shr e 32; g.toInt32 &&& nI 127) = _
  rw [shr_lN (by omega), lN_plus, show dg 256 t 8 / 2 ^ 8 = dg 256 t 8 / 256 from rfl]
  show (let e := lN (dg 256 t 8 + dg 256 t 8 / 256) + shr (lN (dg 256 t 8 + dg 256 t 8 / 256)) 16; let g := e + shr e 32; g.toInt32 &&& nI 127) = _
  rw [shr_lN (by omega), lN_plus, show (dg 256 t 8 + dg 256 t 8 / 256) / 2 ^ 16 = (dg 256 t 8 + dg 256 t 8 / 256) / 65536 from rfl]
  generalize hD : dg 256 t 8 + dg 256 t 8 / 256 = D at h62 h63 hsum ⊢
  generalize hE : D + D / 65536 = E at h62 h63 hsum ⊢
  show (lN E + shr (lN E) 32).toInt32 &&& nI 127 = _
  rw [shr_lN (by omega), lN_plus, show E / 2 ^ 32 = E / 4294967296 from rfl, lo127, hsum, hs]
