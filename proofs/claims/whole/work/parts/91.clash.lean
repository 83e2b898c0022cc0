/-! clashes -/
theorem ct_uq {f : Nat → Bool} {n : Nat} (hu : ∀ i j, i < n → j < n → f i = true → f j = true → i = j) {p : Bool} (hp : p = true ↔ ∃ i, i < n ∧ f i = true) : fb_ct f n = if p = true then 1 else 0 := by
  by_cases h : ∃ i, i < n ∧ f i = true
  · obtain ⟨i, hi, hf⟩ := id h
    rw [if_pos (hp.mpr h)]
    have e : fb_ct f n = fb_ct (fun k => if k = i then true else false) n := fb_ct_cong fun k hk => by
      by_cases q : k = i
      · rw [if_pos q, q, hf]
      · rw [if_neg q]
        exact Bool.eq_false_iff.mpr fun g => q (hu k i hk hi g hf)
    have u := fb_ct_upd (fun _ => false) true hi
    rw [e]
    have z : fb_ct (fun _ => false) n = 0 := fb_ct_zero.mpr fun _ _ => rfl
    rw [z] at u
    exact u
  · rw [if_neg fun q => h (hp.mp q)]
    exact fb_ct_zero.mpr fun k hk => Bool.eq_false_iff.mpr fun g => h ⟨k, hk, g⟩
/-- counted by what is reached, or by what it is reached from -/
theorem ct_bij {p q : Nat → Bool} {T : Nat → Nat → Bool} {n : Nat} (h1 : ∀ j, j < n → (p j = true ↔ ∃ i, i < n ∧ T i j = true)) (h2 : ∀ i, i < n → (q i = true ↔ ∃ j, j < n ∧ T i j = true)) (u1 : ∀ i i2 j, i < n → i2 < n → j < n → T i j = true → T i2 j = true → i = i2) (u2 : ∀ i j j2, i < n → j < n → j2 < n → T i j = true → T i j2 = true → j = j2) : fb_ct p n = fb_ct q n := by
  rw [ct_b01 p, ct_b01 q]
  have e1 : ∀ j, j < n → b01 p j = fb_sm (fun i => b01 (fun i => T i j) i) n := fun j hj => by
    rw [← ct_b01 (fun i => T i j) n, ct_uq (fun i i2 hi hi2 a b => u1 i i2 j hi hi2 hj a b) (h1 j hj)]
    rfl
  have e2 : ∀ i, i < n → b01 q i = fb_sm (fun j => b01 (T i) j) n := fun i hi => by
    rw [← ct_b01 (T i) n, ct_uq (fun j j2 hj hj2 a b => u2 i j j2 hi hj hj2 a b) (h2 i hi)]
    rfl
  rw [fb_sm_cong e1, fb_sm_cong e2]
  exact (sm_swap (fun i j => b01 (T i) j) n n).symm
theorem hi_t : ∀ a, a < 8 → ∀ t, t < 8 → 2147483648 ≤ a + (2147483647 - t) → (nI a + nI (2147483647 - t)).toInt < 0 := by decide +kernel
theorem ad7 {a : Nat} (ha : a < 8) (d : Int32) : (in7 (nI a + d) = true ↔ 0 ≤ (a : Int) + d.toInt ∧ (a : Int) + d.toInt ≤ 7) ∧ (in7 (nI a + d) = true → (nI a + d).toInt = a + d.toInt) := by
  have r := fb_rng d
  have ea : (nI a).toInt = (a : Int) := nI_toInt (by omega)
  by_cases h : (a : Int) + d.toInt < 2147483648
  · have e : (nI a + d).toInt = a + d.toInt := by rw [fb_addI (by rw [ea]; omega) (by rw [ea]; omega), ea]
    exact ⟨by rw [in7_e, e], fun _ => e⟩
  · have hd : d = nI (2147483647 - (2147483647 - d.toInt).toNat) := Int32.toInt_inj.mp (by rw [nI_toInt (by omega)]; omega)
    have hn : (nI a + d).toInt < 0 := by
      rw [hd]
      exact hi_t a ha _ (by omega) (by omega)
    have hf : ¬ in7 (nI a + d) = true := by rw [in7_e]; omega
    exact ⟨⟨fun q => absurd q hf, fun q => absurd q (by omega)⟩, fun q => absurd q hf⟩
/-- where a cell of a layer comes to lie -/
def tg6 (B : Nat → Int64) (x y z : Int32) (k i : Nat) : Bool := if clX (nI (i % 8) + x) (nI (i / 8) + y) (nI k + z) = -1 then false else cb B (ntX (clX (nI (i % 8) + x) (nI (i / 8) + y) (nI k + z)))
theorem tg_i {B : Nat → Int64} {x y z : Int32} {k i : Nat} (hk : k < 8) (hi : i < 64) : tg6 B x y z k i = true ↔ ∃ n, n < 512 ∧ cb B n = true ∧ (alN n 0 : Int) = (i % 8 : Nat) + x.toInt ∧ (alN n 1 : Int) = (i / 8 : Nat) + y.toInt ∧ (alN n 2 : Int) = k + z.toInt := by
  have a0 := ad7 (show i % 8 < 8 by omega) x
  have a1 := ad7 (show i / 8 < 8 by omega) y
  have a2 := ad7 hk z
  unfold tg6
  by_cases h : clX (nI (i % 8) + x) (nI (i / 8) + y) (nI k + z) = -1
  · rw [if_pos h]
    refine ⟨fun q => absurd q (by decide), fun ⟨n, hn, _, g0, g1, g2⟩ => ?_⟩
    have l0 := alN_lt hn 0
    have l1 := alN_lt hn 1
    have l2 := alN_lt hn 2
    have b0 := a0.1.mpr (by omega)
    have b1 := a1.1.mpr (by omega)
    have b2 := a2.1.mpr (by omega)
    have e := (clX_at hn).mpr ⟨(a0.2 b0).trans g0.symm, (a1.2 b1).trans g1.symm, (a2.2 b2).trans g2.symm⟩
    exact absurd (e.symm.trans h) (nI_nm1 (by omega))
  · rw [if_neg h]
    obtain ⟨n, hn, e⟩ := clX_n h
    obtain ⟨e0, e1, e2⟩ := (clX_at hn).mp e
    have l0 := alN_lt hn 0
    have l1 := alN_lt hn 1
    have l2 := alN_lt hn 2
    have b0 := a0.2 (by rw [in7_e, e0]; omega)
    have b1 := a1.2 (by rw [in7_e, e1]; omega)
    have b2 := a2.2 (by rw [in7_e, e2]; omega)
    rw [e, ntX_nI (by omega)]
    refine ⟨fun q => ⟨n, hn, q, by omega, by omega, by omega⟩, fun ⟨m, hm, q, g0, g1, g2⟩ => ?_⟩
    have : m = n := by
      have d0 := al_0 m
      have d1 := al_0 n
      have d2 := al_1 m
      have d3 := al_1 n
      have d4 := al_2 m
      have d5 := al_2 n
      omega
    rw [← this]; exact q
theorem lay_ct (w : Int64) (B : Nat → Int64) {x y z : Int32} {k k2 : Nat} (hk : k < 8) (hk2 : k2 < 8) (hz : (k2 : Int) = k + z.toInt) : fb_ct (bw (sldw w x y &&& B k2)) 64 = fb_ct (fun i => bw w i && tg6 B x y z k i) 64 := by
  refine ct_bij (T := fun i j => (bw w i && bw (B k2) j) && decide (((j % 8 : Nat) : Int) = (i % 8 : Nat) + x.toInt ∧ ((j / 8 : Nat) : Int) = (i / 8 : Nat) + y.toInt)) (fun j hj => ?_) (fun i hi => ?_) (fun i i2 j hi hi2 hj a b => ?_) (fun i j j2 hi hj hj2 a b => ?_)
  · have e : j = j / 8 * 8 + j % 8 := by omega
    rw [bw_and, Bool.and_eq_true]
    have s := sldw_bw w x y (show j % 8 < 8 by omega) (show j / 8 < 8 by omega)
    rw [← e] at s
    rw [s]
    constructor
    · rintro ⟨⟨x', y', h1, h2, h3, h4, h5⟩, h6⟩
      refine ⟨y' * 8 + x', by omega, ?_⟩
      show ((bw w (y' * 8 + x') && bw (B k2) j) && decide _) = true
      rw [h5, h6, Bool.true_and, Bool.true_and, decide_eq_true_iff]
      rw [show (y' * 8 + x') % 8 = x' by omega, show (y' * 8 + x') / 8 = y' by omega]
      exact ⟨h3, h4⟩
    · rintro ⟨i, hi, h⟩
      have h := Bool.and_eq_true_iff.mp h
      have h1 := Bool.and_eq_true_iff.mp h.1
      have h2 := of_decide_eq_true h.2
      refine ⟨⟨i % 8, i / 8, by omega, by omega, h2.1, h2.2, ?_⟩, h1.2⟩
      rw [show i / 8 * 8 + i % 8 = i by omega]; exact h1.1
  · rw [Bool.and_eq_true, tg_i hk hi]
    constructor
    · rintro ⟨h1, n, hn, h2, h3, h4, h5⟩
      refine ⟨po n, po_lt hn, ?_⟩
      rw [al_0] at h3
      rw [al_1] at h4
      rw [al_2] at h5
      have hb : bw (B k2) (po n) = true := by
        have : n % 8 = k2 := by omega
        unfold cb at h2
        rw [this] at h2; exact h2
      show ((bw w i && bw (B k2) (po n)) && decide _) = true
      rw [h1, hb, Bool.true_and, Bool.true_and, decide_eq_true_iff]
      unfold po
      rw [show (n / 8 % 8 * 8 + n / 64) % 8 = n / 64 by omega, show (n / 8 % 8 * 8 + n / 64) / 8 = n / 8 % 8 by omega]
      exact ⟨h3, h4⟩
    · rintro ⟨j, hj, h⟩
      have h := Bool.and_eq_true_iff.mp h
      have h1 := Bool.and_eq_true_iff.mp h.1
      have h2 := of_decide_eq_true h.2
      refine ⟨h1.1, ix k2 j, ix_lt hk2 hj, by rw [cb_ix B hk2 hj]; exact h1.2, ?_⟩
      have hm := ix_m hk2 hj
      have hp := ix_p hk2 hj
      unfold po at hp
      have hlt := ix_lt hk2 hj
      rw [al_0, al_1, al_2, hm]
      generalize ix k2 j = n at *
      omega
  · have a1 := of_decide_eq_true (Bool.and_eq_true_iff.mp a).2
    have b1 := of_decide_eq_true (Bool.and_eq_true_iff.mp b).2
    omega
  · have a1 := of_decide_eq_true (Bool.and_eq_true_iff.mp a).2
    have b1 := of_decide_eq_true (Bool.and_eq_true_iff.mp b).2
    omega
theorem csK_s' (A B : Nat → Int64) (x y z : Int32) (k : Nat) : csK A B x y z (k + 1) = if ¬ nI k + z < 0 ∧ ¬ nI 8 ≤ nI k + z then csK A B x y z k + bcl (sldw (A k) x y &&& B (ntX (nI k + z))) else csK A B x y z k := by rw [csK]
theorem csK_n (A B : Nat → Int64) (x y z : Int32) : ∀ k, k ≤ 8 → csK A B x y z k = nI (fb_sm (fun k => fb_ct (fun i => bw (A k) i && tg6 B x y z k i) 64) k) := by
  intro k
  induction k with
  | zero => intro _; rfl
  | succ k ih =>
    intro hk
    have a2 := ad7 (show k < 8 by omega) z
    have hin : (¬ nI k + z < 0 ∧ ¬ nI 8 ≤ nI k + z) ↔ in7 (nI k + z) = true := by
      rw [← isNm_7]; exact decide_eq_true_iff.symm
    rw [csK_s', fb_sm_succ, ih (by omega)]
    by_cases h : ¬ nI k + z < 0 ∧ ¬ nI 8 ≤ nI k + z
    · have h7 := hin.mp h
      have e := a2.2 h7
      have r := a2.1.mp h7
      have en : ((ntX (nI k + z) : Nat) : Int) = k + z.toInt := by rw [ntX_i (by omega), e]
      rw [if_pos h, bcl_ct, lay_ct (A k) B (show k < 8 by omega) (show ntX (nI k + z) < 8 by omega) en, nI_add]
    · rw [if_neg h]
      have z0 : fb_ct (fun i => bw (A k) i && tg6 B x y z k i) 64 = 0 := fb_ct_zero.mpr fun i hi => by
        have hf : tg6 B x y z k i = false := Bool.eq_false_iff.mpr fun q => by
          obtain ⟨n, hn, -, -, -, g2⟩ := (tg_i (by omega) hi).mp q
          have := alN_lt hn 2
          exact h (hin.mpr (a2.1.mpr (by omega)))
        rw [hf, Bool.and_false]
      rw [z0, Nat.add_zero]
/-- by cells -/
theorem csX_n (A B : Nat → Int64) (x y z : Int32) : csX A B x y z = nI (fb_ct (fun m => cb A m && tg6 B x y z (m % 8) (po m)) 512) := by
  unfold csX
  rw [csK_n A B x y z 8 (Nat.le_refl _), ← ct_cells (fun m => cb A m && tg6 B x y z (m % 8) (po m)) (fun k i => bw (A k) i && tg6 B x y z k i) fun k hk i hi => ?_]
  show _ = (cb A (ix k i) && tg6 B x y z (ix k i % 8) (po (ix k i)))
  rw [cb_ix A hk hi, ix_m hk hi, ix_p hk hi]
