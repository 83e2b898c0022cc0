/-! the Euler count: marks are the mixed places, and so the counts are the same -/
theorem q222 (P : Nat → Nat → Nat → Prop) : (∃ i j k, i < 2 ∧ j < 2 ∧ k < 2 ∧ P i j k) ↔ (P 0 0 0 ∨ P 0 0 1) ∨ (P 0 1 0 ∨ P 0 1 1) ∨ (P 1 0 0 ∨ P 1 0 1) ∨ P 1 1 0 ∨ P 1 1 1 := by
  constructor
  · rintro ⟨i, j, k, hi, hj, hk, h⟩
    rcases (show i = 0 ∨ i = 1 by omega) with e | e <;> subst e <;> rcases (show j = 0 ∨ j = 1 by omega) with e | e <;> subst e <;> rcases (show k = 0 ∨ k = 1 by omega) with e | e <;> subst e <;> simp [h]
  · rintro ((h | h) | (h | h) | (h | h) | h | h)
    · exact ⟨0, 0, 0, by decide, by decide, by decide, h⟩
    · exact ⟨0, 0, 1, by decide, by decide, by decide, h⟩
    · exact ⟨0, 1, 0, by decide, by decide, by decide, h⟩
    · exact ⟨0, 1, 1, by decide, by decide, by decide, h⟩
    · exact ⟨1, 0, 0, by decide, by decide, by decide, h⟩
    · exact ⟨1, 0, 1, by decide, by decide, by decide, h⟩
    · exact ⟨1, 1, 0, by decide, by decide, by decide, h⟩
    · exact ⟨1, 1, 1, by decide, by decide, by decide, h⟩
theorem q122 (P : Nat → Nat → Nat → Prop) : (∃ i j k, i < 1 ∧ j < 2 ∧ k < 2 ∧ P i j k) ↔ (P 0 0 0 ∨ P 0 0 1) ∨ P 0 1 0 ∨ P 0 1 1 := by
  constructor
  · rintro ⟨i, j, k, hi, hj, hk, h⟩
    rcases (show i = 0 by omega) with e; subst e
    rcases (show j = 0 ∨ j = 1 by omega) with e | e <;> subst e <;> rcases (show k = 0 ∨ k = 1 by omega) with e | e <;> subst e <;> simp [h]
  · rintro ((h | h) | h | h)
    · exact ⟨0, 0, 0, by decide, by decide, by decide, h⟩
    · exact ⟨0, 0, 1, by decide, by decide, by decide, h⟩
    · exact ⟨0, 1, 0, by decide, by decide, by decide, h⟩
    · exact ⟨0, 1, 1, by decide, by decide, by decide, h⟩
theorem q212 (P : Nat → Nat → Nat → Prop) : (∃ i j k, i < 2 ∧ j < 1 ∧ k < 2 ∧ P i j k) ↔ (P 0 0 0 ∨ P 0 0 1) ∨ P 1 0 0 ∨ P 1 0 1 := by
  constructor
  · rintro ⟨i, j, k, hi, hj, hk, h⟩
    rcases (show j = 0 by omega) with e; subst e
    rcases (show i = 0 ∨ i = 1 by omega) with e | e <;> subst e <;> rcases (show k = 0 ∨ k = 1 by omega) with e | e <;> subst e <;> simp [h]
  · rintro ((h | h) | h | h)
    · exact ⟨0, 0, 0, by decide, by decide, by decide, h⟩
    · exact ⟨0, 0, 1, by decide, by decide, by decide, h⟩
    · exact ⟨1, 0, 0, by decide, by decide, by decide, h⟩
    · exact ⟨1, 0, 1, by decide, by decide, by decide, h⟩
theorem q221 (P : Nat → Nat → Nat → Prop) : (∃ i j k, i < 2 ∧ j < 2 ∧ k < 1 ∧ P i j k) ↔ (P 0 0 0 ∨ P 0 1 0) ∨ P 1 0 0 ∨ P 1 1 0 := by
  constructor
  · rintro ⟨i, j, k, hi, hj, hk, h⟩
    rcases (show k = 0 by omega) with e; subst e
    rcases (show i = 0 ∨ i = 1 by omega) with e | e <;> subst e <;> rcases (show j = 0 ∨ j = 1 by omega) with e | e <;> subst e <;> simp [h]
  · rintro ((h | h) | h | h)
    · exact ⟨0, 0, 0, by decide, by decide, by decide, h⟩
    · exact ⟨0, 1, 0, by decide, by decide, by decide, h⟩
    · exact ⟨1, 0, 0, by decide, by decide, by decide, h⟩
    · exact ⟨1, 1, 0, by decide, by decide, by decide, h⟩
theorem b8 : ∀ a b c d e f g h : Bool, (((a = true ∨ b = true) ∨ (c = true ∨ d = true) ∨ (e = true ∨ f = true) ∨ g = true ∨ h = true) ∧ ((a = false ∨ b = false) ∨ (c = false ∨ d = false) ∨ (e = false ∨ f = false) ∨ g = false ∨ h = false)) ↔ ((((h || f) || g) || e || (((d || b) || c) || a)) && !((((h && f) && g) && e) && (((d && b) && c) && a))) = true := by decide +kernel
theorem b4 : ∀ a b c d : Bool, (((a = true ∨ b = true) ∨ c = true ∨ d = true) ∧ ((a = false ∨ b = false) ∨ c = false ∨ d = false)) ↔ ((((d || b) || c) || a) && !(((d && b) && c) && a)) = true := by decide +kernel
theorem b4' : ∀ a b c d : Bool, (((a = true ∨ b = true) ∨ c = true ∨ d = true) ∧ ((a = false ∨ b = false) ∨ c = false ∨ d = false)) ↔ (((d || c) || (b || a)) && !((d && c) && (b && a))) = true := by decide +kernel
theorem mixC (b : Nat → Bool) (x y z : Nat) : mix3 b x y z 2 2 2 ↔ cC b x y z = true := by
  unfold mix3
  rw [q222, q222]
  exact b8 (ex b x y z) (ex b x y (z + 1)) (ex b x (y + 1) z) (ex b x (y + 1) (z + 1)) (ex b (x + 1) y z) (ex b (x + 1) y (z + 1)) (ex b (x + 1) (y + 1) z) (ex b (x + 1) (y + 1) (z + 1))
theorem mixE0 (b : Nat → Bool) (x y z : Nat) : mix3 b (x + 1) y z 1 2 2 ↔ cE0 b x y z = true := by
  unfold mix3
  rw [q122, q122]
  exact b4 (ex b (x + 1) y z) (ex b (x + 1) y (z + 1)) (ex b (x + 1) (y + 1) z) (ex b (x + 1) (y + 1) (z + 1))
theorem mixE1 (b : Nat → Bool) (x y z : Nat) : mix3 b x (y + 1) z 2 1 2 ↔ cE1 b x y z = true := by
  unfold mix3
  rw [q212, q212]
  exact b4' (ex b x (y + 1) z) (ex b x (y + 1) (z + 1)) (ex b (x + 1) (y + 1) z) (ex b (x + 1) (y + 1) (z + 1))
theorem mixE2 (b : Nat → Bool) (x y z : Nat) : mix3 b x y (z + 1) 2 2 1 ↔ cE2 b x y z = true := by
  unfold mix3
  rw [q221, q221]
  exact b4' (ex b x y (z + 1)) (ex b x (y + 1) (z + 1)) (ex b (x + 1) y (z + 1)) (ex b (x + 1) (y + 1) (z + 1))
/-! what is marked -/
theorem sN_at {r : Nat → Int32} {g : Nat → Nat} {j : Nat} : ∀ k, ¬ sN r g k j = 0 ↔ ¬ r j = 0 ∨ ∃ i, i < k ∧ g i = j := by
  intro k
  induction k with
  | zero => rw [sN_0]; exact ⟨Or.inl, fun h => h.elim id fun ⟨i, hi, _⟩ => absurd hi (by omega)⟩
  | succ k ih =>
    rw [sN_s]
    show ¬ (if j = g k then nI 1 else sN r g k j) = 0 ↔ _
    by_cases e : j = g k
    · rw [if_pos e]
      exact ⟨fun _ => Or.inr ⟨k, by omega, e.symm⟩, fun _ => by decide⟩
    · rw [if_neg e, ih]
      refine or_congr Iff.rfl ⟨fun ⟨i, hi, h⟩ => ⟨i, by omega, h⟩, fun ⟨i, hi, h⟩ => ⟨i, ?_, h⟩⟩
      exact Nat.lt_of_le_of_ne (Nat.le_of_lt_succ hi) fun z => e (by rw [← h, z])
theorem eu_at {M : Mm} {g : Nat → Nat → Nat → Nat} {r : Nat → Int32} {j : Nat} : ∀ q, ¬ euF M g r q j = 0 ↔ ¬ r j = 0 ∨ ∃ p, p < q ∧ ¬ mI M 56 p = -1 ∧ ∃ i, i < 4 ∧ g (p / 6) (p % 6) i = j := by
  intro q
  induction q with
  | zero => rw [euF_0]; exact ⟨Or.inl, fun h => h.elim id fun ⟨i, hi, _⟩ => absurd hi (by omega)⟩
  | succ q ih =>
    by_cases e : mI M 56 q = -1
    · rw [euF_z e, ih]
      refine or_congr Iff.rfl ⟨fun ⟨i, hi, h⟩ => ⟨i, by omega, h⟩, fun ⟨i, hi, h1, h⟩ => ⟨i, ?_, h1, h⟩⟩
      exact Nat.lt_of_le_of_ne (Nat.le_of_lt_succ hi) fun z => h1 (by rw [z]; exact e)
    · rw [euF_s e]
      unfold ma4
      rw [sN_at, ih]
      constructor
      · rintro ((h | ⟨p, hp, h⟩) | h)
        · exact Or.inl h
        · exact Or.inr ⟨p, by omega, h⟩
        · exact Or.inr ⟨q, by omega, e, h⟩
      · rintro (h | ⟨p, hp, h1, h⟩)
        · exact Or.inl (Or.inl h)
        · by_cases z : p = q
          · subst z; exact Or.inr h
          · exact Or.inl (Or.inr ⟨p, by omega, h1, h⟩)
theorem eu_sq {M : Mm} {F K : Nat → Int64} (h : RB F K (mI M 54) (mI M 56)) {g : Nat → Nat → Nat → Nat} {r : Nat → Int32} {j : Nat} (hr : r j = nI 0) : ¬ euF M g r 3072 j = 0 ↔ ∃ n s, n < 512 ∧ s < 6 ∧ sqB (cb F) n s = true ∧ ∃ i, i < 4 ∧ g n s i = j := by
  rw [eu_at]
  constructor
  · rintro (q | ⟨p, hp, h1, h2⟩)
    · exact absurd hr q
    · refine ⟨p / 6, p % 6, by omega, by omega, ?_, h2⟩
      have e := (RB_m h (show p / 6 < 512 by omega) (show p % 6 < 6 by omega)).1
      rw [show 6 * (p / 6) + p % 6 = p by omega] at e
      cases q : sqB (cb F) (p / 6) (p % 6) with
      | true => rfl
      | false => exact absurd (e.mpr q) h1
  · rintro ⟨n, s, hn, hs, h1, h2⟩
    refine Or.inr ⟨6 * n + s, by omega, fun q => ?_, ?_⟩
    · rw [(RB_m h hn hs).1.mp q] at h1; exact absurd h1 (by decide)
    · rw [show (6 * n + s) / 6 = n by omega, show (6 * n + s) % 6 = s by omega]; exact h2
theorem ex_c {P Q : Nat → Nat → Prop} {b : Nat → Bool} (h : ∀ n s, n < 512 → s < 6 → (P n s ↔ Q n s)) : (∃ n s, n < 512 ∧ s < 6 ∧ sqB b n s = true ∧ P n s) ↔ ∃ n s, n < 512 ∧ s < 6 ∧ sqB b n s = true ∧ Q n s :=
  ⟨fun ⟨n, s, h1, h2, h3, h4⟩ => ⟨n, s, h1, h2, h3, (h n s h1 h2).mp h4⟩, fun ⟨n, s, h1, h2, h3, h4⟩ => ⟨n, s, h1, h2, h3, (h n s h1 h2).mpr h4⟩⟩
theorem sm3 (g : Nat → Nat → Nat → Nat) (a : Nat) : fb_sm (fun x => fb_sm (fun y => fb_sm (fun z => g x y z) a) a) a = fb_sm (fun z => fb_sm (fun y => fb_sm (fun x => g x y z) a) a) a := by
  rw [sm_swap (fun x y => fb_sm (fun z => g x y z) a) a a, fb_sm_cong (fun y _ => sm_swap (fun x z => g x y z) a a)]
  exact sm_swap (fun y z => fb_sm (fun x => g x y z) a) a a
/-- the places of nine by nine by nine, by rows -/
theorem ct_729 {p : Nat → Bool} {q : Nat → Nat → Nat → Bool} (h : ∀ x y z, x < 9 → y < 9 → z < 9 → p (81 * x + 9 * y + z) = q x y z) : fb_ct p 729 = fb_sm (fun z => fb_sm (fun y => fb_ct (fun x => q x y z) 9) 9) 9 := by
  rw [ct_b01, show (729 : Nat) = 9 * 81 from rfl, sm_mul (b01 p) 81 9]
  have e : ∀ x, x < 9 → fb_sm (fun j => b01 p (x * 81 + j)) 81 = fb_sm (fun y => fb_sm (fun z => b01 (fun z => q x y z) z) 9) 9 := fun x hx => by
    rw [show (81 : Nat) = 9 * 9 from rfl, sm_mul (fun j => b01 p (x * (9 * 9) + j)) 9 9]
    refine fb_sm_cong fun y hy => fb_sm_cong fun z hz => ?_
    unfold b01
    rw [show x * (9 * 9) + (y * 9 + z) = 81 * x + 9 * y + z by omega, h x y z hx hy hz]
  rw [fb_sm_cong e, sm3 (fun x y z => b01 (fun z => q x y z) z) 9]
  refine fb_sm_cong fun z _ => fb_sm_cong fun y _ => ?_
  rw [ct_b01]
  rfl
theorem ct_thr (p : Nat → Nat → Bool) : fb_ct (fun q => p (q / 3) (q % 3)) 2187 = fb_sm (fun s => fb_ct (fun n => p n s) 729) 3 := by
  rw [ct_b01, show (2187 : Nat) = 729 * 3 from rfl, sm_mul _ 3 729]
  have h : ∀ s, fb_ct (fun n => p n s) 729 = fb_sm (fun n => b01 (fun n => p n s) n) 729 := fun s => ct_b01 _ _
  rw [fb_sm_cong (fun s _ => h s), ← sm_swap (fun n s => b01 (fun n => p n s) n) 3 729]
  refine fb_sm_cong fun n _ => fb_sm_cong fun s hs => ?_
  have e1 : (n * 3 + s) / 3 = n := by omega
  have e2 : (n * 3 + s) % 3 = s := by omega
  simp only [b01, e1, e2]
theorem btq {P : Prop} [Decidable P] {b : Bool} (h : ¬ P ↔ b = true) : (!decide P) = b := by
  by_cases q : P
  · rw [decide_eq_true q]
    cases b
    · rfl
    · exact absurd q (h.mpr rfl)
  · rw [decide_eq_false q, h.mp q]; rfl
theorem cor_eq {M : Mm} {F K : Nat → Int64} (h : RB F K (mI M 54) (mI M 56)) {C0 : Nat → Int32} (h0 : ∀ j, j < 729 → C0 j = nI 0) : fb_ct (fun j => !decide (euF M cnI C0 3072 j = 0)) 729 = fb_sm (fun z => fb_sm (fun y => fb_ct (fun x => cC (cb F) x y z) 9) 9) 9 :=
  ct_729 fun x y z hx hy hz => btq (by
    rw [eu_sq h (h0 _ (by omega)), ex_c fun n s hn hs => corn_at hn hs hx hy hz, at_mix (by decide) (by decide) (by decide), mixC])
theorem edg_eq {M : Mm} {F K : Nat → Int64} (h : RB F K (mI M 54) (mI M 56)) {E0 : Nat → Int32} (h0 : ∀ j, j < 2187 → E0 j = nI 0) : fb_ct (fun j => !decide (euF M egI E0 3072 j = 0)) 2187 = fb_sm (fun z => fb_sm (sE (cb F) z) 9) 9 := by
  have e : fb_ct (fun j => !decide (euF M egI E0 3072 j = 0)) 2187 = fb_ct (fun q => (fun n s => !decide (euF M egI E0 3072 (3 * n + s) = 0)) (q / 3) (q % 3)) 2187 := fb_ct_cong fun q _ => by
    show _ = !decide (euF M egI E0 3072 (3 * (q / 3) + q % 3) = 0)
    rw [show 3 * (q / 3) + q % 3 = q by omega]
  have a0 : fb_ct (fun n => !decide (euF M egI E0 3072 (3 * n + 0) = 0)) 729 = fb_sm (fun z => fb_sm (fun y => fb_ct (fun x => cE0 (cb F) x y z) 9) 9) 9 :=
    ct_729 fun x y z hx hy hz => btq (by
      rw [eu_sq h (h0 _ (by omega)), ex_c fun n s hn hs => edge_0 hn hs hx hy hz, at_mix (by decide) (by decide) (by decide), mixE0])
  have a1 : fb_ct (fun n => !decide (euF M egI E0 3072 (3 * n + 1) = 0)) 729 = fb_sm (fun z => fb_sm (fun y => fb_ct (fun x => cE1 (cb F) x y z) 9) 9) 9 :=
    ct_729 fun x y z hx hy hz => btq (by
      rw [eu_sq h (h0 _ (by omega)), ex_c fun n s hn hs => edge_1 hn hs hx hy hz, at_mix (by decide) (by decide) (by decide), mixE1])
  have a2 : fb_ct (fun n => !decide (euF M egI E0 3072 (3 * n + 2) = 0)) 729 = fb_sm (fun z => fb_sm (fun y => fb_ct (fun x => cE2 (cb F) x y z) 9) 9) 9 :=
    ct_729 fun x y z hx hy hz => btq (by
      rw [eu_sq h (h0 _ (by omega)), ex_c fun n s hn hs => edge_2 hn hs hx hy hz, at_mix (by decide) (by decide) (by decide), mixE2])
  rw [e, ct_thr (fun n s => !decide (euF M egI E0 3072 (3 * n + s) = 0))]
  have e3 : ∀ g : Nat → Nat, fb_sm g 3 = g 0 + g 1 + g 2 := fun g => by rw [fb_sm_succ, fb_sm_succ, fb_sm_succ]; show 0 + g 0 + g 1 + g 2 = _; omega
  rw [e3]
  show fb_ct (fun n => !decide (euF M egI E0 3072 (3 * n + 0) = 0)) 729 + fb_ct (fun n => !decide (euF M egI E0 3072 (3 * n + 1) = 0)) 729 + fb_ct (fun n => !decide (euF M egI E0 3072 (3 * n + 2) = 0)) 729 = _
  rw [a0, a1, a2, ← fb_sm_add, ← fb_sm_add]
  refine fb_sm_cong fun z _ => ?_
  rw [← fb_sm_add, ← fb_sm_add]
  refine fb_sm_cong fun y _ => ?_
  unfold sE
  omega
theorem smF_6 (g : Nat → Int32) : smF g (nI 0) 6 = smI g 6 := rfl
theorem eul_eq {M : Mm} {F K : Nat → Int64} (h : RB F K (mI M 54) (mI M 56)) {C0 E0 : Nat → Int32} (hC : ∀ j, j < 729 → C0 j = nI 0) (hE : ∀ j, j < 2187 → E0 j = nI 0) : eulN F = (ctK (fun i => mI M 56 i = -1) 3072) + ctK (fun i => (euF M cnI C0 3072) i = 0) 729 - ctK (fun i => (euF M egI E0 3072) i = 0) 2187 := by
  unfold eulN
  rw [eulZ_n F _ 9 (Nat.le_refl _), ← area_eq h, ctK_n 729, ctK_n 2187, cor_eq h hC, edg_eq h hE, smF_6]
  rfl
theorem sp_euler {l : Launch} {E : Ev} : Sp_euler l E Inv := by
  intro M hI
  obtain ⟨g, cnt, bar, fr, pc, mc, q⟩ := id hI
  refine ⟨5, _, by decide, c_X9_euler q.1.2.2.1 (INV_b q).2.2.2, fun v M1 hP => ⟨_, hP.1, 4, _, by decide, c_X10_euler, fun v2 M2 hP2 => ?_⟩⟩
  obtain ⟨-, h⟩ := hP
  subst h
  obtain ⟨C0, E0, h1, h2, h3, h4⟩ := hP2
  refine ⟨?_, Inv_sm (sm_tr (sm_cd _ _) (fr_sm h4 (fun t ht => by unfold scr; omega))) hI⟩
  rw [h3, eul_eq (INV_RB q) h1 h2]
