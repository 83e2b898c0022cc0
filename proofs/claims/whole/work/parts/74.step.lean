/-! the step: class and model carry a feature out alike -/
def mv3 (c n : Nat) (X Y Z : Int) : Prop := (alN n 0 : Int) = alN c 0 + X ∧ (alN n 1 : Int) = alN c 1 + Y ∧ (alN n 2 : Int) = alN c 2 + Z
theorem al_0 (n : Nat) : alN n 0 = n / 64 := rfl
theorem al_1 (n : Nat) : alN n 1 = n / 8 % 8 := rfl
theorem al_2 (n : Nat) : alN n 2 = n % 8 := rfl
theorem in7_e (x : Int32) : in7 x = true ↔ 0 ≤ x.toInt ∧ x.toInt ≤ 7 := by
  unfold in7
  rw [inX_i, Int32.lt_iff_toInt_lt, Int32.lt_iff_toInt_lt, nI_toInt (by decide), nI_toInt (by decide)]
  omega
theorem ntX_i {x : Int32} (h : 0 ≤ x.toInt) : (ntX x : Int) = x.toInt := Int.toNat_of_nonneg h
theorem i8 {x : Int32} {b : Nat} (hb : b < 2 ^ 31) (h : 0 ≤ x.toInt ∧ x.toInt < b) : ∃ k, k < b ∧ x = nI k := ⟨x.toInt.toNat, by omega, Int32.toInt_inj.mp (by rw [nI_toInt (by omega)]; omega)⟩
theorem clX_at {X Y Z : Int32} {n : Nat} (hn : n < 512) : clX X Y Z = nI n ↔ X.toInt = alN n 0 ∧ Y.toInt = alN n 1 ∧ Z.toInt = alN n 2 := by
  rw [al_0, al_1, al_2]
  unfold clX
  simp only [in7_e]
  split
  · rename_i h
    have e1 := ntX_i h.1.1
    have e2 := ntX_i h.2.1.1
    have e3 := ntX_i h.2.2.1
    rw [nI_eq (by omega) (by omega)]
    omega
  · rename_i h
    refine ⟨fun q => absurd q.symm (nI_nm1 (by omega)), fun q => absurd ?_ h⟩
    omega
theorem insd_e (x y z : Int32) : insd x y z = true ↔ (0 ≤ x.toInt ∧ x.toInt ≤ 7) ∧ (0 ≤ y.toInt ∧ y.toInt ≤ 7) ∧ (0 ≤ z.toInt ∧ z.toInt ≤ 7) := by
  unfold insd
  rw [decide_eq_true_iff]
  simp only [Int32.lt_iff_toInt_lt, Int32.le_iff_toInt_le, nI_toInt (show 8 < 2 ^ 31 by decide)]
  have : (0 : Int32).toInt = 0 := by decide
  omega
theorem ptf_at (f : Nat → Int64) {X Y Z : Int32} {n : Nat} (hn : n < 512) : cb (ptf f X Y Z) n = (cb f n || decide (clX X Y Z = nI n)) := by
  by_cases h : insd X Y Z = true
  · have g := (insd_e X Y Z).mp h
    obtain ⟨x, hx, rfl⟩ := i8 (b := 8) (by decide) (show 0 ≤ X.toInt ∧ X.toInt < (8 : Nat) by omega)
    obtain ⟨y, hy, rfl⟩ := i8 (b := 8) (by decide) (show 0 ≤ Y.toInt ∧ Y.toInt < (8 : Nat) by omega)
    obtain ⟨z, hz, rfl⟩ := i8 (b := 8) (by decide) (show 0 ≤ Z.toInt ∧ Z.toInt < (8 : Nat) by omega)
    have e := ptf_bw (f := f) hx hy hz (show n / 64 < 8 by omega) (show n / 8 % 8 < 8 by omega) (z' := n % 8)
    unfold cb po
    rw [e]
    congr 1
    apply decide_eq_decide.mpr
    rw [clX_at hn, nI_toInt (by omega), nI_toInt (by omega), nI_toInt (by omega), al_0, al_1, al_2]
    omega
  · unfold ptf
    rw [if_neg h, decide_eq_false, Bool.or_false]
    intro q
    rw [clX_at hn, al_0, al_1, al_2] at q
    exact h ((insd_e X Y Z).mpr (by omega))
/-! slides -/
theorem bw_hi : ∀ c, c < 8 → ∀ k, k < 64 → bw (72340172838076673 * (shl 255 c &&& 255)) k = decide (c ≤ k % 8) := by decide +kernel
theorem bw_lo : ∀ c, c < 8 → ∀ k, k < 64 → bw (72340172838076673 * shr 255 c) k = decide (k % 8 + c < 8) := by decide +kernel
theorem bw_out (w : Int64) {y x d : Nat} (h : 64 ≤ d * 8 + (y * 8 + x)) : bw w (d * 8 + (y * 8 + x)) = false := bw_ge w h
/-- moved along the second axis -/
def sly (w : Int64) (bY : Int32) : Int64 := if 0 ≤ bY then shl w (bY.toNatClampNeg * 8) else shr w ((-bY).toNatClampNeg * 8)
theorem sgn8 {x : Int32} (h : -8 < x.toInt ∧ x.toInt < 8) : (∃ c, c < 8 ∧ x = nI c ∧ x.toInt = c) ∨ ∃ c, 0 < c ∧ c < 8 ∧ x = -(nI c) ∧ x.toInt = -(c : Int) := by
  by_cases g : 0 ≤ x.toInt
  · obtain ⟨k, hk, e⟩ := i8 (b := 8) (by decide) (show 0 ≤ x.toInt ∧ x.toInt < (8 : Nat) by omega)
    exact Or.inl ⟨k, hk, e, by rw [e, nI_toInt (by omega)]⟩
  · refine Or.inr ⟨(-x.toInt).toNat, by omega, by omega, ?_, by omega⟩
    apply Int32.toInt_inj.mp
    have e : (nI (-x.toInt).toNat).toInt = -x.toInt := by rw [nI_toInt (by omega)]; omega
    rw [fb_negI (by rw [e]; omega), e]
    omega
theorem ng8 : ∀ c, 0 < c → c < 8 → ¬ (0 : Int32) ≤ -(nI c) ∧ (-(-(nI c))).toNatClampNeg = c := by
  intro c h1 h2
  have : ∀ c, c < 8 → 0 < c → ¬ (0 : Int32) ≤ -(nI c) ∧ (-(-(nI c))).toNatClampNeg = c := by decide +kernel
  exact this c h2 h1
theorem cl8n {c : Nat} (h : c < 8) : (nI c).toNatClampNeg = c ∧ (0 : Int32) ≤ nI c := ⟨nI_clamp (by omega), nI_pos' (by omega)⟩
theorem sly_bw (w : Int64) {bY : Int32} (h : -8 < bY.toInt ∧ bY.toInt < 8) {x y : Nat} (hx : x < 8) (hy : y < 8) : bw (sly w bY) (y * 8 + x) = true ↔ ∃ y' : Nat, y' < 8 ∧ (y : Int) = y' + bY.toInt ∧ bw w (y' * 8 + x) = true := by
  unfold sly
  rcases sgn8 h with ⟨c, hc, e, ei⟩ | ⟨c, h0, hc, e, ei⟩
  · rw [ei, e, if_pos (cl8n hc).2, (cl8n hc).1, bw_shl w _ (by omega), Bool.and_eq_true, decide_eq_true_iff]
    constructor
    · rintro ⟨h1, h2⟩
      refine ⟨y - c, by omega, by omega, ?_⟩
      rwa [show (y - c) * 8 + x = y * 8 + x - c * 8 by omega]
    · rintro ⟨y', h1, h2, h3⟩
      refine ⟨by omega, ?_⟩
      rwa [show y * 8 + x - c * 8 = y' * 8 + x by omega]
  · rw [ei, e, if_neg (ng8 c h0 hc).1, (ng8 c h0 hc).2, bw_shr]
    constructor
    · intro h1
      have h2 : c * 8 + (y * 8 + x) < 64 := Nat.lt_of_not_le fun q => by rw [bw_ge w q] at h1; exact absurd h1 (by decide)
      refine ⟨y + c, by omega, by omega, ?_⟩
      rwa [show (y + c) * 8 + x = c * 8 + (y * 8 + x) by omega]
    · rintro ⟨y', h1, h2, h3⟩
      rwa [show c * 8 + (y * 8 + x) = y' * 8 + x by omega]
theorem sldw_e (w : Int64) (bx bY : Int32) : sldw w bx bY = if bx ≤ -8 ∨ nI 8 ≤ bx ∨ bY ≤ -8 ∨ nI 8 ≤ bY then 0 else if 0 ≤ bx then shl (sly w bY) bx.toNatClampNeg &&& (72340172838076673 * (shl 255 bx.toNatClampNeg &&& 255)) else shr (sly w bY) (-bx).toNatClampNeg &&& (72340172838076673 * shr 255 (-bx).toNatClampNeg) := rfl
theorem sldw_bw (w : Int64) (bx bY : Int32) {x y : Nat} (hx : x < 8) (hy : y < 8) : bw (sldw w bx bY) (y * 8 + x) = true ↔ ∃ x' y' : Nat, x' < 8 ∧ y' < 8 ∧ (x : Int) = x' + bx.toInt ∧ (y : Int) = y' + bY.toInt ∧ bw w (y' * 8 + x') = true := by
  have e8 : (-8 : Int32).toInt = -8 := by decide
  have e9 : (nI 8).toInt = 8 := by decide
  have ho : (bx ≤ -8 ∨ nI 8 ≤ bx ∨ bY ≤ -8 ∨ nI 8 ≤ bY) ↔ (bx.toInt ≤ -8 ∨ 8 ≤ bx.toInt ∨ bY.toInt ≤ -8 ∨ 8 ≤ bY.toInt) := by
    rw [Int32.le_iff_toInt_le, Int32.le_iff_toInt_le, Int32.le_iff_toInt_le, Int32.le_iff_toInt_le, e8, e9]
  rw [sldw_e]
  by_cases g : bx ≤ -8 ∨ nI 8 ≤ bx ∨ bY ≤ -8 ∨ nI 8 ≤ bY
  · rw [if_pos g, bw_0]
    have g2 := ho.mp g
    refine ⟨fun q => absurd q (by decide), ?_⟩
    rintro ⟨x', y', h1, h2, h3, h4, -⟩
    omega
  · rw [if_neg g]
    have g2 : ¬ (bx.toInt ≤ -8 ∨ 8 ≤ bx.toInt ∨ bY.toInt ≤ -8 ∨ 8 ≤ bY.toInt) := fun q => g (ho.mpr q)
    have hb : -8 < bY.toInt ∧ bY.toInt < 8 := by omega
    rcases sgn8 (x := bx) (by omega) with ⟨c, hc, e, ei⟩ | ⟨c, h0, hc, e, ei⟩
    · rw [ei, e, if_pos (cl8n hc).2, (cl8n hc).1, bw_and, bw_hi c hc _ (by omega), bw_shl _ _ (by omega), Bool.and_eq_true, Bool.and_eq_true, decide_eq_true_iff, decide_eq_true_iff, show (y * 8 + x) % 8 = x by omega]
      constructor
      · rintro ⟨⟨h1, h2⟩, h3⟩
        rw [show y * 8 + x - c = y * 8 + (x - c) by omega] at h2
        obtain ⟨y', k1, k2, k3⟩ := (sly_bw w hb (show x - c < 8 by omega) hy).mp h2
        exact ⟨x - c, y', by omega, k1, by omega, k2, k3⟩
      · rintro ⟨x', y', k1, k2, k3, k4, k5⟩
        refine ⟨⟨by omega, ?_⟩, by omega⟩
        rw [show y * 8 + x - c = y * 8 + x' by omega]
        exact (sly_bw w hb k1 hy).mpr ⟨y', k2, k4, k5⟩
    · rw [ei, e, if_neg (ng8 c h0 hc).1, (ng8 c h0 hc).2, bw_and, bw_lo c hc _ (by omega), bw_shr, Bool.and_eq_true, decide_eq_true_iff, show (y * 8 + x) % 8 = x by omega]
      constructor
      · rintro ⟨h2, h3⟩
        rw [show c + (y * 8 + x) = y * 8 + (x + c) by omega] at h2
        obtain ⟨y', k1, k2, k3⟩ := (sly_bw w hb (show x + c < 8 by omega) hy).mp h2
        exact ⟨x + c, y', by omega, k1, by omega, k2, k3⟩
      · rintro ⟨x', y', k1, k2, k3, k4, k5⟩
        refine ⟨?_, by omega⟩
        rw [show c + (y * 8 + x) = y * 8 + x' by omega]
        exact (sly_bw w hb k1 hy).mpr ⟨y', k2, k4, k5⟩
theorem sldz_at (f g : Nat → Int64) {bx bY bz : Int32} (hz : -1000 ≤ bz.toInt ∧ bz.toInt ≤ 1000) {n : Nat} (hn : n < 512) : cb (fun z => sldz f g bx bY bz z) n = true ↔ cb f n = true ∨ ∃ m, m < 512 ∧ cb g m = true ∧ mv3 m n bx.toInt bY.toInt bz.toInt := by
  have e0 : (0 : Int32).toInt = 0 := by decide
  have e9 : (nI 8).toInt = 8 := by decide
  have es : (nI (n % 8) - bz).toInt = (n % 8 : Nat) - bz.toInt := by
    rw [fb_subI (by rw [nI_toInt (by omega)]; omega) (by rw [nI_toInt (by omega)]; omega), nI_toInt (by omega)]
  show bw (sldz f g bx bY bz (n % 8)) (po n) = true ↔ _
  unfold sldz
  have ho : (0 ≤ nI (n % 8) - bz ∧ ¬ nI 8 ≤ nI (n % 8) - bz) ↔ 0 ≤ ((n % 8 : Nat) : Int) - bz.toInt ∧ ((n % 8 : Nat) : Int) - bz.toInt < 8 := by
    rw [Int32.le_iff_toInt_le, Int32.le_iff_toInt_le, es, e0, e9]; omega
  by_cases h : 0 ≤ nI (n % 8) - bz ∧ ¬ nI 8 ≤ nI (n % 8) - bz
  · have h2 := ho.mp h
    obtain ⟨k, hk, ek⟩ := i8 (x := nI (n % 8) - bz) (b := 8) (by decide) (by rw [es]; omega)
    rw [ek, nI_toInt (by omega)] at es
    rw [if_pos h, ek, cl8 hk, bw_or, Bool.or_eq_true]
    refine or_congr Iff.rfl ?_
    show bw (sldw (g k) bx bY) (n / 8 % 8 * 8 + n / 64) = true ↔ _
    rw [sldw_bw (g k) bx bY (show n / 64 < 8 by omega) (show n / 8 % 8 < 8 by omega)]
    constructor
    · rintro ⟨x', y', h3, h4, h5, h6, h7⟩
      refine ⟨64 * x' + 8 * y' + k, by omega, ?_, ?_⟩
      · unfold cb po
        rwa [show (64 * x' + 8 * y' + k) % 8 = k by omega, show (64 * x' + 8 * y' + k) / 8 % 8 = y' by omega, show (64 * x' + 8 * y' + k) / 64 = x' by omega]
      · unfold mv3
        rw [al_0, al_1, al_2, al_0, al_1, al_2]
        omega
    · rintro ⟨m, hm, h3, h4⟩
      unfold mv3 at h4
      rw [al_0, al_1, al_2, al_0, al_1, al_2] at h4
      refine ⟨m / 64, m / 8 % 8, by omega, by omega, h4.1, h4.2.1, ?_⟩
      have : k = m % 8 := by omega
      rw [this]; exact h3
  · rw [if_neg h]
    refine ⟨Or.inl, fun q => q.elim id ?_⟩
    rintro ⟨m, hm, h3, h4⟩
    unfold mv3 at h4
    rw [al_0, al_1, al_2, al_0, al_1, al_2] at h4
    exact absurd (ho.mpr (by omega)) h
/-- the steps of a pattern or a push, in the class -/
theorem rpK_at (A : Nat → Int64) (u : Int32) (bx bY bz : Nat → Int32) (f : Nat → Int64) {n : Nat} (hn : n < 512) : ∀ k, k ≤ 7 → (∀ i, i ≤ 7 → -1000 ≤ (bz i).toInt ∧ (bz i).toInt ≤ 1000) → (cb (rpK A u bx bY bz f k) n = true ↔ cb f n = true ∨ ∃ i, 1 ≤ i ∧ i ≤ k ∧ ¬ u < nI i ∧ ∃ m, m < 512 ∧ cb A m = true ∧ mv3 m n (bx i).toInt (bY i).toInt (bz i).toInt) := by
  intro k
  induction k with
  | zero =>
    intro _ _
    show cb f n = true ↔ _
    refine ⟨Or.inl, fun q => q.elim id ?_⟩
    rintro ⟨i, h1, h2, -⟩
    omega
  | succ k ih =>
    intro hk hb
    rw [rpK_s]
    have ih := ih (by omega) hb
    by_cases h : u < nI (k + 1)
    · rw [if_pos h, ih]
      refine or_congr Iff.rfl ⟨?_, ?_⟩
      · rintro ⟨i, h1, h2, h3⟩; exact ⟨i, h1, by omega, h3⟩
      · rintro ⟨i, h1, h2, h3, h4⟩
        refine ⟨i, h1, Nat.le_of_lt_succ (Nat.lt_of_le_of_ne h2 fun q => h3 (by rw [q]; exact h)), h3, h4⟩
    · rw [if_neg h, sldz_at _ _ (hb (k + 1) hk) hn, ih]
      constructor
      · rintro ((q | ⟨i, h1, h2, h3⟩) | q)
        · exact Or.inl q
        · exact Or.inr ⟨i, h1, by omega, h3⟩
        · exact Or.inr ⟨k + 1, by omega, Nat.le_refl _, h, q⟩
      · rintro (q | ⟨i, h1, h2, h3, h4⟩)
        · exact Or.inl (Or.inl q)
        · by_cases e : i = k + 1
          · subst e; exact Or.inr h4
          · exact Or.inl (Or.inr ⟨i, h1, by omega, h3, h4⟩)
/-! what the model adds -/
def cl5 (q : Int32) : Prop := q = -1 ∨ ∃ t, t < 512 ∧ q = nI t
theorem clX_5 (x y z : Int32) : cl5 (clX x y z) := by
  by_cases h : clX x y z = -1
  · exact Or.inl h
  · obtain ⟨w, hw, e⟩ := clX_n h
    exact Or.inr ⟨w, hw, e⟩
theorem addS_at {r : Nat → Int32} {q : Int32} {j : Nat} (hj : j < 512) (hq : cl5 q) : ¬ addS r q j = 0 ↔ ¬ r j = 0 ∨ q = nI j := by
  unfold addS
  rcases hq with h | ⟨t, ht, h⟩
  · rw [if_pos h, h]
    exact ⟨Or.inl, fun g => g.elim id fun e => absurd e.symm (nI_nm1 (by omega))⟩
  · rw [h, if_neg (nI_nm1 (by omega)), ntX_nI (by omega), nI_eq (by omega) (by omega)]
    show ¬ (if j = t then nI 1 else r j) = 0 ↔ _
    by_cases e : j = t
    · rw [if_pos e]; exact ⟨fun _ => Or.inr e.symm, fun _ => by decide⟩
    · rw [if_neg e]; exact ⟨Or.inl, fun g => g.elim id fun q => absurd q.symm e⟩
theorem cpP_at {r g : Nat → Int32} {j : Nat} (hj : j < 512) (hg : ∀ i, cl5 (g i)) : ∀ k, ¬ cpP r g k j = 0 ↔ ¬ r j = 0 ∨ ∃ i, 1 ≤ i ∧ i ≤ k ∧ g i = nI j := by
  intro k
  induction k with
  | zero =>
    show ¬ r j = 0 ↔ _
    refine ⟨Or.inl, fun q => q.elim id ?_⟩
    rintro ⟨i, h1, h2, -⟩
    omega
  | succ k ih =>
    show ¬ addS (cpP r g k) (g (k + 1)) j = 0 ↔ _
    rw [addS_at hj (hg _), ih]
    constructor
    · rintro ((q | ⟨i, h1, h2, h3⟩) | q)
      · exact Or.inl q
      · exact Or.inr ⟨i, h1, by omega, h3⟩
      · exact Or.inr ⟨k + 1, by omega, Nat.le_refl _, q⟩
    · rintro (q | ⟨i, h1, h2, h3⟩)
      · exact Or.inl (Or.inl q)
      · by_cases e : i = k + 1
        · subst e; exact Or.inr h3
        · exact Or.inl (Or.inr ⟨i, h1, by omega, h3⟩)
def adc (kd : Int32) (a : Nat → Int32) (mk : Int32) (c j : Nat) : Prop :=
  if kd = nI 109 then mrC a c = nI j else if kd = nI 112 then ∃ i, 1 ≤ i ∧ i ≤ (a 3).toInt.toNat ∧ rpC a c i = nI j else (kd = nI 101 ∧ ¬ mk = 0) ∧ ∃ i, 1 ≤ i ∧ i ≤ (a 2).toInt.toNat ∧ phC a c i = nI j
theorem copR_at {kd : Int32} {a : Nat → Int32} {mk : Int32} {c j : Nat} {r : Nat → Int32} (hj : j < 512) : ¬ copR kd a mk c r j = 0 ↔ ¬ r j = 0 ∨ adc kd a mk c j := by
  unfold copR adc
  by_cases h1 : kd = nI 109
  · rw [if_pos h1, if_pos h1, addS_at hj (show cl5 (mrC a c) from clX_5 _ _ _)]
  · rw [if_neg h1, if_neg h1]
    by_cases h2 : kd = nI 112
    · rw [if_pos h2, if_pos h2, cpP_at hj (show ∀ i, cl5 (rpC a c i) from fun _ => clX_5 _ _ _)]
    · rw [if_neg h2, if_neg h2]
      by_cases h3 : kd = nI 101 ∧ ¬ mk = 0
      · rw [if_pos h3, cpP_at hj (show ∀ i, cl5 (phC a c i) from fun _ => clX_5 _ _ _)]
        exact or_congr Iff.rfl ⟨fun q => ⟨h3, q⟩, fun q => q.2⟩
      · rw [if_neg h3]
        exact ⟨Or.inl, fun q => q.elim id fun g => absurd g.1 h3⟩
theorem foC_at {kd : Int32} {a mk B r : Nat → Int32} {j : Nat} (hj : j < 512) : ∀ k, ¬ foC kd a mk B r k j = 0 ↔ ¬ r j = 0 ∨ ∃ c, c < k ∧ ¬ B c = 0 ∧ adc kd a (mk c) c j := by
  intro k
  induction k with
  | zero =>
    show ¬ r j = 0 ↔ _
    refine ⟨Or.inl, fun q => q.elim id ?_⟩
    rintro ⟨i, h1, -⟩
    omega
  | succ k ih =>
    show ¬ (if B k = 0 then foC kd a mk B r k else copR kd a (mk k) k (foC kd a mk B r k)) j = 0 ↔ _
    by_cases h : B k = 0
    · rw [if_pos h, ih]
      refine or_congr Iff.rfl ⟨?_, ?_⟩
      · rintro ⟨c, h1, h2⟩; exact ⟨c, by omega, h2⟩
      · rintro ⟨c, h1, h2, h3⟩
        exact ⟨c, Nat.lt_of_le_of_ne (Nat.le_of_lt_succ h1) fun q => h2 (by rw [q]; exact h), h2, h3⟩
    · rw [if_neg h, copR_at hj, ih]
      constructor
      · rintro ((q | ⟨c, h1, h2⟩) | q)
        · exact Or.inl q
        · exact Or.inr ⟨c, by omega, h2⟩
        · exact Or.inr ⟨k, by omega, h, q⟩
      · rintro (q | ⟨c, h1, h2, h3⟩)
        · exact Or.inl (Or.inl q)
        · by_cases e : c = k
          · subst e; exact Or.inr h3
          · exact Or.inl (Or.inr ⟨c, by omega, h2, h3⟩)
/-! mirrors -/
def sw3 (k : Nat) : Nat := 64 * (k % 8) + 8 * (k / 8 % 8) + k / 64
theorem sw3_lt {k : Nat} (h : k < 512) : sw3 k < 512 := by unfold sw3; omega
theorem sw3_1 : ∀ k, k < 512 → sw3 k / 64 = k % 8 ∧ sw3 k / 8 % 8 = k / 8 % 8 ∧ sw3 k % 8 = k / 64 := by decide +kernel
theorem sw3_0 {k : Nat} (h : k < 512) : sw3 k / 64 = k % 8 ∧ sw3 k / 8 % 8 = k / 8 % 8 ∧ sw3 k % 8 = k / 64 := sw3_1 k h
theorem sw3_sw {k : Nat} (h : k < 512) : sw3 (sw3 k) = k := by
  obtain ⟨e1, e2, e3⟩ := sw3_0 h
  show 64 * (sw3 k % 8) + 8 * (sw3 k / 8 % 8) + sw3 k / 64 = k
  rw [e1, e2, e3]
  omega
def mrZ (ax s : Int32) (c : Nat) : Int32 := clX (mcy ax 0 s (nI (alN c 0))) (mcy ax (nI 1) s (nI (alN c 1))) (mcy ax (nI 2) s (nI (alN c 2)))
theorem mrS_at (A : Nat → Int64) (ax s : Int32) (g : Nat → Int64) {k n : Nat} (hk : k < 512) (hn : n < 512) : cb (mrS A ax s g (k % 8) (k / 8 % 8) (k / 64)) n = true ↔ cb g n = true ∨ (cb A (sw3 k) = true ∧ mrZ ax s (sw3 k) = nI n) := by
  obtain ⟨f1, f2, f3⟩ := sw3_0 hk
  have e : cel A (nI (k % 8)) (nI (k / 8 % 8)) (nI (k / 64)) = cb A (sw3 k) := by
    unfold cel cb po
    rw [insd_n (by omega) (by omega) (by omega), Bool.true_and, cl8 (by omega), cl8 (by omega), cl8 (by omega), f1, f2, f3]
  have e2 : clX (mcy ax 0 s (nI (k % 8))) (mcy ax (nI 1) s (nI (k / 8 % 8))) (mcy ax (nI 2) s (nI (k / 64))) = mrZ ax s (sw3 k) := by
    unfold mrZ
    rw [al_0, al_1, al_2, f1, f2, f3]
  unfold mrS
  rw [e]
  by_cases h : cb A (sw3 k) = true
  · rw [if_pos h, ptf_at _ hn, e2, Bool.or_eq_true, decide_eq_true_iff]
    exact or_congr Iff.rfl ⟨fun q => ⟨h, q⟩, fun q => q.2⟩
  · rw [if_neg h]
    exact ⟨Or.inl, fun q => q.elim id fun g => absurd g.1 h⟩
theorem mrK_at (A : Nat → Int64) (ax s : Int32) (f : Nat → Int64) {n : Nat} (hn : n < 512) : ∀ k, k ≤ 512 → (cb (mrK A ax s f k) n = true ↔ cb f n = true ∨ ∃ i, i < k ∧ cb A (sw3 i) = true ∧ mrZ ax s (sw3 i) = nI n) := by
  intro k
  induction k with
  | zero =>
    intro _
    show cb f n = true ↔ _
    refine ⟨Or.inl, fun q => q.elim id ?_⟩
    rintro ⟨i, h1, -⟩
    omega
  | succ k ih =>
    intro hk
    rw [mrK_s, mrS_at A ax s _ (by omega) hn, ih (by omega)]
    constructor
    · rintro ((q | ⟨c, h1, h2⟩) | q)
      · exact Or.inl q
      · exact Or.inr ⟨c, by omega, h2⟩
      · exact Or.inr ⟨k, by omega, q⟩
    · rintro (q | ⟨c, h1, h2⟩)
      · exact Or.inl (Or.inl q)
      · by_cases e : c = k
        · subst e; exact Or.inr h2
        · exact Or.inl (Or.inr ⟨c, by omega, h2⟩)
theorem mrX_at (A : Nat → Int64) (ax s : Int32) (f : Nat → Int64) {n : Nat} (hn : n < 512) : cb (mrX A ax s f) n = true ↔ cb f n = true ∨ ∃ c, c < 512 ∧ cb A c = true ∧ mrZ ax s c = nI n := by
  unfold mrX
  rw [mrK_at A ax s f hn 512 (Nat.le_refl _)]
  refine or_congr Iff.rfl ⟨?_, ?_⟩
  · rintro ⟨i, hi, h⟩; exact ⟨sw3 i, sw3_lt hi, h⟩
  · rintro ⟨c, hc, h⟩; exact ⟨sw3 c, sw3_lt hc, by rw [sw3_sw hc]; exact h⟩
