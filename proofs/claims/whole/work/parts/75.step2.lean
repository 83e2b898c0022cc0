/-! the step, second: bodies, names, faults -/
theorem unX_c {kd : Int32} {a b : Nat → Int32} (h : ∀ w, w < 6 → a w = b w) : unX kd a = unX kd b := by
  unfold unX
  rw [h 0 (by decide), h 1 (by decide), h 2 (by decide), h 3 (by decide), h 4 (by decide), h 5 (by decide)]
theorem ftX_c {kd : Int32} {a b : Nat → Int32} (h : ∀ w, w < 6 → a w = b w) (f K : Nat → Int64) : ftX kd a f K = ftX kd b f K := by
  unfold ftX
  rw [unX_c h, h 0 (by decide), h 1 (by decide)]
theorem boxOK_c {a b : Nat → Int32} (h : ∀ w, w < 6 → a w = b w) {B : Nat → Int64} (g : boxOK a B) : boxOK b B := by
  intro x y z hx hy hz
  rw [g x y z hx hy hz]
  unfold Bx
  rw [h 0 (by decide), h 1 (by decide), h 2 (by decide), h 3 (by decide), h 4 (by decide), h 5 (by decide)]
theorem reF_c {a b : Nat → Int32} (h : ∀ w, w < 6 → a w = b w) (kd : Int32) (B A C H : Nat → Int64) : reF kd a B A C H = reF kd b B A C H := by
  unfold reF
  rw [h 0 (by decide), h 1 (by decide), h 2 (by decide), h 3 (by decide)]
theorem coR_c {a b : Nat → Int32} (h : ∀ w, w < 6 → a w = b w) {kd : Int32} {f0 k0 F K : Nat → Int64} {g : Nat} (q : coR a kd f0 k0 g F K) : coR b kd f0 k0 g F K := by
  unfold coR at *
  rw [← ftX_c h]
  refine ⟨fun e => ?_, q.2⟩
  obtain ⟨B, H, h1, h2, h3, h4⟩ := q.1 e
  exact ⟨B, H, fun z => boxOK_c h (h1 z), fun z => by rw [h2 z, h 0 (by decide), h 1 (by decide)], by rw [h3, reF_c h], h4⟩
abbrev b99 (x : Int32) : Prop := -99 ≤ x.toInt ∧ x.toInt ≤ 99
theorem inb_X {lo n : Int32} (h1 : b99 lo) (h2 : b99 n) {v : Nat} (hv : v < 8) : inX (nI v) lo (lo + n - nI 1) = inb lo n v := by
  have e1 : (nI 1).toInt = 1 := by decide
  have e2 : (lo + n).toInt = lo.toInt + n.toInt := fb_addI (by omega) (by omega)
  have e3 : (lo + n - nI 1).toInt = lo.toInt + n.toInt - 1 := by rw [fb_subI (by omega) (by omega), e2, e1]
  unfold inX inb
  apply decide_eq_decide.mpr
  rw [Int32.lt_iff_toInt_lt, Int32.lt_iff_toInt_lt, e3, e2, nI_toInt (by omega)]
  omega
theorem ibK_B {M : Mm} {f j : Nat} (hb : ∀ w, w < 6 → b99 (dmX M f w)) (hj : j < 512) : ibK M j f 3 = Bx (dmX M f) (j / 64) (j / 8 % 8) (j % 8) := by
  show (((true && inX (nI (alN j 0)) (dmX M f 0) (dmX M f 0 + dmX M f (3 + 0) - nI 1)) && inX (nI (alN j 1)) (dmX M f 1) (dmX M f 1 + dmX M f (3 + 1) - nI 1)) && inX (nI (alN j 2)) (dmX M f 2) (dmX M f 2 + dmX M f (3 + 2) - nI 1)) = _
  rw [Bool.true_and, al_0, al_1, al_2, inb_X (hb 0 (by decide)) (hb 3 (by decide)) (by omega), inb_X (hb 1 (by decide)) (hb 4 (by decide)) (by omega), inb_X (hb 2 (by decide)) (hb 5 (by decide)) (by omega)]
  rfl
theorem cb_box {a : Nat → Int32} {B : Nat → Int64} (h : boxOK a B) {n : Nat} (hn : n < 512) : cb B n = Bx a (n / 64) (n / 8 % 8) (n % 8) := h (n / 64) (n / 8 % 8) (n % 8) (by omega) (by omega) (by omega)
theorem foC_no {kd : Int32} (h1 : ¬ kd = nI 109) (h2 : ¬ kd = nI 112) (h3 : ¬ kd = nI 101) {a mk B r : Nat → Int32} {j : Nat} (hj : j < 512) (k : Nat) : ¬ foC kd a mk B r k j = 0 ↔ ¬ r j = 0 := by
  rw [foC_at hj]
  refine ⟨fun q => q.elim id ?_, Or.inl⟩
  rintro ⟨c, -, -, q⟩
  unfold adc at q
  rw [if_neg h1, if_neg h2] at q
  exact absurd q.1.1 h3
theorem ml_pat {c i : Nat} {x : Int32} (hc : c < 8) (hi : i ≤ 99) (hx : b99 x) : (nI c + nI i * x).toInt = c + i * x.toInt ∧ (x * nI i).toInt = i * x.toInt := by
  have ei : (nI i).toInt = (i : Int) := nI_toInt (by omega)
  have h1 : (i : Int) * x.toInt ≤ 99 * 99 := by
    have := Int.mul_le_mul_of_nonneg_left hx.2 (show (0 : Int) ≤ i by omega)
    omega
  have h2 : -(99 * 99) ≤ (i : Int) * x.toInt := by
    have := Int.mul_le_mul_of_nonneg_left hx.1 (show (0 : Int) ≤ i by omega)
    omega
  have e1 : (nI i * x).toInt = i * x.toInt := by rw [fb_mulI (by rw [ei]; omega) (by rw [ei]; omega), ei]
  have e2 : (x * nI i).toInt = i * x.toInt := by rw [fb_mulI (by rw [ei, Int.mul_comm]; omega) (by rw [ei, Int.mul_comm]; omega), ei, Int.mul_comm]
  refine ⟨?_, e2⟩
  rw [fb_addI (by rw [nI_toInt (by omega), e1]; omega) (by rw [nI_toInt (by omega), e1]; omega), e1, nI_toInt (by omega)]
theorem far0 {i : Nat} {x : Int} (hi : 8 ≤ i) (h : -7 ≤ (i : Int) * x ∧ (i : Int) * x ≤ 7) : x = 0 := by
  rcases Int.lt_trichotomy x 0 with g | g | g
  · have := Int.mul_le_mul_of_nonneg_left (show x ≤ -1 by omega) (show (0 : Int) ≤ i by omega)
    omega
  · exact g
  · have := Int.mul_le_mul_of_nonneg_left (show 1 ≤ x by omega) (show (0 : Int) ≤ i by omega)
    omega
theorem mv3_0 {c n : Nat} (hc : c < 512) (hn : n < 512) (h : mv3 c n 0 0 0) : c = n := by
  unfold mv3 at h
  rw [al_0, al_1, al_2, al_0, al_1, al_2] at h
  omega
theorem alN_lt {n : Nat} (hn : n < 512) (a : Nat) : alN n a < 8 := by
  unfold alN
  split
  · omega
  · split
    · omega
    · omega
theorem rpC_at {a : Nat → Int32} (hb : ∀ w, w < 6 → b99 (a w)) {c n i : Nat} (hc : c < 512) (hn : n < 512) (hi : i ≤ 99) : rpC a c i = nI n ↔ mv3 c n (i * (a 0).toInt) (i * (a 1).toInt) (i * (a 2).toInt) := by
  unfold rpC mv3
  rw [clX_at hn, (ml_pat (alN_lt hc 0) hi (hb 0 (by decide))).1, (ml_pat (alN_lt hc 1) hi (hb 1 (by decide))).1, (ml_pat (alN_lt hc 2) hi (hb 2 (by decide))).1]
  exact and_congr eq_comm (and_congr eq_comm eq_comm)
theorem nlt_n {x : Int32} (hx : ¬ x < 0) {i : Nat} (hi : i < 2 ^ 31) : ¬ x < nI i ↔ i ≤ x.toInt.toNat := by
  rw [Int32.lt_iff_toInt_lt] at hx
  rw [Int32.lt_iff_toInt_lt, nI_toInt hi]
  have : (0 : Int32).toInt = 0 := by decide
  omega
/-- the pattern -/
theorem pat_eq {a : Nat → Int32} (hb : ∀ w, w < 6 → b99 (a w)) (h3 : ¬ a 3 < 0) {F0 : Nat → Int64} {Ba r mk : Nat → Int32} (hF : ∀ n, n < 512 → cb F0 n = rb Ba n) (hr : ∀ j, j < 512 → r j = Ba j) {n : Nat} (hn : n < 512) : cb (rpX F0 (a 3) (fun k => a 0 * nI k) (fun k => a 1 * nI k) (fun k => a 2 * nI k) F0) n = true ↔ ¬ foC (nI 112) a mk Ba r 512 n = 0 := by
  have hrb : ∀ c, c < 512 → (cb F0 c = true ↔ ¬ Ba c = 0) := fun c hc => by rw [hF c hc]; exact decide_eq_true_iff
  have h99 : (a 3).toInt.toNat ≤ 99 := by have := hb 3 (by decide); omega
  unfold rpX
  rw [rpK_at F0 (a 3) _ _ _ F0 hn 7 (Nat.le_refl _) (fun i hi => by
    show _ ≤ (a 2 * nI i).toInt ∧ (a 2 * nI i).toInt ≤ _
    have h2 := hb 2 (by decide)
    rw [(ml_pat (c := 0) (by decide) (show i ≤ 99 by omega) h2).2]
    have k1 := Int.mul_le_mul_of_nonneg_left h2.2 (show (0 : Int) ≤ i by omega)
    have k2 := Int.mul_le_mul_of_nonneg_left h2.1 (show (0 : Int) ≤ i by omega)
    omega), foC_at hn, hr n hn, hrb n hn]
  constructor
  · rintro (q | ⟨i, h1, h2, h4, m, hm, h5, h6⟩)
    · exact Or.inl q
    · refine Or.inr ⟨m, hm, (hrb m hm).mp h5, ?_⟩
      unfold adc
      rw [if_neg (by decide), if_pos rfl]
      refine ⟨i, h1, (nlt_n h3 (by omega)).mp h4, (rpC_at hb hm hn (by omega)).mpr ?_⟩
      rw [(ml_pat (c := 0) (by decide) (show i ≤ 99 by omega) (hb 0 (by decide))).2, (ml_pat (c := 0) (by decide) (show i ≤ 99 by omega) (hb 1 (by decide))).2, (ml_pat (c := 0) (by decide) (show i ≤ 99 by omega) (hb 2 (by decide))).2] at h6
      exact h6
  · rintro (q | ⟨m, hm, h5, h6⟩)
    · exact Or.inl q
    · unfold adc at h6
      rw [if_neg (by decide), if_pos rfl] at h6
      obtain ⟨i, h1, h2, h7⟩ := h6
      have h8 := (rpC_at hb hm hn (by omega)).mp h7
      by_cases h9 : i ≤ 7
      · refine Or.inr ⟨i, h1, h9, (nlt_n h3 (by omega)).mpr h2, m, hm, (hrb m hm).mpr h5, ?_⟩
        rw [(ml_pat (c := 0) (by decide) (show i ≤ 99 by omega) (hb 0 (by decide))).2, (ml_pat (c := 0) (by decide) (show i ≤ 99 by omega) (hb 1 (by decide))).2, (ml_pat (c := 0) (by decide) (show i ≤ 99 by omega) (hb 2 (by decide))).2]
        exact h8
      · have g0 := alN_lt hm 0
        have g1 := alN_lt hm 1
        have g2 := alN_lt hm 2
        have k0 := alN_lt hn 0
        have k1 := alN_lt hn 1
        have k2 := alN_lt hn 2
        have e0 := far0 (x := (a 0).toInt) (show 8 ≤ i by omega) (by have := h8.1; omega)
        have e1 := far0 (x := (a 1).toInt) (show 8 ≤ i by omega) (by have := h8.2.1; omega)
        have e2 := far0 (x := (a 2).toInt) (show 8 ≤ i by omega) (by have := h8.2.2; omega)
        rw [e0, e1, e2, Int.mul_zero] at h8
        rw [← mv3_0 hm hn h8]
        exact Or.inl h5
/-- the push -/
def psh (s i d : Nat) : Int := if s / 2 = d then (if s % 2 = 0 then -(i : Int) else i) else 0
theorem pay_sg {s i d : Nat} (hi : i ≤ 99) : (pay (s / 2) d (sgX s (nI i))).toInt = psh s i d := by
  have ei : (nI i).toInt = (i : Int) := nI_toInt (by omega)
  unfold pay psh sgX
  by_cases h : s / 2 = d
  · rw [if_pos h, if_pos h]
    by_cases g : s % 2 = 0
    · rw [if_pos g, if_pos g, fb_negI (by rw [ei]; omega), ei]
    · rw [if_neg g, if_neg g, ei]
  · rw [if_neg h, if_neg h]; rfl
theorem pay_ml {s i d : Nat} (hi : i ≤ 99) : (pay (s / 2) d ((if s % 2 = 0 then (-1) else nI 1) * nI i)).toInt = psh s i d := by
  have ei : (nI i).toInt = (i : Int) := nI_toInt (by omega)
  have e1 : (nI 1).toInt = 1 := by decide
  have e2 : (-1 : Int32).toInt = -1 := by decide
  unfold pay psh
  by_cases h : s / 2 = d
  · rw [if_pos h, if_pos h]
    by_cases g : s % 2 = 0
    · rw [if_pos g, if_pos g, fb_mulI (by rw [ei, e2]; omega) (by rw [ei, e2]; omega), ei, e2]; omega
    · rw [if_neg g, if_neg g, fb_mulI (by rw [ei, e1]; omega) (by rw [ei, e1]; omega), ei, e1]; omega
  · rw [if_neg h, if_neg h]; rfl
theorem psh_b {s i : Nat} (d : Nat) (hi : i ≤ 99) : -99 ≤ psh s i d ∧ psh s i d ≤ 99 := by
  unfold psh
  split
  · split
    · omega
    · omega
  · omega
theorem aw_at {c n s i : Nat} (hc : c < 512) (hn : n < 512) (hi : i ≤ 99) : awX c s (nI i) = nI n ↔ mv3 c n (psh s i 0) (psh s i 1) (psh s i 2) := by
  have e : ∀ d, (nI (alN c d) + pay (s / 2) d (sgX s (nI i))).toInt = alN c d + psh s i d := fun d => by
    have := alN_lt hc d
    have := psh_b (s := s) d hi
    rw [fb_addI (by rw [nI_toInt (by omega), pay_sg hi]; omega) (by rw [nI_toInt (by omega), pay_sg hi]; omega), nI_toInt (by omega), pay_sg hi]
  unfold awX mv3
  rw [clX_at hn, e 0, e 1, e 2]
  exact and_congr eq_comm (and_congr eq_comm eq_comm)
theorem far1 {c n s i : Nat} (hc : c < 512) (hn : n < 512) (hs : s < 6) (hi : 8 ≤ i) : ¬ mv3 c n (psh s i 0) (psh s i 1) (psh s i 2) := by
  intro h
  unfold mv3 psh at h
  have g0 := alN_lt hc 0
  have g1 := alN_lt hc 1
  have g2 := alN_lt hc 2
  have k0 := alN_lt hn 0
  have k1 := alN_lt hn 1
  have k2 := alN_lt hn 2
  obtain ⟨h1, h2, h3⟩ := h
  rcases (show s / 2 = 0 ∨ s / 2 = 1 ∨ s / 2 = 2 by omega) with e | e | e
  · rw [if_pos e] at h1
    split at h1
    · omega
    · omega
  · rw [if_pos e] at h2
    split at h2
    · omega
    · omega
  · rw [if_pos e] at h3
    split at h3
    · omega
    · omega
theorem push_eq {a : Nat → Int32} (hb : ∀ w, w < 6 → b99 (a w)) {s : Nat} (hs : s < 6) (h1s : a 1 = nI s) (h2n : ¬ a 2 < 0) {F0 H : Nat → Int64} {Ba r mk : Nat → Int32} (hF : ∀ n, n < 512 → cb F0 n = rb Ba n) (hr : ∀ j, j < 512 → r j = Ba j) (hH : ∀ c, c < 512 → (cb H c = true ↔ ¬ mk c = 0) ∧ (¬ mk c = 0 → ¬ Ba c = 0)) {n : Nat} (hn : n < 512) : cb (rpX H (a 2) (fun k => pay (ntX (a 1) / 2) 0 ((if ntX (a 1) % 2 = 0 then (-1) else nI 1) * nI k)) (fun k => pay (ntX (a 1) / 2) 1 ((if ntX (a 1) % 2 = 0 then (-1) else nI 1) * nI k)) (fun k => pay (ntX (a 1) / 2) 2 ((if ntX (a 1) % 2 = 0 then (-1) else nI 1) * nI k)) F0) n = true ↔ ¬ foC (nI 101) a mk Ba r 512 n = 0 := by
  have hrb : ∀ c, c < 512 → (cb F0 c = true ↔ ¬ Ba c = 0) := fun c hc => by rw [hF c hc]; exact decide_eq_true_iff
  have h99 : (a 2).toInt.toNat ≤ 99 := by have := hb 2 (by decide); omega
  have ea : ntX (a 1) = s := by rw [h1s, ntX_nI (by omega)]
  unfold rpX
  rw [ea, rpK_at H (a 2) _ _ _ F0 hn 7 (Nat.le_refl _) (fun i hi => by
    show _ ≤ (pay (s / 2) 2 ((if s % 2 = 0 then (-1) else nI 1) * nI i)).toInt ∧ (pay (s / 2) 2 ((if s % 2 = 0 then (-1) else nI 1) * nI i)).toInt ≤ _
    rw [pay_ml (by omega)]
    have := psh_b (s := s) (i := i) 2 (by omega)
    omega), foC_at hn, hr n hn, hrb n hn]
  constructor
  · rintro (q | ⟨i, h1, h2, h4, m, hm, h5, h6⟩)
    · exact Or.inl q
    · have h7 := (hH m hm).1.mp h5
      refine Or.inr ⟨m, hm, (hH m hm).2 h7, ?_⟩
      unfold adc
      rw [if_neg (by decide), if_neg (by decide)]
      refine ⟨⟨rfl, h7⟩, i, h1, (nlt_n h2n (by omega)).mp h4, ?_⟩
      unfold phC
      rw [ea, aw_at hm hn (by omega)]
      rw [pay_ml (by omega), pay_ml (by omega), pay_ml (by omega)] at h6
      exact h6
  · rintro (q | ⟨m, hm, h5, h6⟩)
    · exact Or.inl q
    · unfold adc at h6
      rw [if_neg (by decide), if_neg (by decide)] at h6
      obtain ⟨⟨-, hk⟩, i, h1, h2, h7⟩ := h6
      unfold phC at h7
      rw [ea, aw_at hm hn (by omega)] at h7
      have h9 : i ≤ 7 := Nat.le_of_not_lt fun g => far1 hm hn hs g h7
      refine Or.inr ⟨i, h1, h9, (nlt_n h2n (by omega)).mpr h2, m, hm, (hH m hm).1.mpr hk, ?_⟩
      rw [pay_ml (by omega), pay_ml (by omega), pay_ml (by omega)]
      exact h7
theorem bI_or {b c : Bool} : ¬ bI (b || c) = 0 ↔ b = true ∨ c = true := by rw [bI_ne, Bool.or_eq_true]
theorem bI_an {b c : Bool} : ¬ bI (b && c) = 0 ↔ b = true ∧ c = true := by rw [bI_ne, Bool.and_eq_true]
/-- the body -/
theorem body_eq {M : Mm} {f : Nat} {F0 B H : Nat → Int64} {r : Nat → Int32} (hs : seven (mI M 45 f)) (hb : ∀ w, w < 6 → b99 (dmX M f w)) (hF : ∀ n, n < 512 → cb F0 n = rb (mI M 54) n) (hu : unX (mI M 45 f) (dmX M f) = false) (hbx : bxK (mI M 45 f) → boxOK (dmX M f) B) (hH : mI M 45 f = nI 101 → ∀ c, c < 512 → (cb H c = true ↔ ¬ mI M 57 c = 0) ∧ (¬ mI M 57 c = 0 → ¬ mI M 54 c = 0)) (hr : ∀ j, j < 512 → r j = bsV M f j) {n : Nat} (hn : n < 512) : cb (reF (mI M 45 f) (dmX M f) B F0 F0 H) n = true ↔ ¬ foC (mI M 45 f) (dmX M f) (mI M 57) (mI M 54) r 512 n = 0 := by
  have hrb : ∀ c, c < 512 → (cb F0 c = true ↔ ¬ mI M 54 c = 0) := fun c hc => by rw [hF c hc]; exact decide_eq_true_iff
  unfold bsV at hr
  generalize hk : mI M 45 f = kd at *
  unfold reF
  rcases hs with e | e | e | e | e | e | e
  · subst e
    rw [if_pos rfl, foC_no (by decide) (by decide) (by decide) hn, hr n hn, if_pos rfl, bI_or, decide_eq_true_iff]
    show bw (F0 (n % 8) ||| B (n % 8)) (po n) = true ↔ _
    rw [bw_or, Bool.or_eq_true]
    exact or_congr (hrb n hn) (by rw [ibK_B hb hn]; exact iff_of_eq (congrArg (· = true) (cb_box (hbx (Or.inl rfl)) hn)))
  · subst e
    rw [if_neg (by decide), if_pos rfl, foC_no (by decide) (by decide) (by decide) hn, hr n hn, if_neg (by decide), if_pos rfl, bI_an, decide_eq_true_iff]
    show bw (F0 (n % 8) &&& (B (n % 8) ^^^ -1)) (po n) = true ↔ _
    rw [bw_and, bw_not _ (po_lt hn), Bool.and_eq_true]
    exact and_congr (hrb n hn) (by rw [ibK_B hb hn]; exact iff_of_eq (congrArg (fun b => (!b) = true) (cb_box (hbx (Or.inr (Or.inl rfl))) hn)))
  · subst e
    rw [if_neg (by decide), if_neg (by decide), if_pos rfl, foC_no (by decide) (by decide) (by decide) hn, hr n hn, if_neg (by decide), if_neg (by decide), if_pos rfl, bI_an, decide_eq_true_iff]
    show bw (F0 (n % 8) &&& B (n % 8)) (po n) = true ↔ _
    rw [bw_and, Bool.and_eq_true]
    exact and_congr (hrb n hn) (by rw [ibK_B hb hn]; exact iff_of_eq (congrArg (· = true) (cb_box (hbx (Or.inr (Or.inr rfl))) hn)))
  · subst e
    rw [if_neg (by decide), if_neg (by decide), if_neg (by decide), if_pos rfl, mrX_at _ _ _ _ hn, foC_at hn, hr n hn, if_neg (by decide), if_neg (by decide), if_neg (by decide), if_neg (by decide), hrb n hn]
    refine or_congr Iff.rfl ⟨?_, ?_⟩
    · rintro ⟨c, hc, h1, h2⟩
      refine ⟨c, hc, (hrb c hc).mp h1, ?_⟩
      unfold adc
      rw [if_pos rfl]
      exact h2
    · rintro ⟨c, hc, h1, h2⟩
      unfold adc at h2
      rw [if_pos rfl] at h2
      exact ⟨c, hc, (hrb c hc).mpr h1, h2⟩
  · subst e
    rw [if_neg (by decide), if_neg (by decide), if_neg (by decide), if_neg (by decide), if_pos rfl]
    refine pat_eq hb ?_ hF (fun j hj => by rw [hr j hj, if_neg (by decide), if_neg (by decide), if_neg (by decide), if_neg (by decide)]) hn
    unfold unX at hu
    rw [if_neg (by decide), if_neg (by decide), if_pos rfl] at hu
    exact of_decide_eq_false hu
  · subst e
    rw [if_neg (by decide), if_neg (by decide), if_neg (by decide), if_neg (by decide), if_neg (by decide), if_pos rfl, foC_no (by decide) (by decide) (by decide) hn, hr n hn, if_neg (by decide), if_neg (by decide), if_neg (by decide), if_pos rfl, bI_an, decide_eq_true_iff]
    show bw (F0 (n % 8) &&& (inr F0 (n % 8) 6 ^^^ -1)) (po n) = true ↔ _
    rw [bw_and, bw_not _ (po_lt hn), Bool.and_eq_true, inr_B F0 hn 6 (Nat.le_refl _), inM_B hn 6 (Nat.le_refl _)]
    have ee : ∀ s, (nbN n s).elim false (cb F0) = (nbN n s).elim false (rb (mI M 54)) := fun s => by
      cases g : nbN n s with
      | none => rfl
      | some m => exact hF m (nbN_lt hn g)
    rw [show (fun s => (nbN n s).elim false (cb F0)) = (fun s => (nbN n s).elim false (rb (mI M 54))) from funext ee]
    constructor
    · rintro ⟨q1, q2⟩
      rw [show cb F0 n = true from q1, Bool.true_and] at q2
      exact ⟨(hrb n hn).mp q1, q2⟩
    · rintro ⟨q1, q2⟩
      refine ⟨(hrb n hn).mpr q1, ?_⟩
      rw [(hrb n hn).mpr q1, Bool.true_and]
      exact q2
  · subst e
    rw [if_neg (by decide), if_neg (by decide), if_neg (by decide), if_neg (by decide), if_neg (by decide), if_neg (by decide)]
    unfold unX at hu
    rw [if_neg (by decide), if_neg (by decide), if_neg (by decide), if_pos rfl, Bool.or_eq_false_iff] at hu
    have hsd : sdX (dmX M f 1) = true := by cases g : sdX (dmX M f 1) with
      | true => rfl
      | false => rw [g] at hu; exact absurd hu.1 (by decide)
    unfold sdX at hsd
    have hsd := of_decide_eq_true hsd
    obtain ⟨s, hs6, es⟩ := nn_lt (by decide) hsd.1 hsd.2
    exact push_eq hb hs6 es (of_decide_eq_false hu.2) hF (fun j hj => by rw [hr j hj, if_neg (by decide), if_neg (by decide), if_neg (by decide), if_neg (by decide)]) (hH rfl) hn
