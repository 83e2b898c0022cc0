/-! what holds between calls, of the class alone -/
def IA (M : Mm) (g cnt bar : Nat) (fr : Nat → Nat) : Prop := mI M 2 5 = nI cnt ∧ mI M 2 6 = nI g ∧ mI M 2 7 = nI bar ∧ ∀ k, k < cnt → mI M 24 k = nI (fr k)
def CB (g cnt bar : Nat) (fr : Nat → Nat) : Prop := g ≤ 40 ∧ cnt ≤ 12 ∧ bar ≤ cnt ∧ (∀ k, k < cnt → fr k < g) ∧ ∀ i j, i < cnt → j < cnt → fr i = fr j → i = j
def CC (M : Mm) (g : Nat) : Prop := (∀ f, f < g → seven (mI M 25 f)) ∧ ∀ f, f < 40 → mI M 27 f = 0 ∨ mI M 27 f = nI 1
/-- names of a formula's terms are below it -/
def acy (F S : Nat → Int32) : Prop := ∃ ρ : Nat → Nat, ∀ n, n < 8 → ∀ m, m < 8 → (F n = nI (100 + m) ∨ S n = nI (100 + m)) → ρ m < ρ n
def CN (M : Mm) : Prop := (∀ n, n < 8 → rdX (mI M 20) (mI M 21) (mI M 22) (mI M 23) 8 n = mI M 23 n) ∧ acy (mI M 20) (mI M 22) ∧ ∀ n, n < 8 → vp_nar .char (mI M 21 n) = mI M 21 n
def fch (x : Int32) : Prop := x = 0 ∨ x = nI 45 ∨ x = nI 100 ∨ x = nI 108 ∨ x = nI 120
/-- the bodies behind the features ahead of the bar -/
def HS (M : Mm) (bar : Nat) (fr : Nat → Nat) : Prop := ((∀ z, z < 8 → mL M 0 z = 0) ∧ ∀ i, i < 288 → mK M 0 i = 0) ∧ ∀ k, k < bar → stR M (fr k) (mL M k) (mK M k) (mL M (k + 1)) (mK M (k + 1)) (mI M 28 (fr k))
def CH (M : Mm) (bar : Nat) (fr : Nat → Nat) : Prop := mI M 1 11 = nI bar ∧ (∀ k, k < bar → acX M k (fr k) = true) ∧ HS M bar fr ∧ ∀ f, f < 40 → fch (mI M 28 f)
def CP (M : Mm) (pc mc : Nat) : Prop := (mI M 5 2 = nI pc ∧ pc ≤ 6) ∧ (mI M 5 3 = nI mc ∧ mc ≤ 12) ∧ (∀ k, k < mc → (∃ a, a < 3 ∧ mI M 35 k = nI a) ∧ (∃ p, p < pc ∧ mI M 36 k = nI p) ∧ (mI M 37 k = -1 ∨ ∃ p, p < pc ∧ mI M 37 k = nI p)) ∧ fitX M mc = true
def CI (M : Mm) (g cnt bar : Nat) (fr : Nat → Nat) (pc mc : Nat) : Prop := IA M g cnt bar fr ∧ CB g cnt bar fr ∧ CC M g ∧ CN M ∧ CH M bar fr ∧ sbN M cnt fr = true ∧ CP M pc mc
theorem IA_c {M M' : Mm} {g cnt bar : Nat} {fr : Nat → Nat} (h2 : mI M' 2 = mI M 2) (h24 : mI M' 24 = mI M 24) (h : IA M g cnt bar fr) : IA M' g cnt bar fr := by
  unfold IA at *
  rw [h2, h24]; exact h
theorem CC_c {M M' : Mm} {g : Nat} (h25 : mI M' 25 = mI M 25) (h27 : mI M' 27 = mI M 27) (h : CC M g) : CC M' g := by
  unfold CC at *
  rw [h25, h27]; exact h
theorem CN_c {M M' : Mm} (h : ∀ t, 20 ≤ t ∧ t ≤ 23 → mI M' t = mI M t) (q : CN M) : CN M' := by
  unfold CN at *
  rw [h 20 (by omega), h 21 (by omega), h 22 (by omega), h 23 (by omega)]; exact q
theorem szX_d {M M' : Mm} (h23 : mI M' 23 = mI M 23) (h26 : mI M' 26 = mI M 26) (f w : Nat) : szX M' f w = szX M f w := by unfold szX; rw [h23, h26]
theorem stR_c {M M' : Mm} (h23 : mI M' 23 = mI M 23) (h25 : mI M' 25 = mI M 25) (h26 : mI M' 26 = mI M 26) (h27 : mI M' 27 = mI M 27) {g : Nat} {F0 K0 F K : Nat → Int64} {x : Int32} (q : stR M g F0 K0 F K x) : stR M' g F0 K0 F K x := by
  unfold stR at *
  rw [h27, h25]
  refine ⟨fun e => ?_, q.2⟩
  obtain ⟨a, h1, h2⟩ := q.1 e
  exact ⟨a, fun w hw => by rw [szX_d h23 h26]; exact h1 w hw, h2⟩
theorem acX_c {M M' : Mm} (h : ∀ t, t = 23 ∨ t = 26 ∨ t = 27 ∨ t = 30 ∨ t = 31 ∨ t = 32 → mI M' t = mI M t) (k f : Nat) : acX M' k f = acX M k f := by
  unfold acX szX
  rw [h 23 (by omega), h 26 (by omega), h 27 (by omega), h 30 (by omega), h 31 (by omega), h 32 (by omega)]
theorem CH_c {M M' : Mm} {bar : Nat} {fr : Nat → Nat} (h1 : mI M' 1 11 = mI M 1 11) (h : ∀ t, t = 23 ∨ (25 ≤ t ∧ t ≤ 28) ∨ (30 ≤ t ∧ t ≤ 32) → mI M' t = mI M t) (hL : ∀ c, c ≤ bar → mL M' c = mL M c) (hK : ∀ c, c ≤ bar → mK M' c = mK M c) (q : CH M bar fr) : CH M' bar fr := by
  obtain ⟨q1, q2, ⟨q3, q4⟩, q5⟩ := q
  refine ⟨by rw [h1]; exact q1, fun k hk => ?_, ⟨?_, fun k hk => ?_⟩, ?_⟩
  · rw [acX_c (M := M) (fun t ht => h t (by omega))]; exact q2 k hk
  · rw [hL 0 (by omega), hK 0 (by omega)]; exact q3
  · rw [hL k (by omega), hK k (by omega), hL (k + 1) hk, hK (k + 1) hk, h 28 (by omega)]
    exact stR_c (h 23 (by omega)) (h 25 (by omega)) (h 26 (by omega)) (h 27 (by omega)) (q4 k hk)
  · rw [h 28 (by omega)]; exact q5
theorem sb_c {M M' : Mm} {cnt : Nat} {fr : Nat → Nat} (h : ∀ t, 23 ≤ t ∧ t ≤ 26 → mI M' t = mI M t) : sbN M' cnt fr = sbN M cnt fr := by
  unfold sbN szX
  rw [h 23 (by omega), h 24 (by omega), h 25 (by omega), h 26 (by omega)]
theorem CP_c {M M' : Mm} {pc mc : Nat} (h5 : mI M' 5 = mI M 5) (h : ∀ t, 34 ≤ t ∧ t ≤ 38 → mI M' t = mI M t) (q : CP M pc mc) : CP M' pc mc := by
  unfold CP fitX apX mvX at *
  rw [h5, h 34 (by omega), h 35 (by omega), h 36 (by omega), h 37 (by omega), h 38 (by omega)]; exact q
/-- questions change nothing of it -/
theorem bf_rf (M : Mm) : bfF M M := ⟨fun _ _ => rfl, rfl, fun _ _ => rfl, fun _ _ => rfl⟩
theorem bf_tr {A B C : Mm} (h : bfF A B) (g : bfF B C) : bfF A C := ⟨fun t ht => (g.1 t ht).trans (h.1 t ht), g.2.1.trans h.2.1, fun c hc => (g.2.2.1 c hc).trans (h.2.2.1 c hc), fun c hc => (g.2.2.2 c hc).trans (h.2.2.2 c hc)⟩
theorem bf_L {M : Mm} {c : Nat} (hc : 13 ≤ c ∧ c ≤ 18) (f : Nat → Int64) : bfF M (sL M c f) := ⟨fun _ _ => rfl, rfl, fun d hd => by rw [mL_sL, if_neg (by omega)], fun _ _ => rfl⟩
theorem CI_bf {M M' : Mm} {g cnt bar : Nat} {fr : Nat → Nat} {pc mc : Nat} (h : bfF M M') (q : CI M g cnt bar fr pc mc) : CI M' g cnt bar fr pc mc := by
  obtain ⟨h1, h2, h3, h4⟩ := h
  obtain ⟨q1, q2, q3, q4, q5, q6, q7⟩ := q
  have hb : bar ≤ 12 := Nat.le_trans q2.2.2.1 q2.2.1
  exact ⟨IA_c (h1 2 (by decide)) (h1 24 (by decide)) q1, q2, CC_c (h1 25 (by decide)) (h1 27 (by decide)) q3, CN_c (fun t ht => h1 t (by omega)) q4, CH_c (by rw [h1 1 (by decide)]) (fun t ht => h1 t (by omega)) (fun c hc => h3 c (by omega)) (fun c hc => h4 c (by omega)) q5, (sb_c (fun t ht => h1 t (by omega))).trans q6, CP_c (h1 5 (by decide)) (fun t ht => h1 t (by omega)) q7⟩
/-! what follows of it -/
theorem CI_row {M : Mm} {g cnt bar : Nat} {fr : Nat → Nat} {pc mc : Nat} (q : CI M g cnt bar fr pc mc) : ∀ k, k < cnt → mI M 24 k = nI (fr k) ∧ fr k < 40 := fun k hk => ⟨q.1.2.2.2 k hk, Nat.lt_of_lt_of_le (q.2.1.2.2.2.1 k hk) q.2.1.1⟩
theorem CI_kd {M : Mm} {g cnt bar : Nat} {fr : Nat → Nat} {pc mc : Nat} (q : CI M g cnt bar fr pc mc) : ∀ k, k < cnt → seven (mI M 25 (fr k)) := fun k hk => q.2.2.1.1 _ (q.2.1.2.2.2.1 k hk)
theorem CI_of {M : Mm} {g cnt bar : Nat} {fr : Nat → Nat} {pc mc : Nat} (q : CI M g cnt bar fr pc mc) : ∀ f, f < 40 → vp_nar .boolean (mI M 27 f) = mI M 27 f := fun f hf => by
  rcases q.2.2.1.2 f hf with e | e <;> rw [e] <;> decide
theorem fch_n {x : Int32} (h : fch x) : narrow .char (.int x) = .int x := by
  rcases h with e | e | e | e | e <;> rw [e] <;> decide
theorem CI_mt {M : Mm} {g cnt bar : Nat} {fr : Nat → Nat} {pc mc : Nat} (q : CI M g cnt bar fr pc mc) : ∀ k, k < mc → (∃ a, a < 3 ∧ mI M 35 k = nI a) ∧ isPt (mI M 36 k) ∧ isPt (mI M 37 k) := fun k hk => by
  obtain ⟨⟨p1, p2⟩, p3, p4, p5⟩ := q.2.2.2.2.2.2
  obtain ⟨e1, ⟨p, hp, e2⟩, e3⟩ := p4 k hk
  refine ⟨e1, Or.inr ⟨p, by omega, e2⟩, ?_⟩
  rcases e3 with e3 | ⟨r, hr, e3⟩
  · exact Or.inl e3
  · exact Or.inr ⟨r, by omega, e3⟩
theorem ftX_ch (kd : Int32) (a : Nat → Int32) (f K : Nat → Int64) : fch (ftX kd a f K) := by
  unfold ftX fch
  split
  · exact Or.inr (Or.inr (Or.inr (Or.inr rfl)))
  · split
    · split
      · exact Or.inr (Or.inr (Or.inr (Or.inl rfl)))
      · split
        · exact Or.inr (Or.inl rfl)
        · exact Or.inr (Or.inr (Or.inl rfl))
    · exact Or.inr (Or.inl rfl)
theorem acX_i {M : Mm} {k f : Nat} : acX M k f = true ↔ (∀ w, w < 6 → mI M 32 (k * 6 + w) = szX M f w) ∧ mI M 30 k = nI f ∧ mI M 31 k = mI M 27 f := by
  unfold acX
  rw [Bool.and_eq_true, List.all_eq_true, decide_eq_true_iff]
  refine and_congr ⟨fun h w hw => of_decide_eq_true (h w (List.mem_range.mpr hw)), fun h w hw => decide_eq_true (h w (List.mem_range.mp hw))⟩ Iff.rfl
theorem wk_0 {M : Mm} {fr : Nat → Nat} {lo : Nat} : ∀ p, p ≤ lo → wkX M fr lo p = 0 := by
  intro p
  induction p with
  | zero => intro _; rfl
  | succ p ih =>
    intro h
    show (if lo ≤ p ∧ mI M 27 (fr p) = 0 then wkX M fr lo p + 1 else wkX M fr lo p) = 0
    rw [if_neg (by omega), ih (by omega)]
/-- what a call may change before it carries out -/
def EC (M Me : Mm) : Prop := (∀ t, t = 1 ∨ t = 5 ∨ (28 ≤ t ∧ t ≤ 38) → mI Me t = mI M t) ∧ Me.2 = M.2
theorem EC_I {M : Mm} {t : Nat} (ht : ¬ (t = 1 ∨ t = 5 ∨ (28 ≤ t ∧ t ≤ 38))) (f : Nat → Int32) : EC M (sI M t f) := ⟨fun t' h => by rw [mI_sI, if_neg (fun e => ht (by rw [← e]; exact h))], rfl⟩
theorem EC_tr {A B C : Mm} (h : EC A B) (g : EC B C) : EC A C := ⟨fun t ht => (g.1 t ht).trans (h.1 t ht), g.2.trans h.2⟩
theorem wk_n {M : Mm} {fr : Nat → Nat} {lo : Nat} : ∀ p, ∃ d, d ≤ p ∧ wkX M fr lo p = Int64.ofNat d := by
  intro p
  induction p with
  | zero => exact ⟨0, Nat.le_refl _, rfl⟩
  | succ p ih =>
    obtain ⟨d, h1, h2⟩ := ih
    show ∃ d, d ≤ p + 1 ∧ (if lo ≤ p ∧ mI M 27 (fr p) = 0 then wkX M fr lo p + 1 else wkX M fr lo p) = Int64.ofNat d
    by_cases c : lo ≤ p ∧ mI M 27 (fr p) = 0
    · exact ⟨d + 1, by omega, by rw [if_pos c, h2, show (1 : Int64) = Int64.ofNat 1 from rfl, ← Int64.ofNat_add]⟩
    · exact ⟨d, by omega, by rw [if_neg c, h2]⟩
/-- a change carried out keeps it -/
theorem ci_change {M Me M1 : Mm} {g cnt bar : Nat} {fr : Nat → Nat} {pc mc g2 cnt2 bar2 : Nat} {fr2 : Nat → Nat} (hI : CI M g cnt bar fr pc mc) (hE : EC M Me) (hkd : ∀ f, f < g → mI Me 25 f = mI M 25 f) (hcoc : cocP Me bar2 bar fr2 M1)
    (hA : IA Me g2 cnt2 bar2 fr2) (hB : CB g2 cnt2 bar2 fr2) (hC : CC Me g2) (hN : CN Me) (hO : sbN Me cnt2 fr2 = true) : CI M1 g2 cnt2 bar2 fr2 pc mc ∧ (∀ t, ¬ (t = 1 ∨ (28 ≤ t ∧ t ≤ 32)) → mI M1 t = mI Me t) ∧ ∃ d, d ≤ 12 ∧ mW M1 0 = mW M 0 + Int64.ofNat d := by
  obtain ⟨q1, q2, q3, q4, q5, q6, q7⟩ := hI
  obtain ⟨lo, Mp, k1, k2, k3, k4, hLI, rfl⟩ := hcoc
  obtain ⟨l1, l2, l3, l4, l5, l6, l7, l8, l9, -⟩ := hLI
  have hcnt12 := q2.2.1
  have hbc := q2.2.2.1
  have hg := q2.1
  have hcnt2 := hB.2.1
  have hb2c := hB.2.2.1
  have hg2 := hB.1
  have hb12 : bar2 ≤ 12 := Nat.le_trans hb2c hcnt2
  have hfr2 : ∀ k, k < bar2 → fr2 k < g2 := fun k hk => hB.2.2.2.1 k (by omega)
  have hfr : ∀ k, k < bar → fr k < g := fun k hk => q2.2.2.2.1 k (by omega)
  have hij : ∀ i j, i < bar2 → j < bar2 → fr2 i = fr2 j → i = j := fun i j hi hj e => hB.2.2.2.2 i j (by omega) (by omega) e
  have eML : ∀ c, mL Me c = mL M c := fun c => by show Me.2.1 c = M.2.1 c; rw [hE.2]
  have eMK : ∀ c, mK Me c = mK M c := fun c => by show Me.2.2.1 c = M.2.2.1 c; rw [hE.2]
  have e1 : ∀ t, ¬ (t = 1 ∨ (28 ≤ t ∧ t ≤ 32)) → mI (sI Mp 1 (upd (mI Mp 1) 11 (nI bar2))) t = mI Me t := fun t ht => by
    rw [mI_sI, if_neg (by omega), l1 t (by omega)]
  have e1p : ∀ t, ¬ t = 1 → mI (sI Mp 1 (upd (mI Mp 1) 11 (nI bar2))) t = mI Mp t := fun t ht => by rw [mI_sI, if_neg ht]
  -- the stages
  have hold : ∀ k, k < lo → fr k = fr2 k ∧ stR Me (fr2 k) (mL M k) (mK M k) (mL M (k + 1)) (mK M (k + 1)) (mI M 28 (fr2 k)) := fun k hk => by
    have a := acX_i.mp (k3 k hk)
    have b := acX_i.mp (q5.2.1 k (by omega))
    rw [hE.1 32 (by omega), hE.1 30 (by omega), hE.1 31 (by omega)] at a
    have hfk := hfr k (by omega)
    have hfk2 := hfr2 k (by omega)
    have e : fr k = fr2 k := (nI_eq (by omega) (by omega)).mp (b.2.1.symm.trans a.2.1)
    refine ⟨e, ?_⟩
    have s := q5.2.2.1.2 k (by omega)
    rw [e] at s b hfk
    unfold stR at *
    rw [← a.2.2, b.2.2, hkd _ hfk]
    refine ⟨fun z => ?_, s.2⟩
    obtain ⟨v, v1, v2⟩ := s.1 z
    exact ⟨v, fun w hw => by rw [← a.1 w hw, b.1 w hw]; exact v1 w hw, v2⟩
  have hst : ∀ k, k < bar2 → stR Me (fr2 k) (mL Mp k) (mK Mp k) (mL Mp (k + 1)) (mK Mp (k + 1)) (mI Mp 28 (fr2 k)) := fun k hk => by
    by_cases h : lo ≤ k
    · exact l6 k h hk
    · have s := (hold k (by omega)).2
      rw [l4 k (by omega) (by omega), l4 (k + 1) (by omega) (by omega), l5 k (by omega), l5 (k + 1) (by omega), eML, eML, eMK, eMK, l7 (fr2 k) (fun j hj1 hj2 _ z => by have := hij j k hj2 hk z; omega), hE.1 28 (by omega)]
      exact s
  have hS0 : (∀ z, z < 8 → mL Mp 0 z = 0) ∧ ∀ i, i < 288 → mK Mp 0 i = 0 := by
    rw [l4 0 (by omega) (by omega), l5 0 (by omega), eML, eMK]; exact q5.2.2.1.1
  refine ⟨⟨?_, hB, ?_, ?_, ⟨?_, fun k hk => ?_, ⟨hS0, fun k hk => ?_⟩, fun f hf => ?_⟩, ?_, ?_⟩, e1, ?_⟩
  · exact IA_c (M := Me) (e1 2 (by omega)) (e1 24 (by omega)) hA
  · exact CC_c (e1 25 (by omega)) (e1 27 (by omega)) hC
  · exact CN_c (fun t ht => e1 t (by omega)) hN
  · rw [mI_sI, if_pos rfl]; rfl
  · rw [acX_c (M := Mp) (fun t ht => e1p t (by omega))]
    by_cases h : lo ≤ k
    · exact l2 k h hk
    · have a := k3 k (by omega)
      have b := l3 k (by omega) (by omega)
      rw [acX_i] at a ⊢
      rw [b.1, b.2.1]
      refine ⟨fun w hw => ?_, a.2.1, ?_⟩
      · rw [b.2.2 w hw, szX_d (M := Me) (l1 23 (by omega)) (l1 26 (by omega))]; exact a.1 w hw
      · rw [l1 27 (by omega)]; exact a.2.2
  · rw [e1p 28 (by decide)]
    exact stR_c (M := Me) (e1 23 (by omega)) (e1 25 (by omega)) (e1 26 (by omega)) (e1 27 (by omega)) (hst k hk)
  · rw [e1p 28 (by decide)]
    by_cases h : ∃ k, lo ≤ k ∧ k < bar2 ∧ mI Me 27 (fr2 k) = 0 ∧ fr2 k = f
    · obtain ⟨k, h1, h2, h3, h4⟩ := h
      obtain ⟨a, -, -, h5⟩ := (hst k h2).1 h3
      rw [← h4, h5]; exact ftX_ch _ _ _ _
    · rw [l7 f (fun k h1 h2 h3 h4 => h ⟨k, h1, h2, h3, h4⟩), hE.1 28 (by omega)]
      exact q5.2.2.2 f hf
  · exact (sb_c (fun t ht => e1 t (by omega))).trans hO
  · exact CP_c (M := M) (by rw [e1 5 (by omega), hE.1 5 (by omega)]) (fun t ht => by rw [e1 t (by omega), hE.1 t (by omega)]) q7
  · obtain ⟨d, d1, d2⟩ := wk_n (M := Me) (fr := fr2) (lo := lo) bar2
    refine ⟨d, by omega, ?_⟩
    show mW Mp 0 = _
    rw [l8, d2]
    show Me.2.2.2.1 0 + _ = _
    rw [hE.2]
