/-! what holds between calls -/
def IA (M : Mm) (g cnt bar : Nat) (fr : Nat → Nat) : Prop := mI M 2 5 = nI cnt ∧ mI M 2 6 = nI g ∧ mI M 2 7 = nI bar ∧ ∀ k, k < cnt → mI M 24 k = nI (fr k)
def IF (M : Mm) (g : Nat) : Prop := (∀ f, f < g → mI M 25 f = mI M 45 f ∧ seven (mI M 45 f) ∧ ∀ w, w < 6 → mI M 26 (f * 6 + w) = mI M 46 (6 * f + w)) ∧ (∀ f, f < 40 → mI M 27 f = mI M 48 f) ∧ ∀ f, g ≤ f → f < 40 → mI M 48 f = 0
def opE (x y : Int32) : Prop := x = y ∨ (x = 0 ∧ y = nI 43)
/-- names of a formula's terms are below it -/
def acy (F S : Nat → Int32) : Prop := ∃ ρ : Nat → Nat, ∀ n, n < 8 → ∀ m, m < 8 → (F n = nI (100 + m) ∨ S n = nI (100 + m)) → ρ m < ρ n
def IN (M : Mm) : Prop := (∀ n, n < 8 → mI M 20 n = mI M 40 n ∧ opE (mI M 21 n) (mI M 42 n) ∧ mI M 22 n = mI M 41 n ∧ mI M 23 n = mI M 43 n) ∧ (∀ n, n < 8 → rdX (mI M 40) (mI M 42) (mI M 41) (mI M 43) 8 n = mI M 43 n) ∧ acy (mI M 40) (mI M 41)
def fch (x : Int32) : Prop := x = 0 ∨ x = nI 45 ∨ x = nI 100 ∨ x = nI 108 ∨ x = nI 120
/-- the bodies behind the features ahead of the bar -/
def HS (M : Mm) (bar : Nat) (fr : Nat → Nat) : Prop := ((∀ z, z < 8 → mL M 0 z = 0) ∧ ∀ i, i < 288 → mK M 0 i = 0) ∧ ∀ k, k < bar → stR M (fr k) (mL M k) (mK M k) (mL M (k + 1)) (mK M (k + 1)) (mI M 28 (fr k))
def IH (M : Mm) (bar : Nat) (fr : Nat → Nat) : Prop := mI M 1 11 = nI bar ∧ (∀ k, k < bar → acX M k (fr k) = true) ∧ HS M bar fr ∧ RB (mL M bar) (mK M bar) (mI M 54) (mI M 56) ∧ (∀ k, k < bar → mI M 48 (fr k) = 0 → mI M 28 (fr k) = mI M 49 (fr k)) ∧ (∀ f, f < 40 → fch (mI M 28 f) ∧ fch (mI M 49 f)) ∧ mW M 0 = mW M 1
def IO (M : Mm) (cnt : Nat) (fr : Nat → Nat) : Prop := sbN M cnt fr = true
def IP (M : Mm) (pc mc : Nat) : Prop := (mI M 5 2 = nI pc ∧ mI M 12 27 = nI pc ∧ pc ≤ 6) ∧ (mI M 5 3 = nI mc ∧ mI M 12 31 = nI mc ∧ mc ≤ 12) ∧ (∀ i, i < 18 → mI M 34 i = mI M 60 i) ∧ (∀ p, p < 6 → mI M 33 p = mI M 61 p ∧ (mI M 61 p = 0 ∨ mI M 61 p = nI 1) ∧ (pc ≤ p → mI M 61 p = 0)) ∧ (∀ p, p < 6 → ¬ mI M 61 p = 0 → ∀ n, n < 512 → cb (mL M (19 + p)) n = decide (¬ mI M 62 (512 * p + n) = 0)) ∧ (∀ k, k < mc → mI M 35 k = mI M 63 k ∧ mI M 36 k = mI M 64 k ∧ mI M 37 k = mI M 65 k ∧ (∃ a, a < 3 ∧ mI M 63 k = nI a) ∧ (∃ p, p < pc ∧ mI M 64 k = nI p) ∧ (mI M 65 k = -1 ∨ ∃ p, p < pc ∧ mI M 65 k = nI p)) ∧ fitX M mc = true
def INV (M : Mm) (g cnt bar : Nat) (fr : Nat → Nat) (pc mc : Nat) : Prop := IA M g cnt bar fr ∧ MV M g cnt bar fr ∧ IF M g ∧ IN M ∧ IH M bar fr ∧ IO M cnt fr ∧ IP M pc mc
def Inv (M : Mm) : Prop := ∃ g cnt bar fr pc mc, INV M g cnt bar fr pc mc
theorem IA_c {M M' : Mm} {g cnt bar : Nat} {fr : Nat → Nat} (h2 : mI M' 2 = mI M 2) (h24 : mI M' 24 = mI M 24) (h : IA M g cnt bar fr) : IA M' g cnt bar fr := by
  unfold IA at *
  rw [h2, h24]; exact h
theorem IF_c {M M' : Mm} {g : Nat} (h : ∀ t, t = 25 ∨ t = 26 ∨ t = 27 ∨ t = 45 ∨ t = 46 ∨ t = 48 → mI M' t = mI M t) (q : IF M g) : IF M' g := by
  unfold IF at *
  rw [h 25 (by omega), h 26 (by omega), h 27 (by omega), h 45 (by omega), h 46 (by omega), h 48 (by omega)]; exact q
theorem IN_c {M M' : Mm} (h : ∀ t, (20 ≤ t ∧ t ≤ 23) ∨ (40 ≤ t ∧ t ≤ 43) → mI M' t = mI M t) (q : IN M) : IN M' := by
  unfold IN at *
  rw [h 20 (by omega), h 21 (by omega), h 22 (by omega), h 23 (by omega), h 40 (by omega), h 41 (by omega), h 42 (by omega), h 43 (by omega)]; exact q
theorem szX_d {M M' : Mm} (h23 : mI M' 23 = mI M 23) (h26 : mI M' 26 = mI M 26) (f w : Nat) : szX M' f w = szX M f w := by unfold szX; rw [h23, h26]
theorem stR_c {M M' : Mm} (h23 : mI M' 23 = mI M 23) (h25 : mI M' 25 = mI M 25) (h26 : mI M' 26 = mI M 26) (h27 : mI M' 27 = mI M 27) {g : Nat} {F0 K0 F K : Nat → Int64} {x : Int32} (q : stR M g F0 K0 F K x) : stR M' g F0 K0 F K x := by
  unfold stR at *
  rw [h27, h25]
  refine ⟨fun e => ?_, q.2⟩
  obtain ⟨a, h1, h2⟩ := q.1 e
  exact ⟨a, fun w hw => by rw [szX_d h23 h26]; exact h1 w hw, h2⟩
theorem acX_c {M M' : Mm} (h : ∀ t, t = 23 ∨ t = 26 ∨ t = 27 ∨ t = 30 ∨ t = 31 ∨ t = 32 → mI M' t = mI M t) (k f : Nat) : acX M' k f = acX M k f := by
  unfold acX szX
  rw [h 23 (by omega), h 26 (by omega), h 27 (by omega), h 30 (by omega), h 31 (by omega), h 32 (by omega)]
theorem IH_c {M M' : Mm} {bar : Nat} {fr : Nat → Nat} (h1 : mI M' 1 11 = mI M 1 11) (h : ∀ t, t = 23 ∨ (25 ≤ t ∧ t ≤ 28) ∨ (30 ≤ t ∧ t ≤ 32) ∨ t = 48 ∨ t = 49 ∨ t = 54 ∨ t = 56 → mI M' t = mI M t) (hL : ∀ c, c ≤ bar → mL M' c = mL M c) (hK : ∀ c, c ≤ bar → mK M' c = mK M c) (w0 : mW M' 0 = mW M 0) (w1 : mW M' 1 = mW M 1) (q : IH M bar fr) : IH M' bar fr := by
  obtain ⟨q1, q2, ⟨q3, q4⟩, q5, q6, q7, q8⟩ := q
  refine ⟨by rw [h1]; exact q1, fun k hk => ?_, ⟨?_, fun k hk => ?_⟩, ?_, ?_, ?_, by rw [w0, w1]; exact q8⟩
  · rw [acX_c (M := M) (fun t ht => h t (by omega))]; exact q2 k hk
  · rw [hL 0 (by omega), hK 0 (by omega)]; exact q3
  · rw [hL k (by omega), hK k (by omega), hL (k + 1) hk, hK (k + 1) hk, h 28 (by omega)]
    exact stR_c (h 23 (by omega)) (h 25 (by omega)) (h 26 (by omega)) (h 27 (by omega)) (q4 k hk)
  · rw [hL bar (Nat.le_refl _), hK bar (Nat.le_refl _), h 54 (by omega), h 56 (by omega)]; exact q5
  · rw [h 48 (by omega), h 28 (by omega), h 49 (by omega)]; exact q6
  · rw [h 28 (by omega), h 49 (by omega)]; exact q7
theorem IO_c {M M' : Mm} {cnt : Nat} {fr : Nat → Nat} (h : ∀ t, 23 ≤ t ∧ t ≤ 26 → mI M' t = mI M t) (q : IO M cnt fr) : IO M' cnt fr := by
  unfold IO sbN szX at *
  rw [h 23 (by omega), h 24 (by omega), h 25 (by omega), h 26 (by omega)]; exact q
theorem IP_c {M M' : Mm} {pc mc : Nat} (h5 : mI M' 5 = mI M 5) (h27 : mI M' 12 27 = mI M 12 27) (h31 : mI M' 12 31 = mI M 12 31) (h : ∀ t, (33 ≤ t ∧ t ≤ 38) ∨ (60 ≤ t ∧ t ≤ 65) → mI M' t = mI M t) (hL : ∀ p, p < 6 → mL M' (19 + p) = mL M (19 + p)) (q : IP M pc mc) : IP M' pc mc := by
  obtain ⟨q1, q2, q3, q4, q5, q6, q7⟩ := q
  unfold IP fitX apX mvX at *
  rw [h5, h27, h31, h 33 (by omega), h 34 (by omega), h 35 (by omega), h 36 (by omega), h 37 (by omega), h 38 (by omega), h 60 (by omega), h 61 (by omega), h 62 (by omega), h 63 (by omega), h 64 (by omega), h 65 (by omega)]
  exact ⟨q1, q2, q3, q4, fun p hp => by rw [hL p hp]; exact q5 p hp, q6, q7⟩
/-- what only calls of questions change -/
abbrev scr (t : Nat) : Prop := t = 12 ∨ t = 29 ∨ (50 ≤ t ∧ t ≤ 53) ∨ t = 55 ∨ (57 ≤ t ∧ t ≤ 59) ∨ t = 66 ∨ t = 67
def sm (M M' : Mm) : Prop := (∀ t, ¬ scr t → mI M' t = mI M t) ∧ (∀ i, i = 5 ∨ i = 6 ∨ i = 7 ∨ i = 27 ∨ i = 31 → mI M' 12 i = mI M 12 i) ∧ (∀ c, ¬ (13 ≤ c ∧ c ≤ 18) → mL M' c = mL M c) ∧ (∀ c, ¬ (13 ≤ c ∧ c ≤ 14) → mK M' c = mK M c) ∧ mW M' 0 = mW M 0 ∧ mW M' 1 = mW M 1
theorem sm_rf (M : Mm) : sm M M := ⟨fun _ _ => rfl, fun _ _ => rfl, fun _ _ => rfl, fun _ _ => rfl, rfl, rfl⟩
theorem sm_tr {A B C : Mm} (h : sm A B) (g : sm B C) : sm A C :=
  ⟨fun t ht => (g.1 t ht).trans (h.1 t ht), fun i hi => (g.2.1 i hi).trans (h.2.1 i hi), fun c hc => (g.2.2.1 c hc).trans (h.2.2.1 c hc), fun c hc => (g.2.2.2.1 c hc).trans (h.2.2.2.1 c hc), g.2.2.2.2.1.trans h.2.2.2.2.1, g.2.2.2.2.2.trans h.2.2.2.2.2⟩
theorem sm_I {M : Mm} {t : Nat} (ht : scr t) (h12 : ¬ t = 12) (f : Nat → Int32) : sm M (sI M t f) :=
  ⟨fun t' h => by rw [mI_sI, if_neg (fun e => h (by rw [e]; exact ht))], fun i _ => by rw [mI_sI, if_neg (fun e => h12 e.symm)], fun _ _ => rfl, fun _ _ => rfl, rfl, rfl⟩
theorem sm_12 {M : Mm} {f : Nat → Int32} (h : ∀ i, i = 5 ∨ i = 6 ∨ i = 7 ∨ i = 27 ∨ i = 31 → f i = mI M 12 i) : sm M (sI M 12 f) :=
  ⟨fun t' g => by rw [mI_sI, if_neg (fun e => g (Or.inl e))], fun i hi => by rw [mI_sI, if_pos rfl]; exact h i hi, fun _ _ => rfl, fun _ _ => rfl, rfl, rfl⟩
theorem sm_cd (M : Mm) (w : Int32) : sm M (cdM M w) := sm_12 fun i hi => if_neg (by omega)
theorem sm_W (M : Mm) (v : Int64) : sm M (sW M 2 v) := ⟨fun _ _ => rfl, fun _ _ => rfl, fun _ _ => rfl, fun _ _ => rfl, rfl, rfl⟩
theorem sm_D (M : Mm) (v : UInt64) : sm M (sD M v) := ⟨fun _ _ => rfl, fun _ _ => rfl, fun _ _ => rfl, fun _ _ => rfl, rfl, rfl⟩
theorem mL_sL' (M : Mm) (c : Nat) (f : Nat → Int64) (d : Nat) : mL (sL M c f) d = if d = c then f else mL M d := rfl
theorem sm_L {M : Mm} {c : Nat} (hc : 13 ≤ c ∧ c ≤ 18) (f : Nat → Int64) : sm M (sL M c f) := ⟨fun _ _ => rfl, fun _ _ => rfl, fun d hd => by rw [mL_sL', if_neg (by omega)], fun _ _ => rfl, rfl, rfl⟩
theorem INV_sm {M M' : Mm} {g cnt bar : Nat} {fr : Nat → Nat} {pc mc : Nat} (h : sm M M') (q : INV M g cnt bar fr pc mc) : INV M' g cnt bar fr pc mc := by
  obtain ⟨h1, h2, h3, h4, h5, h6⟩ := h
  obtain ⟨q1, q2, q3, q4, q5, q6, q7⟩ := q
  have hb : bar ≤ 12 := Nat.le_trans q2.2.2.1.2 q2.2.1.2
  refine ⟨IA_c (h1 2 (by decide)) (h1 24 (by decide)) q1, MV_c q2 (h2 5 (by decide)) (h2 6 (by decide)) (h2 7 (by decide)) fun t a b => h1 t (by unfold scr; omega), IF_c (fun t ht => h1 t (by unfold scr; omega)) q3, IN_c (fun t ht => h1 t (by unfold scr; omega)) q4, IH_c (by rw [h1 1 (by decide)]) (fun t ht => h1 t (by unfold scr; omega)) (fun c hc => h3 c (by omega)) (fun c hc => h4 c (by omega)) h5 h6 q5, IO_c (fun t ht => h1 t (by unfold scr; omega)) q6, IP_c (h1 5 (by decide)) (h2 27 (by decide)) (h2 31 (by decide)) (fun t ht => h1 t (by unfold scr; omega)) (fun p hp => h3 (19 + p) (by omega)) q7⟩
theorem Inv_sm {M M' : Mm} (h : sm M M') (q : Inv M) : Inv M' := by
  obtain ⟨g, cnt, bar, fr, pc, mc, q⟩ := q
  exact ⟨g, cnt, bar, fr, pc, mc, INV_sm h q⟩
/-! what follows of it -/
theorem INV_b {M : Mm} {g cnt bar : Nat} {fr : Nat → Nat} {pc mc : Nat} (q : INV M g cnt bar fr pc mc) : g ≤ 40 ∧ cnt ≤ 12 ∧ bar ≤ cnt ∧ bar ≤ 12 := ⟨q.2.1.1.2, q.2.1.2.1.2, q.2.1.2.2.1.2, Nat.le_trans q.2.1.2.2.1.2 q.2.1.2.1.2⟩
theorem INV_fr {M : Mm} {g cnt bar : Nat} {fr : Nat → Nat} {pc mc : Nat} (q : INV M g cnt bar fr pc mc) {k : Nat} (hk : k < cnt) : fr k < g ∧ fr k < 40 := by
  have := (q.2.1.2.2.2.1 k hk).2
  have := q.2.1.1.2
  omega
/-- dimensions are the same numbers -/
theorem IF_dm {M : Mm} {g cnt bar : Nat} {fr : Nat → Nat} (hv : MV M g cnt bar fr) (hn : ∀ n, n < 8 → mI M 23 n = mI M 43 n) (hf : IF M g) {f w : Nat} (h : f < g) (hw : w < 6) : szX M f w = dmX M f w := by
  have hg := hv.1.2
  have ht := hv.2.2.2.2.2.2.1 (6 * f + w) (by omega)
  unfold szX dmX
  rw [(hf.1 f h).2.2 w hw, mTm_v ht]
  unfold valX
  by_cases e : nmd (mI M 46 (6 * f + w)) = true
  · rw [if_pos e, if_pos e]
    unfold nmd at e
    have e := of_decide_eq_true e
    obtain ⟨m, h1, h2, h3⟩ := mT_n ht e.1
    rw [h3, show nI m - nI 100 = nI (m - 100) from ?_, nI_clamp (by omega)]
    · exact hn _ (by omega)
    · have : nI m = nI (m - 100) + nI 100 := by rw [nI_add, Nat.sub_add_cancel h1]
      rw [this, Int32.add_sub_cancel]
  · rw [if_neg e, if_neg e]
theorem MV_ft {M : Mm} {g cnt bar : Nat} {fr : Nat → Nat} (hv : MV M g cnt bar fr) (hf : IF M g) {f : Nat} (h : f < g) : ftK M f := ⟨(hf.1 f h).2.1, fun w hw => mTm_b hv.2.2.2.2.2.2.2.2.1 (hv.2.2.2.2.2.2.1 (6 * f + w) (by have := hv.1.2; omega))⟩
