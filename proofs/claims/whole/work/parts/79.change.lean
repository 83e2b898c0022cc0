/-! a change: what the class carries out anew is what the model does -/
theorem acX_i {M : Mm} {k f : Nat} : acX M k f = true ↔ (∀ w, w < 6 → mI M 32 (k * 6 + w) = szX M f w) ∧ mI M 30 k = nI f ∧ mI M 31 k = mI M 27 f := by
  unfold acX
  rw [Bool.and_eq_true, List.all_eq_true, decide_eq_true_iff]
  refine and_congr ⟨fun h w hw => of_decide_eq_true (h w (List.mem_range.mpr hw)), fun h w hw => decide_eq_true (h w (List.mem_range.mp hw))⟩ Iff.rfl
theorem otD_i {M : Mm} {f : Nat} {b : Bool} : ∀ d, otD M f b d = true ↔ b = true ∨ ∃ w, w < d ∧ ¬ mI M 51 (6 * f + w) = dmX M f w := by
  intro d
  induction d with
  | zero =>
    show b = true ↔ _
    exact ⟨Or.inl, fun h => h.elim id fun ⟨w, hw, _⟩ => absurd hw (by omega)⟩
  | succ d ih =>
    show (otD M f b d || decide (¬ mI M 51 (6 * f + d) = dmX M f d)) = true ↔ _
    rw [Bool.or_eq_true, ih, decide_eq_true_iff]
    constructor
    · rintro ((h | ⟨w, hw, h⟩) | h)
      · exact Or.inl h
      · exact Or.inr ⟨w, by omega, h⟩
      · exact Or.inr ⟨d, by omega, h⟩
    · rintro (h | ⟨w, hw, h⟩)
      · exact Or.inl (Or.inl h)
      · by_cases e : w = d
        · subst e; exact Or.inr h
        · exact Or.inl (Or.inr ⟨w, by omega, h⟩)
theorem otX_i {M : Mm} {om ob k f : Nat} : otX M om ob k f = true ↔ (om ≤ k ∨ ¬ mI M 50 k = nI f ∨ ¬ mI M 52 f = mI M 48 f ∨ ob ≤ k) ∨ ∃ w, w < 6 ∧ ¬ mI M 51 (6 * f + w) = dmX M f w := by
  unfold otX otC
  rw [otD_i, decide_eq_true_iff]
/-- what a call of the class may change before it carries out -/
def EC (M Me : Mm) : Prop := (∀ t, t = 1 ∨ t = 5 ∨ (28 ≤ t ∧ t ≤ 38) ∨ 40 ≤ t ∨ t = 12 → mI Me t = mI M t) ∧ Me.2 = M.2
theorem wk_eq {M M2 : Mm} {fr : Nat → Nat} {lo : Nat} : ∀ p, (∀ k, k < p → (mI M 27 (fr k) = 0 ↔ mI M2 48 (fr k) = 0)) → wkX M fr lo p = wkM M2 fr lo p := by
  intro p
  induction p with
  | zero => intro _; rfl
  | succ p ih =>
    intro h
    show (if lo ≤ p ∧ mI M 27 (fr p) = 0 then wkX M fr lo p + 1 else wkX M fr lo p) = if lo ≤ p ∧ mI M2 48 (fr p) = 0 then wkM M2 fr lo p + 1 else wkM M2 fr lo p
    rw [ih (fun k hk => h k (by omega))]
    by_cases e : lo ≤ p ∧ mI M 27 (fr p) = 0
    · rw [if_pos e, if_pos ⟨e.1, (h p (by omega)).mp e.2⟩]
    · rw [if_neg e, if_neg fun q => e ⟨q.1, (h p (by omega)).mpr q.2⟩]
theorem wk_0 {M : Mm} {fr : Nat → Nat} {lo : Nat} : ∀ p, p ≤ lo → wkX M fr lo p = 0 := by
  intro p
  induction p with
  | zero => intro _; rfl
  | succ p ih =>
    intro h
    show (if lo ≤ p ∧ mI M 27 (fr p) = 0 then wkX M fr lo p + 1 else wkX M fr lo p) = 0
    rw [if_neg (by omega), ih (by omega)]
/-- class and model take up the same place -/
theorem lo_eq {M Me M2 : Mm} {cnt bar bar2 lo : Nat} {fr2 : Nat → Nat} {x : Int32} (hbar : bar ≤ cnt) (hb2 : bar2 ≤ 12) (hoth : ∀ k, k < bar → k < bar2 → (acX Me k (fr2 k) = true ↔ otX M2 cnt bar k (fr2 k) = false)) (h1 : lo ≤ bar2) (h2 : lo ≤ bar) (h3 : ∀ k, k < lo → acX Me k (fr2 k) = true) (h4 : lo < bar2 → lo < bar → acX Me lo (fr2 lo) = false) (hx : loX M2 cnt bar bar2 fr2 0 x) : (x = -1 ∧ lo = bar2) ∨ (x = nI lo ∧ lo < bar2) := by
  have hlow : ∀ k, k < lo → otX M2 cnt bar k (fr2 k) = false := fun k hk => (hoth k (by omega) (by omega)).mp (h3 k hk)
  have hat : lo < bar2 → otX M2 cnt bar lo (fr2 lo) = true := fun h => by
    by_cases e : lo < bar
    · cases g : otX M2 cnt bar lo (fr2 lo) with
      | true => rfl
      | false =>
        have := (hoth lo e h).mpr g
        rw [h4 h e] at this; exact absurd this (by decide)
    · exact otX_i.mpr (Or.inl (Or.inr (Or.inr (Or.inr (by omega)))))
  rcases hx with ⟨hx, h⟩ | ⟨q, hx, -, h5, h6, h7⟩
  · refine Or.inl ⟨hx, ?_⟩
    refine Nat.le_antisymm h1 (Nat.le_of_not_lt fun g => ?_)
    have := hat g
    rw [h lo (by omega) g] at this; exact absurd this (by decide)
  · refine Or.inr ?_
    have e : q = lo := by
      rcases Nat.lt_trichotomy q lo with g | g | g
      · have := hlow q g; rw [h6] at this; exact absurd this (by decide)
      · exact g
      · have := hat (by omega); rw [h7 lo (by omega) g] at this; exact absurd this (by decide)
    rw [← e]; exact ⟨hx, h5⟩
set_option maxHeartbeats 1000000 in
theorem change {M Me M1 M1' M2 M3 : Mm} {S : Nat → Prop} {g cnt bar : Nat} {fr : Nat → Nat} {pc mc g2 cnt2 bar2 : Nat} {fr2 : Nat → Nat} {wv : Int64} (hI : INV M g cnt bar fr pc mc) (hE : EC M Me) (hkd : ∀ f, f < g → mI Me 25 f = mI M 25 f) (hcoc : cocP Me bar2 bar fr2 M1) (h1' : M1' = sW M1 2 wv) (hrm : rmP M1' M2 S) (hS : ∀ t, S t → 40 ≤ t ∧ t ≤ 48) (hco : coM M2 cnt bar bar2 fr2 M3)
    (hIA : IA Me g2 cnt2 bar2 fr2) (hMV : MV M2 g2 cnt2 bar2 fr2) (hIF : IF M2 g2) (hIN : IN M2) (hIO : sbN Me cnt2 fr2 = true) : Inv M3 := by
  obtain ⟨q1, q2, q3, q4, q5, q6, q7⟩ := hI
  obtain ⟨lo, Mp, k1, k2, k3, k4, hLI, rfl⟩ := hcoc
  obtain ⟨l1, l2, l3, l4, l5, l6, l7, l8, l9, -⟩ := hLI
  obtain ⟨x, wm, M0, c1, c2, c3, ⟨P, c4, c5, c6⟩, c7, c8⟩ := hco
  obtain ⟨r1, r2, r3, r4, r5, r6⟩ := hrm
  have hcnt12 := q2.2.1.2
  have hbc := q2.2.2.1.2
  have hg := q2.1.2
  have hcnt2 := hMV.2.1.2
  have hb2c := hMV.2.2.1.2
  have hg2 := hMV.1.2
  have hb12 : bar2 ≤ 12 := Nat.le_trans hb2c hcnt2
  have hfr2 : ∀ k, k < bar2 → fr2 k < g2 := fun k hk => (hMV.2.2.2.1 k (by omega)).2
  have hfr : ∀ k, k < bar → fr k < g := fun k hk => (q2.2.2.2.1 k (by omega)).2
  have hij : ∀ i j, i < bar2 → j < bar2 → fr2 i = fr2 j → i = j := fun i j hi hj e => hMV.2.2.2.2.1 i j (by omega) (by omega) e
  -- what M2 holds of the class, and what M3 holds
  have e2 : ∀ t, ¬ (t = 1 ∨ t = 12 ∨ (28 ≤ t ∧ t ≤ 32) ∨ t = 50 ∨ t = 51 ∨ t = 52 ∨ (40 ≤ t ∧ t ≤ 48)) → mI M2 t = mI Me t := fun t ht => by
    rw [r2 t (by omega) (fun z => by have := hS t z; omega), h1']
    show mI (sI Mp 1 _) t = _
    rw [mI_sI, if_neg (by omega), l1 t (by omega)]
  have e3 : ∀ t, ¬ (t = 49 ∨ (54 ≤ t ∧ t ≤ 57) ∨ t = 67) → mI M3 t = mI M2 t := fun t ht => by
    rw [c7.2 t (by omega), c3.2.1 t (by omega)]
  have e3p : ∀ t, ¬ t = 1 → t < 40 → ¬ t = 12 → mI M3 t = mI Mp t := fun t h1 h2 h3 => by
    rw [e3 t (by omega), r2 t (by omega) (fun z => by have := hS t z; omega), h1']
    show mI (sI Mp 1 _) t = _
    rw [mI_sI, if_neg h1]
  have e3m : ∀ t, 49 ≤ t → ¬ (t = 49 ∨ (50 ≤ t ∧ t ≤ 52) ∨ (54 ≤ t ∧ t ≤ 57) ∨ t = 67) → mI M3 t = mI M t := fun t h1 h2 => by
    rw [e3 t (by omega), r2 t (by omega) (fun z => by have := hS t z; omega), h1']
    show mI (sI Mp 1 _) t = _
    rw [mI_sI, if_neg (by omega), l1 t (by omega), hE.1 t (by omega)]
  have eL : M3.2.1 = Mp.2.1 ∧ M3.2.2.1 = Mp.2.2.1 := by
    have a : M3.2 = (sW M2 1 wm).2 := c7.1.trans c3.1
    constructor
    · rw [a]; show M2.2.1 = _; rw [r1, h1']; rfl
    · rw [a]; show M2.2.2.1 = _; rw [r1, h1']; rfl
  have eL1 : ∀ c, mL M3 c = mL Mp c := fun c => congrFun eL.1 c
  have eK1 : ∀ c, mK M3 c = mK Mp c := fun c => congrFun eL.2 c
  have eML : ∀ c, mL Me c = mL M c := fun c => by show Me.2.1 c = M.2.1 c; rw [hE.2]
  have eMK : ∀ c, mK Me c = mK M c := fun c => by show Me.2.2.1 c = M.2.2.1 c; rw [hE.2]
  -- dimensions and offs
  have hd1 : ∀ f, f < g → ∀ w, w < 6 → szX M f w = dmX M f w := fun f hf w hw => IF_dm q2 (fun n hn => (q4.1 n hn).2.2.2) q3 hf hw
  have hd2 : ∀ f, f < g2 → ∀ w, w < 6 → szX Me f w = dmX M2 f w := fun f hf w hw => by
    rw [← IF_dm hMV (fun n hn => (hIN.1 n hn).2.2.2) hIF hf hw]
    exact (szX_d (e2 23 (by omega)) (e2 26 (by omega)) f w).symm
  have ho2 : ∀ f, f < 40 → mI Me 27 f = mI M2 48 f := fun f hf => by rw [← e2 27 (by omega)]; exact hIF.2.1 f hf
  have eM1 : ∀ t, ¬ t = 1 → mI M1' t = mI Mp t := fun t ht => by
    rw [h1']
    show mI (sI Mp 1 (upd (mI Mp 1) 11 (nI bar2))) t = _
    rw [mI_sI, if_neg ht]
  have eMo : ∀ t, 40 ≤ t ∨ t = 12 → mI M1' t = mI M t := fun t ht => by rw [eM1 t (by omega), l1 t (by omega), hE.1 t (by omega)]
  have r4' : ∀ k, k < 13 → mI M2 50 k = mI M 44 k := fun k hk => by rw [r4 k hk, eMo 44 (by omega)]
  have r5' : ∀ f w, f < 40 → w < 6 → mI M2 51 (6 * f + w) = dmX M f w := fun f w hf hw => by rw [r5 _ (by omega), eMo 43 (by omega), eMo 46 (by omega)]; rfl
  have r6' : ∀ f, f < 40 → mI M2 52 f = mI M 48 f := fun f hf => by rw [r6 f hf, eMo 48 (by omega)]
  have hoth : ∀ k, k < bar → k < bar2 → (acX Me k (fr2 k) = true ↔ otX M2 cnt bar k (fr2 k) = false) := fun k hk hk2 => by
    have hac := acX_i.mp (q5.2.1 k hk)
    have hfk := hfr k hk
    have hfk2 := hfr2 k hk2
    rw [acX_i, hE.1 32 (by omega), hE.1 30 (by omega), hE.1 31 (by omega), hac.2.1, hac.2.2, Bool.eq_false_iff, Ne, otX_i, r4' k (by omega), (q2.2.2.2.1 k (by omega)).1, r6' _ (by omega)]
    have hrow : ∀ w, w < 6 → mI M 32 (k * 6 + w) = dmX M (fr k) w := fun w hw => by rw [hac.1 w hw, hd1 _ hfk w hw]
    constructor
    · rintro ⟨a1, a2, a3⟩ z
      have e : fr k = fr2 k := (nI_eq (by omega) (by omega)).mp a2
      rcases z with (z | z | z | z) | ⟨w, hw, z⟩
      · omega
      · exact z a2
      · apply z
        rw [← ho2 _ (by omega), ← a3, ← e, q3.2.1 _ (by omega)]
      · omega
      · apply z
        rw [r5' _ _ (by omega) hw, ← hd2 _ hfk2 w hw, ← a1 w hw, hrow w hw, e]
    · intro z
      have a2 : nI (fr k) = nI (fr2 k) := Classical.byContradiction fun h => z (Or.inl (Or.inr (Or.inl h)))
      have e : fr k = fr2 k := (nI_eq (by omega) (by omega)).mp a2
      refine ⟨fun w hw => ?_, a2, ?_⟩
      · have : mI M2 51 (6 * fr2 k + w) = dmX M2 (fr2 k) w := Classical.byContradiction fun h => z (Or.inr ⟨w, hw, h⟩)
        rw [r5' _ _ (by omega) hw] at this
        rw [hrow w hw, hd2 _ hfk2 w hw, ← this, e]
      · have : mI M 48 (fr2 k) = mI M2 48 (fr2 k) := Classical.byContradiction fun h => z (Or.inl (Or.inr (Or.inr (Or.inl h))))
        rw [ho2 _ (by omega), ← this, e, q3.2.1 _ (by omega)]
  have hlo := lo_eq (M := M) hbc hb12 hoth k1 k2 k3 k4 c1
  -- the stages
  have eAc : ∀ k f, acX M3 k f = acX Mp k f := fun k f => acX_c (fun t ht => e3p t (by omega) (by omega) (by omega)) k f
  have hold : ∀ k, k < lo → fr k = fr2 k ∧ stR Me (fr2 k) (mL M k) (mK M k) (mL M (k + 1)) (mK M (k + 1)) (mI M 28 (fr2 k)) := fun k hk => by
    have a := acX_i.mp (k3 k hk)
    have b := acX_i.mp (q5.2.1 k (by omega))
    rw [hE.1 32 (by omega), hE.1 30 (by omega), hE.1 31 (by omega)] at a
    have hfk := hfr k (by omega)
    have hfk2 := hfr2 k (by omega)
    have e : fr k = fr2 k := (nI_eq (by omega) (by omega)).mp (b.2.1.symm.trans a.2.1)
    refine ⟨e, ?_⟩
    have s := q5.2.2.1.2 k (by omega)
    rw [e] at s b hfk
    unfold stR at *
    rw [← a.2.2, b.2.2, hkd _ hfk]
    refine ⟨fun z => ?_, s.2⟩
    obtain ⟨v, v1, v2⟩ := s.1 z
    exact ⟨v, fun w hw => by rw [← a.1 w hw, b.1 w hw]; exact v1 w hw, v2⟩
  have hst : ∀ k, k < bar2 → stR Me (fr2 k) (mL Mp k) (mK Mp k) (mL Mp (k + 1)) (mK Mp (k + 1)) (mI Mp 28 (fr2 k)) := fun k hk => by
    by_cases h : lo ≤ k
    · exact l6 k h hk
    · have s := (hold k (by omega)).2
      rw [l4 k (by omega) (by omega), l4 (k + 1) (by omega) (by omega), l5 k (by omega), l5 (k + 1) (by omega), eML, eML, eMK, eMK, l7 (fr2 k) (fun j hj1 hj2 _ z => by have := hij j k hj2 hk z; omega), hE.1 28 (by omega)]
      exact s
  have hS0 : (∀ z, z < 8 → mL Mp 0 z = 0) ∧ ∀ i, i < 288 → mK Mp 0 i = 0 := by
    rw [l4 0 (by omega) (by omega), l5 0 (by omega), eML, eMK]; exact q5.2.2.1.1
  have hch0 : ∀ f, f < 40 → fch (mI M0 49 f) := fun f hf => by
    rw [c3.2.1 49 (by decide), r2 49 (by decide) (fun z => by have := hS 49 z; omega), eMo 49 (by omega)]
    exact (q5.2.2.2.2.2.1 f hf).2
  have hft2 : ∀ k, k < bar2 → ftK M2 (fr2 k) := fun k hk => MV_ft hMV hIF (hfr2 k hk)
  have e0 : ∀ t, ¬ (t = 54 ∨ t = 56) → mI M0 t = mI M2 t := c3.2.1
  have ed0 : ∀ f, dmX M0 f = dmX M2 f := fun f => dm_same (e0 43 (by decide)) (e0 46 (by decide)) f
  obtain ⟨z1, z2, z3, z4⟩ := chain_eq (M0 := M0) (Mc := Me) (P := P) (F := fun k => mL Mp k) (K := fun k => mK Mp k) (fl := fun k => mI Mp 28 (fr2 k)) (n := bar2) (fr := fr2) (RB_0 hS0.1 c3.2.2.1 c3.2.2.2) c4 c6 hst (fun k hk => by
    have h1 := hfr2 k hk
    refine ⟨by omega, by rw [e0 48 (by decide)]; exact ho2 _ (by omega), ?_, fun w hw => by rw [ed0]; exact hd2 _ h1 w hw, by rw [ftK, e0 45 (by decide), ed0]; exact hft2 k hk⟩
    rw [e0 45 (by decide), ← e2 25 (by omega)]
    exact (hIF.1 _ h1).1) hij hch0 bar2 (Nat.le_refl _)
  rw [c5] at z1 z2 z4
  -- together
  refine ⟨g2, cnt2, bar2, fr2, pc, mc, ?_, ?_, ?_, ?_, ⟨?_, fun k hk => ?_, ⟨?_, fun k hk => ?_⟩, ?_, fun k hk he => ?_, fun f hf => ⟨?_, z4 f hf⟩, ?_⟩, ?_, ?_⟩
  · exact IA_c (M := Me) (by rw [e3 2 (by decide), e2 2 (by omega)]) (by rw [e3 24 (by decide), e2 24 (by omega)]) hIA
  · exact MV_c hMV (by rw [e3 12 (by decide)]) (by rw [e3 12 (by decide)]) (by rw [e3 12 (by decide)]) fun t a b => e3 t (by omega)
  · exact IF_c (fun t ht => e3 t (by omega)) hIF
  · exact IN_c (fun t ht => e3 t (by omega)) hIN
  · rw [e3 1 (by decide), r2 1 (by decide) (fun z => by have := hS 1 z; omega), h1']
    show mI (sI Mp 1 _) 1 11 = _
    rw [mI_sI, if_pos rfl]; rfl
  · rw [eAc]
    by_cases h : lo ≤ k
    · exact l2 k h hk
    · have a := k3 k (by omega)
      have b := l3 k (by omega) (by omega)
      rw [acX_i] at a ⊢
      rw [b.1, b.2.1]
      refine ⟨fun w hw => ?_, a.2.1, ?_⟩
      · rw [b.2.2 w hw, szX_d (M := Me) (l1 23 (by omega)) (l1 26 (by omega))]; exact a.1 w hw
      · rw [l1 27 (by omega)]; exact a.2.2
  · rw [eL1, eK1]; exact hS0
  · rw [eL1, eK1, eL1, eK1, e3p 28 (by decide) (by decide) (by decide)]
    exact stR_c (M := Me) (by rw [e3p 23 (by decide) (by decide) (by decide), l1 23 (by omega)]) (by rw [e3p 25 (by decide) (by decide) (by decide), l1 25 (by omega)]) (by rw [e3p 26 (by decide) (by decide) (by decide), l1 26 (by omega)]) (by rw [e3p 27 (by decide) (by decide) (by decide), l1 27 (by omega)]) (hst k hk)
  · rw [eL1, eK1]; exact z1
  · rw [e3p 28 (by decide) (by decide) (by decide)]
    exact (z2 k hk (by rw [e0 48 (by decide), ← e3 48 (by decide)]; exact he)).symm
  · rw [e3p 28 (by decide) (by decide) (by decide)]
    by_cases h : ∃ k, lo ≤ k ∧ k < bar2 ∧ mI Me 27 (fr2 k) = 0 ∧ fr2 k = f
    · obtain ⟨k, h1, h2, h3, h4⟩ := h
      obtain ⟨a, -, -, h5⟩ := (hst k h2).1 h3
      rw [← h4, h5]; exact ftX_ch _ _ _ _
    · rw [l7 f (fun k h1 h2 h3 h4 => h ⟨k, h1, h2, h3, h4⟩), hE.1 28 (by omega)]
      exact (q5.2.2.2.2.2.1 f hf).1
  · have a0 : mW M3 0 = mW M 0 + wkX Me fr2 lo bar2 := by
      have : M3.2 = (sW M2 1 wm).2 := c7.1.trans c3.1
      show M3.2.2.2.1 0 = _
      rw [this]
      show M2.2.2.2.1 0 = _
      rw [r1, h1']
      show mW Mp 0 = _
      rw [l8]
      show Me.2.2.2.1 0 + _ = _
      rw [hE.2]
    have a1 : mW M3 1 = wm := by
      have : M3.2 = (sW M2 1 wm).2 := c7.1.trans c3.1
      show M3.2.2.2.1 1 = _
      rw [this]; rfl
    have a2 : mW M2 1 = mW M 1 := by
      show M2.2.2.2.1 1 = _
      rw [r1, h1']
      show mW Mp 1 = _
      rw [l9 1 (by decide)]
      show Me.2.2.2.1 1 = _
      rw [hE.2]
    rw [a0, a1, q5.2.2.2.2.2.2, ← a2]
    have hw := wk_eq (M := Me) (M2 := M2) (fr := fr2) (lo := lo) bar2 (fun k hk => by rw [ho2 _ (by have := hfr2 k hk; omega)])
    rcases hlo with ⟨h1, h2⟩ | ⟨h1, h2⟩
    · rcases c2 with ⟨-, h3⟩ | ⟨q, h5, h3, -⟩
      · rw [h3, wk_0 bar2 (by omega), Int64.add_zero]
      · rw [h1] at h3; exact absurd h3.symm (nI_nm1 (by omega))
    · rcases c2 with ⟨h3, -⟩ | ⟨q, h5, h3, h4⟩
      · rw [h1] at h3; exact absurd h3 (nI_nm1 (by omega))
      · rw [h1] at h3
        rw [h4, hw, (nI_eq (by omega) (by omega)).mp h3]
  · exact IO_c (M := Me) (fun t ht => by rw [e3 t (by omega), e2 t (by omega)]) hIO
  · refine IP_c (M := M) ?_ ?_ ?_ (fun t ht => ?_) (fun p hp => ?_) q7
    · rw [e3 5 (by decide), e2 5 (by omega), hE.1 5 (by omega)]
    · rw [e3 12 (by decide), r3.2.2.2.1, eMo 12 (by omega)]
    · rw [e3 12 (by decide), r3.2.2.2.2, eMo 12 (by omega)]
    · rcases ht with ht | ht
      · rw [e3 t (by omega), e2 t (by omega), hE.1 t (by omega)]
      · exact e3m t (by omega) (by omega)
    · rw [eL1, l4 (19 + p) (by omega) (by omega), eML]
