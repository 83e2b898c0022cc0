/-! History: what changed is carried out -/
def wkX (M : Mm) (fr : Nat → Nat) (lo : Nat) : Nat → Int64
  | 0 => 0
  | p + 1 => if lo ≤ p ∧ mI M 27 (fr p) = 0 then wkX M fr lo p + 1 else wkX M fr lo p
theorem wkX_lo {M : Mm} {fr : Nat → Nat} {lo : Nat} : ∀ p, p ≤ lo → wkX M fr lo p = 0 := by
  intro p
  induction p with
  | zero => intro _; rfl
  | succ p ih => intro h; rw [wkX, if_neg (fun q => absurd q.1 (by omega))]; exact ih (by omega)
def LI (M Mp : Mm) (fr : Nat → Nat) (lo p : Nat) : Prop :=
  (∀ t, ¬ (28 ≤ t ∧ t ≤ 32) → mI Mp t = mI M t) ∧
  (∀ k, lo ≤ k → k < p → acX Mp k (fr k) = true) ∧
  (∀ k, k < 12 → ¬ (lo ≤ k ∧ k < p) → mI Mp 30 k = mI M 30 k ∧ mI Mp 31 k = mI M 31 k ∧ ∀ w, w < 6 → mI Mp 32 (k * 6 + w) = mI M 32 (k * 6 + w)) ∧
  (∀ c, ¬ (15 ≤ c ∧ c ≤ 18) → ¬ (lo < c ∧ c ≤ p) → mL Mp c = mL M c) ∧
  (∀ c, ¬ (lo < c ∧ c ≤ p) → mK Mp c = mK M c) ∧
  (∀ k, lo ≤ k → k < p → stR M (fr k) (mL Mp k) (mK Mp k) (mL Mp (k + 1)) (mK Mp (k + 1)) (mI Mp 28 (fr k))) ∧
  (∀ g, (∀ k, lo ≤ k → k < p → mI M 27 (fr k) = 0 → ¬ fr k = g) → mI Mp 28 g = mI M 28 g) ∧
  mW Mp 0 = mW M 0 + wkX M fr lo p ∧
  (∀ t, ¬ t = 0 → mW Mp t = mW M t) ∧ mD Mp = mD M
theorem LI_0 (M : Mm) (fr : Nat → Nat) (lo : Nat) : LI M M fr lo lo :=
  ⟨fun _ _ => rfl, fun k h1 h2 => absurd h1 (by omega), fun _ _ _ => ⟨rfl, rfl, fun _ _ => rfl⟩, fun _ _ _ => rfl, fun _ _ => rfl, fun k h1 h2 => absurd h1 (by omega), fun _ _ => rfl, by rw [wkX_lo lo (Nat.le_refl lo)]; exact (Int64.add_zero _).symm, fun _ _ => rfl, rfl⟩
/-- the memory after the sizes are read and remembered -/
abbrev maM (Mp : Mm) (p f : Nat) : Mm := rmM (rsM Mp f) p f
theorem ma_t {Mp : Mm} {p f t : Nat} (h : ¬ (29 ≤ t ∧ t ≤ 32)) : mI (maM Mp p f) t = mI Mp t := by
  unfold maM rmM rsM
  rw [mI_sI, if_neg (by omega), mI_sI, if_neg (by omega), mI_sI, if_neg (by omega), mI_sI, if_neg (by omega)]
theorem ma_30 {Mp : Mm} {p f : Nat} : mI (maM Mp p f) 30 = upd (mI Mp 30) p (nI f) := rfl
theorem ma_31 {Mp : Mm} {p f : Nat} : mI (maM Mp p f) 31 = upd (mI Mp 31) p (mI Mp 27 f) := rfl
theorem ma_32 {Mp : Mm} {p f : Nat} : mI (maM Mp p f) 32 = va_cpy (mI (rsM Mp f) 29) (mI Mp 32) 0 (p * 6) 6 := rfl
theorem ma_29 {Mp : Mm} {p f w : Nat} (hw : w < 6) : mI (maM Mp p f) 29 w = szX Mp f w := if_pos hw
theorem ma_ac (Mp : Mm) (p f : Nat) : acX (maM Mp p f) p f = true := by
  refine acX_iff.mpr ⟨fun w hw => ?_, ?_, ?_⟩
  · rw [szX_c (ma_t (by decide)) (ma_t (by decide)), ma_32]
    have e : va_cpy (mI (rsM Mp f) 29) (mI Mp 32) 0 (p * 6) 6 (p * 6 + w) = mI (rsM Mp f) 29 w := by
      unfold va_cpy
      rw [if_pos (by omega), show 0 + (p * 6 + w - p * 6) = w by omega]
    rw [e]
    exact if_pos hw
  · rw [ma_30]; exact if_pos rfl
  · rw [ma_31, ma_t (by decide)]; exact if_pos rfl
theorem ma_k {Mp : Mm} {p f k : Nat} (h : ¬ k = p) : mI (maM Mp p f) 30 k = mI Mp 30 k ∧ mI (maM Mp p f) 31 k = mI Mp 31 k ∧ ∀ w, w < 6 → mI (maM Mp p f) 32 (k * 6 + w) = mI Mp 32 (k * 6 + w) := by
  refine ⟨?_, ?_, fun w hw => ?_⟩
  · rw [ma_30]; exact if_neg h
  · rw [ma_31]; exact if_neg h
  · rw [ma_32]; unfold va_cpy; exact if_neg (by omega)
/-- carried as now: the same in two memories that hold the same -/
theorem ac_c {M M1 : Mm} {k f : Nat} (h : mI M1 30 k = mI M 30 k ∧ mI M1 31 k = mI M 31 k ∧ ∀ w, w < 6 → mI M1 32 (k * 6 + w) = mI M 32 (k * 6 + w)) (h23 : mI M1 23 = mI M 23) (h26 : mI M1 26 = mI M 26) (h27 : mI M1 27 = mI M 27) (ha : acX M k f = true) : acX M1 k f = true := by
  obtain ⟨a1, a2, a3⟩ := acX_iff.mp ha
  refine acX_iff.mpr ⟨fun w hw => ?_, ?_, ?_⟩
  · rw [h.2.2 w hw, szX_c h23 h26]; exact a1 w hw
  · rw [h.1]; exact a2
  · rw [h.2.1, h27]; exact a3
theorem st_fr {M : Mm} {g : Nat} {F0 K0 F K G0 H0 G H : Nat → Int64} {x y : Int32} (e1 : G0 = F0) (e2 : H0 = K0) (e3 : G = F) (e4 : H = K) (e5 : y = x) (h : stR M g F0 K0 F K x) : stR M g G0 H0 G H y := by
  subst e1; subst e2; subst e3; subst e4; subst e5
  exact h
/-- a place put off -/
theorem LI_off {M Mp : Mm} {fr : Nat → Nat} {lo p : Nat} (hp : lo ≤ p) (hp12 : p < 12) (h : LI M Mp fr lo p) (hoff : ¬ mI Mp 27 (fr p) = 0) : LI M (sK (sL (maM Mp p (fr p)) (p + 1) (mL Mp p)) (p + 1) (mK Mp p)) fr lo (p + 1) := by
  obtain ⟨g1, g2, g3, g4, g5, g6, g7, g8, g9, g10⟩ := h
  have hI : ∀ t, mI (sK (sL (maM Mp p (fr p)) (p + 1) (mL Mp p)) (p + 1) (mK Mp p)) t = mI (maM Mp p (fr p)) t := fun _ => rfl
  have e23 : mI (maM Mp p (fr p)) 23 = mI Mp 23 := ma_t (by decide)
  have hoff' : ¬ mI M 27 (fr p) = 0 := by rw [← g1 27 (by decide)]; exact hoff
  refine ⟨fun t ht => ?_, fun k h1 h2 => ?_, fun k hk h1 => ?_, fun c h1 h2 => ?_, fun c h1 => ?_, fun k h1 h2 => ?_, fun g hg => ?_, ?_, fun t ht => g9 t ht, g10⟩
  · rw [hI, ma_t (by omega)]; exact g1 t ht
  · have hx : acX (maM Mp p (fr p)) k (fr k) = true := by
      by_cases e : k = p
      · subst e; exact ma_ac Mp k (fr k)
      · exact ac_c (M := Mp) (ma_k e) (ma_t (by decide)) (ma_t (by decide)) (ma_t (by decide)) (g2 k h1 (by omega))
    exact ac_c (M := maM Mp p (fr p)) ⟨rfl, rfl, fun _ _ => rfl⟩ rfl rfl rfl hx
  · have e : ¬ k = p := by omega
    have a := ma_k (Mp := Mp) (f := fr p) e
    have b := g3 k hk (by omega)
    exact ⟨a.1.trans b.1, a.2.1.trans b.2.1, fun w hw => (a.2.2 w hw).trans (b.2.2 w hw)⟩
  · rw [mL_sK, mL_sL, if_neg (by omega)]; exact g4 c h1 (by omega)
  · rw [mK_sK, if_neg (by omega)]; exact g5 c (by omega)
  · have f28 : mI (sK (sL (maM Mp p (fr p)) (p + 1) (mL Mp p)) (p + 1) (mK Mp p)) 28 = mI Mp 28 := (hI 28).trans (ma_t (by decide))
    have kL : ∀ c, ¬ c = p + 1 → mL (sK (sL (maM Mp p (fr p)) (p + 1) (mL Mp p)) (p + 1) (mK Mp p)) c = mL Mp c := fun c hc => by rw [mL_sK, mL_sL, if_neg hc]; rfl
    have kK : ∀ c, ¬ c = p + 1 → mK (sK (sL (maM Mp p (fr p)) (p + 1) (mL Mp p)) (p + 1) (mK Mp p)) c = mK Mp c := fun c hc => by rw [mK_sK, if_neg hc]; rfl
    by_cases e : k = p
    · subst e
      refine ⟨fun q => absurd q hoff', fun _ => ⟨?_, ?_⟩⟩
      · rw [kL k (by omega), mL_sK, mL_sL, if_pos rfl]
      · rw [kK k (by omega), mK_sK, if_pos rfl]
    · exact st_fr (kL k (by omega)) (kK k (by omega)) (kL (k + 1) (by omega)) (kK (k + 1) (by omega)) (congrFun f28 _) (g6 k h1 (by omega))
  · exact ((congrFun ((hI 28).trans (ma_t (by decide))) g).trans (g7 g (fun k h1 h2 h3 => hg k h1 (by omega) h3)))
  · rw [show wkX M fr lo (p + 1) = wkX M fr lo p from if_neg (fun q => hoff' q.2)]
    exact g8
/-- a place carried out -/
theorem LI_on {M Mp M9 : Mm} {fr : Nat → Nat} {lo p cnt : Nat} {ft : Int32} (hp : lo ≤ p) (hp12 : p < 12) (hpc : p < cnt) (hinj : ∀ i j, i < cnt → j < cnt → fr i = fr j → i = j) (h : LI M Mp fr lo p) (hon : mI Mp 27 (fr p) = 0)
  (hft : ft = ftX (mI Mp 25 (fr p)) (mI (maM Mp p (fr p)) 29) (mL Mp p) (mK Mp p)) (hco : coP (maM Mp p (fr p)) (p + 1) p (fr p) (mI Mp 25 (fr p)) M9) : LI M (sW (sI M9 28 (upd (mI M9 28) (fr p) ft)) 0 (mW M9 0 + 1)) fr lo (p + 1) := by
  obtain ⟨g1, g2, g3, g4, g5, g6, g7, g8, g9, g10⟩ := h
  have hR := coP_R hco
  obtain ⟨c1, c2, c3, c4, _, _⟩ := hco
  have hI : ∀ t, ¬ t = 28 → mI (sW (sI M9 28 (upd (mI M9 28) (fr p) ft)) 0 (mW M9 0 + 1)) t = mI (maM Mp p (fr p)) t := fun t ht => (show mI (sW (sI M9 28 (upd (mI M9 28) (fr p) ft)) 0 (mW M9 0 + 1)) t = mI M9 t from if_neg ht).trans (congrFun c1 t)
  have h28 : mI M9 28 = mI Mp 28 := (congrFun c1 28).trans (ma_t (by decide))
  have hon' : mI M 27 (fr p) = 0 := by rw [← g1 27 (by decide)]; exact hon
  have hW : ∀ t, mW M9 t = mW Mp t := fun t => congrFun (congrArg Prod.fst c2) t
  have kL : ∀ c, ¬ (15 ≤ c ∧ c ≤ 18) → ¬ c = p + 1 → mL M9 c = mL Mp c := fun c h1 h2 => (c3 c h1 h2)
  have kK : ∀ c, ¬ c = p + 1 → mK M9 c = mK Mp c := fun c h2 => (c4 c h2)
  refine ⟨fun t ht => ?_, fun k h1 h2 => ?_, fun k hk h1 => ?_, fun c h1 h2 => ?_, fun c h1 => ?_, fun k h1 h2 => ?_, fun g hg => ?_, ?_, fun t ht => ?_, ?_⟩
  · rw [hI t (by omega), ma_t (by omega)]; exact g1 t ht
  · have h23 := hI 23 (by decide)
    have h26 := hI 26 (by decide)
    have h27 := hI 27 (by decide)
    have hx : acX (maM Mp p (fr p)) k (fr k) = true := by
      by_cases e : k = p
      · subst e; exact ma_ac Mp k (fr k)
      · exact ac_c (M := Mp) (ma_k e) (ma_t (by decide)) (ma_t (by decide)) (ma_t (by decide)) (g2 k h1 (by omega))
    exact ac_c (M := maM Mp p (fr p)) ⟨congrFun (hI 30 (by decide)) k, congrFun (hI 31 (by decide)) k, fun w _ => congrFun (hI 32 (by decide)) _⟩ h23 h26 h27 hx
  · have e : ¬ k = p := by omega
    have a := ma_k (Mp := Mp) (f := fr p) e
    have b := g3 k hk (by omega)
    exact ⟨(congrFun (hI 30 (by decide)) k).trans (a.1.trans b.1), (congrFun (hI 31 (by decide)) k).trans (a.2.1.trans b.2.1), fun w hw => (congrFun (hI 32 (by decide)) _).trans ((a.2.2 w hw).trans (b.2.2 w hw))⟩
  · exact (kL c h1 (by omega)).trans (g4 c h1 (by omega))
  · exact (kK c (by omega)).trans (g5 c (by omega))
  · by_cases e : k = p
    · subst e
      refine ⟨fun _ => ⟨mI (maM Mp k (fr k)) 29, fun w hw => ?_, ?_, ?_⟩, fun q => absurd hon' q⟩
      · rw [ma_29 hw]; exact szX_c (g1 23 (by decide)) (g1 26 (by decide))
      · have e1 : mL (sW (sI M9 28 (upd (mI M9 28) (fr k) ft)) 0 (mW M9 0 + 1)) k = mL Mp k := kL k (by omega) (by omega)
        have e2 : mK (sW (sI M9 28 (upd (mI M9 28) (fr k) ft)) 0 (mW M9 0 + 1)) k = mK Mp k := kK k (by omega)
        rw [e1, e2, ← g1 25 (by decide)]
        exact hR
      · have e1 : mL (sW (sI M9 28 (upd (mI M9 28) (fr k) ft)) 0 (mW M9 0 + 1)) k = mL Mp k := kL k (by omega) (by omega)
        have e2 : mK (sW (sI M9 28 (upd (mI M9 28) (fr k) ft)) 0 (mW M9 0 + 1)) k = mK Mp k := kK k (by omega)
        rw [e1, e2, ← g1 25 (by decide)]
        exact (show mI (sW (sI M9 28 (upd (mI M9 28) (fr k) ft)) 0 (mW M9 0 + 1)) 28 (fr k) = ft from if_pos rfl).trans hft
    · have e5 : mI (sW (sI M9 28 (upd (mI M9 28) (fr p) ft)) 0 (mW M9 0 + 1)) 28 (fr k) = mI Mp 28 (fr k) :=
        (show mI (sW (sI M9 28 (upd (mI M9 28) (fr p) ft)) 0 (mW M9 0 + 1)) 28 (fr k) = mI M9 28 (fr k) from if_neg (fun q => e (hinj k p (by omega) hpc q))).trans (congrFun h28 _)
      exact st_fr (kL k (by omega) (by omega)) (kK k (by omega)) (kL (k + 1) (by omega) (by omega)) (kK (k + 1) (by omega)) e5 (g6 k h1 (by omega))
  · have hne : ¬ g = fr p := fun q => hg p hp (by omega) hon' q.symm
    exact ((show mI (sW (sI M9 28 (upd (mI M9 28) (fr p) ft)) 0 (mW M9 0 + 1)) 28 g = mI M9 28 g from if_neg hne).trans (congrFun h28 _)).trans (g7 g (fun k h1 h2 h3 => hg k h1 (by omega) h3))
  · rw [show wkX M fr lo (p + 1) = wkX M fr lo p + 1 from if_pos ⟨hp, hon'⟩]
    show mW M9 0 + 1 = _
    rw [hW, g8, Int64.add_assoc]
  · exact (show mW (sW (sI M9 28 (upd (mI M9 28) (fr p) ft)) 0 (mW M9 0 + 1)) t = mW M9 t from if_neg ht).trans ((hW t).trans (g9 t ht))
  · exact (congrArg Prod.snd c2).trans g10
theorem ft_vp (kd : Int32) (a : Nat → Int32) (f K : Nat → Int64) : vp_nar .char (ftX kd a f K) = ftX kd a f K := by
  unfold ftX
  split
  · rfl
  · split
    · split
      · rfl
      · split <;> rfl
    · rfl
set_option maxRecDepth 100000 in
set_option maxHeartbeats 4000000 in
theorem c_X3_carryOutChanged {l : Launch} {E : Ev} {M : Mm} {cnt bar bc : Nat} {fr : Nat → Nat} (hbar : mI M 2 7 = nI bar) (hbc : mI M 1 11 = nI bc) (hbr : bar ≤ cnt) (hc12 : cnt ≤ 12) (hbc12 : bc ≤ 12) (hrow : ∀ k, k < cnt → mI M 24 k = nI (fr k) ∧ fr k < 40) (hkd : ∀ k, k < cnt → seven (mI M 25 (fr k))) (hinj : ∀ i j, i < cnt → j < cnt → fr i = fr j → i = j) (hof : ∀ g, g < 40 → vp_nar .boolean (mI M 27 g) = mI M 27 g) : Ct l E yX3_carryOutChanged cX3_carryOutChanged 3 none 6 0 0 [.ref (eA E 1 0)] M (fun v M1 => v = none ∧ ∃ lo Mp, lo ≤ bar ∧ lo ≤ bc ∧ (∀ k, k < lo → acX M k (fr k) = true) ∧ (lo < bar → lo < bc → acX M lo (fr lo) = false) ∧ LI M Mp fr lo bar ∧ M1 = sI Mp 1 (upd (mI Mp 1) 11 (nI bar))) := by
  refine Ct.of (own := RX3) rfl [some (.ref (eA E 1 0)), none, none] (by decide) (Nat.le_of_ble_eq_true rfl) rfl ?_
  refine j_aln dX3_carryOutChanged_0 rfl rfl ?_
  refine j_V0g mf_X3_lowestChanged ml_X3_61 dX3_carryOutChanged_1 (Nat.le_of_ble_eq_true rfl) (Nat.le_of_ble_eq_true rfl) (Nat.le_of_ble_eq_true rfl) ⟨(Nat.le_of_ble_eq_true rfl), (Nat.le_of_ble_eq_true rfl)⟩ (by first | assumption | decide | (simp only [nv] at *; omega)) rfl rfl (c_X3_lowestChanged hbar hbc hbr hc12 hbc12 hrow) ?_
  intro v M9 h9
  obtain ⟨h0, lo, rfl, hlb, hlc, hall, hne⟩ := h9
  subst M9
  have K : ∀ p, p ≤ bar → ∀ (Mp : Mm) (o2 : Option Value), lo ≤ p → LI M Mp fr lo p → Jd l E RX3 cX3_carryOutChanged 3 none [] (rmm 6 0 0) (QfN E (fun v M1 => v = none ∧ ∃ lo Mp, lo ≤ bar ∧ lo ≤ bc ∧ (∀ k, k < lo → acX M k (fr k) = true) ∧ (lo < bar → lo < bc → acX M lo (fr lo) = false) ∧ LI M Mp fr lo bar ∧ M1 = sI Mp 1 (upd (mI Mp 1) 11 (nI bar))) 0 0) 0 0 5 [some (.ref (eA E 1 0)), some (.int (nI p)), o2] [] Mp := by
    refine up_to bar _ ?_ (fun p hp ih => ?_)
    · intro Mp o2 hlp h9
      have g1 := h9.1
      refine j_iln dX3_carryOutChanged_5 rfl rfl ?_
      refine j_aln dX3_carryOutChanged_6 rfl rfl ?_
      refine g_X3_0 dX3_carryOutChanged_7 fl_X3_12 ?_
      refine g_X2_7 dX3_carryOutChanged_10 fl_X3_57 ?_
      refine j_topi ((congrFun (g1 2 (by decide)) 7).trans hbar) ?_
      refine j_icgeN (tgt := 126) dX3_carryOutChanged_13 (by decide) (by omega) (by omega) (fun h13 => ?_) (fun h13 => ?_)
      · refine j_aln dX3_carryOutChanged_126 rfl rfl ?_
        refine j_aln dX3_carryOutChanged_127 rfl rfl ?_
        refine g_X3_0 dX3_carryOutChanged_128 fl_X3_12 ?_
        refine g_X2_7 dX3_carryOutChanged_131 fl_X3_57 ?_
        refine j_topi ((congrFun (g1 2 (by decide)) 7).trans hbar) ?_
        refine p_X3_11 dX3_carryOutChanged_134 fl_X3_94 ?_
        exact j_vret dX3_carryOutChanged_137 rfl (Nat.le_of_ble_eq_true rfl) (Nat.le_of_ble_eq_true rfl) ⟨rfl, lo, Mp, hlb, hlc, hall, hne, h9, rfl⟩
      · exact absurd (Nat.le_refl bar) h13
    · intro Mp o2 hlp h9
      have g1 := h9.1
      refine j_iln dX3_carryOutChanged_5 rfl rfl ?_
      refine j_aln dX3_carryOutChanged_6 rfl rfl ?_
      refine g_X3_0 dX3_carryOutChanged_7 fl_X3_12 ?_
      refine g_X2_7 dX3_carryOutChanged_10 fl_X3_57 ?_
      refine j_topi ((congrFun (g1 2 (by decide)) 7).trans hbar) ?_
      refine j_icgeN (tgt := 126) dX3_carryOutChanged_13 (by decide) (by omega) (by omega) (fun h13 => ?_) (fun h13 => ?_)
      · exact absurd h13 (by omega)
      · refine j_aln dX3_carryOutChanged_16 rfl rfl ?_
        refine g_X3_0 dX3_carryOutChanged_17 fl_X3_12 ?_
        refine g_X2_1 dX3_carryOutChanged_20 fl_X3_65 ?_
        refine j_iln dX3_carryOutChanged_23 rfl rfl ?_
        refine j_aildN dX3_carryOutChanged_24 rfl rfl rfl (by decide) (by omega) ?_
        refine j_topi ((congrFun (g1 24 (by decide)) p).trans (hrow p (by omega)).1) ?_
        refine j_ist_2 dX3_carryOutChanged_25 (by decide) rfl ?_
        have hf9 := (hrow p (by omega)).2
        have hz9 : vp_nar .boolean (mI (rsM Mp (fr p)) 27 (fr p)) = mI (rsM Mp (fr p)) 27 (fr p) := by rw [show mI (rsM Mp (fr p)) 27 = mI M 27 from g1 27 (by decide)]; exact hof (fr p) hf9
        have hk9 : seven (mI Mp 25 (fr p)) := by rw [g1 25 (by decide)]; exact hkd p (by omega)
        refine j_aln dX3_carryOutChanged_26 rfl rfl ?_
        refine j_iln dX3_carryOutChanged_27 rfl rfl ?_
        refine j_V1n mf_X3_readSizes ml_X3_68 dX3_carryOutChanged_28 (Nat.le_of_ble_eq_true rfl) (Nat.le_of_ble_eq_true rfl) (Nat.le_of_ble_eq_true rfl) ⟨(Nat.le_of_ble_eq_true rfl), (Nat.le_of_ble_eq_true rfl)⟩ (by first | assumption | decide | (simp only [nv] at *; omega)) rfl rfl (c_X3_readSizes hf9) ?_
        refine j_aln dX3_carryOutChanged_31 rfl rfl ?_
        refine j_iln dX3_carryOutChanged_32 rfl rfl ?_
        refine j_iln dX3_carryOutChanged_33 rfl rfl ?_
        refine j_V2n mf_X3_remember ml_X3_72 dX3_carryOutChanged_34 (Nat.le_of_ble_eq_true rfl) (Nat.le_of_ble_eq_true rfl) (Nat.le_of_ble_eq_true rfl) ⟨(Nat.le_of_ble_eq_true rfl), (Nat.le_of_ble_eq_true rfl)⟩ (by first | assumption | decide | (simp only [nv] at *; omega)) rfl rfl (c_X3_remember (show p < 12 by omega) hf9 hz9) ?_
        refine j_aln dX3_carryOutChanged_37 rfl rfl ?_
        refine g_X3_0 dX3_carryOutChanged_38 fl_X3_12 ?_
        refine g_X2_4 dX3_carryOutChanged_41 fl_X3_76 ?_
        refine j_iln dX3_carryOutChanged_44 rfl rfl ?_
        refine j_azldN dX3_carryOutChanged_45 rfl rfl rfl (by decide) (by omega) ?_
        refine j_ifeq (tgt := 69) dX3_carryOutChanged_46 (by decide) (fun h46 => ?_) (fun h46 => ?_)
        · refine j_aln dX3_carryOutChanged_69 rfl rfl ?_
          refine g_X3_1 dX3_carryOutChanged_70 fl_X3_18 ?_
          refine j_iln dX3_carryOutChanged_73 rfl rfl ?_
          refine j_aln dX3_carryOutChanged_74 rfl rfl ?_
          refine g_X3_6 dX3_carryOutChanged_75 fl_X3_39 ?_
          refine j_aln dX3_carryOutChanged_78 rfl rfl ?_
          refine g_X3_0 dX3_carryOutChanged_79 fl_X3_12 ?_
          refine g_X2_2 dX3_carryOutChanged_82 fl_X3_83 ?_
          refine j_iln dX3_carryOutChanged_85 rfl rfl ?_
          refine j_acldN dX3_carryOutChanged_86 rfl rfl rfl (by decide) (by omega) ?_
          refine j_iln dX3_carryOutChanged_87 rfl rfl ?_
          refine j_aln dX3_carryOutChanged_88 rfl rfl ?_
          refine g_X3_7 dX3_carryOutChanged_89 fl_X3_43 ?_
          refine j_aln dX3_carryOutChanged_92 rfl rfl ?_
          refine g_X3_3 dX3_carryOutChanged_93 fl_X3_24 ?_
          refine j_iln dX3_carryOutChanged_96 rfl rfl ?_
          refine j_aldBN dX3_carryOutChanged_97 (by omega) ?_
          refine j_aln dX3_carryOutChanged_98 rfl rfl ?_
          refine g_X3_3 dX3_carryOutChanged_99 fl_X3_24 ?_
          refine j_iln dX3_carryOutChanged_102 rfl rfl ?_
          refine j_icN 1 dX3_carryOutChanged_103 rfl ?_
          refine j_iaddN dX3_carryOutChanged_104 ?_
          refine j_aldBN dX3_carryOutChanged_105 (by omega) ?_
          refine j_V5g mf_X8_carryOut ml_X3_86 dX3_carryOutChanged_106 (Nat.le_of_ble_eq_true rfl) (Nat.le_of_ble_eq_true rfl) (Nat.le_of_ble_eq_true rfl) ⟨(Nat.le_of_ble_eq_true rfl), (Nat.le_of_ble_eq_true rfl)⟩ (by first | assumption | decide | (simp only [nv] at *; omega)) rfl rfl (c_X8_carryOut (show p + 1 < 15 by omega) (show p < 15 by omega) (by omega) hf9 hk9 (by omega) (by omega)) ?_
          intro v M9 h8
          obtain ⟨rfl, hco⟩ := h8
          refine j_acstN dX3_carryOutChanged_109 rfl (fun _ => rfl) rfl (by decide) (by omega) (ft_vp _ _ _ _) ?_
          refine j_aln dX3_carryOutChanged_110 rfl rfl ?_
          refine j_dup dX3_carryOutChanged_111 rfl ?_
          refine g_X3_2 dX3_carryOutChanged_112 fl_X3_90 ?_
          refine j_lc (v := 1) dX3_carryOutChanged_115 (by decide) ?_
          refine j_ladd dX3_carryOutChanged_116 ?_
          refine p_X3_2 dX3_carryOutChanged_117 fl_X3_90 ?_
          have hL9 := LI_on hlp (by omega) (show p < cnt by omega) hinj h9 h46 rfl hco
          refine j_incN_1 1 dX3_carryOutChanged_120 rfl (by decide) rfl ?_
          refine j_goto (tgt := 5) dX3_carryOutChanged_123 (by decide) ?_
          exact ih _ _ (by omega) hL9
        · skip
          refine j_aln dX3_carryOutChanged_49 rfl rfl ?_
          refine g_X3_3 dX3_carryOutChanged_50 fl_X3_24 ?_
          refine j_iln dX3_carryOutChanged_53 rfl rfl ?_
          refine j_icN 1 dX3_carryOutChanged_54 rfl ?_
          refine j_iaddN dX3_carryOutChanged_55 ?_
          refine j_aldBN dX3_carryOutChanged_56 (by omega) ?_
          refine j_aln dX3_carryOutChanged_57 rfl rfl ?_
          refine g_X3_3 dX3_carryOutChanged_58 fl_X3_24 ?_
          refine j_iln dX3_carryOutChanged_61 rfl rfl ?_
          refine j_aldBN dX3_carryOutChanged_62 (by omega) ?_
          refine j_V1n mf_X0_copyFrom ml_X3_79 dX3_carryOutChanged_63 (Nat.le_of_ble_eq_true rfl) (Nat.le_of_ble_eq_true rfl) (Nat.le_of_ble_eq_true rfl) ⟨(Nat.le_of_ble_eq_true rfl), (Nat.le_of_ble_eq_true rfl)⟩ (by first | assumption | decide | (simp only [nv] at *; omega)) rfl rfl (c_X0_copyFrom (show p + 1 < 15 by omega) (show p < 15 by omega)) ?_
          refine j_goto (tgt := 120) dX3_carryOutChanged_66 (by decide) ?_
          have hL9 := LI_off hlp (by omega) h9 h46
          refine j_incN_1 1 dX3_carryOutChanged_120 rfl (by decide) rfl ?_
          refine j_goto (tgt := 5) dX3_carryOutChanged_123 (by decide) ?_
          exact ih _ _ (by omega) hL9
  refine j_ist_1 dX3_carryOutChanged_4 (by decide) rfl ?_
  exact K lo hlb M none (Nat.le_refl lo) (LI_0 M fr lo)
