/-! rows, and needs in them -/
theorem fp_le {cnt : Nat} {row : Nat → Int32} {fr : Nat → Nat} (hcnt : cnt ≤ 12) (hrow : ∀ k, k < cnt → row k = nI (fr k) ∧ fr k < 40) (hij : ∀ i j, i < cnt → j < cnt → fr i = fr j → i = j) {j : Nat} (hj : j < cnt) (t : Int32) : fpX cnt row t ≤ nI j ↔ ∀ i, i < cnt → nI (fr i) = t → i ≤ j := by
  by_cases e : ∃ k, k < cnt ∧ nI (fr k) = t
  · obtain ⟨k, hk, hk2⟩ := e
    rw [fpX_t hk (fun i hi q => by
      have h1 := hrow i (by omega)
      have h2 := hrow k hk
      rw [h1.1, ← hk2] at q
      have := hij i k (by omega) hk ((nI_eq (by omega) (by omega)).mp q)
      omega) ((hrow k hk).1.trans hk2), nI_leI (by omega) (by omega)]
    constructor
    · intro h i hi q
      have h1 := hrow i hi
      have h2 := hrow k hk
      have := hij i k hi hk ((nI_eq (by omega) (by omega)).mp (q.trans hk2.symm))
      omega
    · exact fun h => h k hk hk2
  · rw [fpX_f (fun i hi q => e ⟨i, hi, by rw [← (hrow i hi).1]; exact q⟩)]
    refine ⟨fun _ i hi q => absurd ⟨i, hi, q⟩ e, fun _ => ?_⟩
    rw [Int32.le_iff_toInt_le, nI_toInt (by omega)]
    have : (-1 : Int32).toInt = -1 := by decide
    omega
/-- a feature that needs another one stands behind it -/
def ord (cnt : Nat) (fr : Nat → Nat) (kd : Nat → Int32) (d0 : Nat → Int32) : Prop := ∀ j, j < cnt → kd (fr j) = nI 101 → ∀ i, i < cnt → nI (fr i) = d0 (fr j) → i ≤ j
theorem sb_i {M : Mm} {cnt : Nat} {fr : Nat → Nat} (hcnt : cnt ≤ 12) (hrow : ∀ k, k < cnt → mI M 24 k = nI (fr k) ∧ fr k < 40) (hij : ∀ i j, i < cnt → j < cnt → fr i = fr j → i = j) : sbN M cnt fr = true ↔ ord cnt fr (mI M 25) (fun f => szX M f 0) := by
  unfold sbN ord
  rw [List.all_eq_true]
  constructor
  · intro h j hj hk
    exact (fp_le hcnt hrow hij hj _).mp (of_decide_eq_true (h j (List.mem_range.mpr hj)) hk)
  · intro h j hj
    have hj := List.mem_range.mp hj
    exact decide_eq_true fun hk => (fp_le hcnt hrow hij hj _).mpr (h j hj hk)
theorem ord_c {cnt : Nat} {fr fr2 : Nat → Nat} {kd kd2 d d2 : Nat → Int32} (h : ∀ k, k < cnt → fr k = fr2 k ∧ kd (fr k) = kd2 (fr2 k) ∧ d (fr k) = d2 (fr2 k)) : ord cnt fr kd d ↔ ord cnt fr2 kd2 d2 := by
  constructor
  · intro q j hj hk i hi e
    refine q j hj (by rw [(h j hj).2.1]; exact hk) i hi ?_
    rw [(h i hi).1, (h j hj).2.2]; exact e
  · intro q j hj hk i hi e
    refine q j hj (by rw [← (h j hj).2.1]; exact hk) i hi ?_
    rw [← (h i hi).1, ← (h j hj).2.2]; exact e
theorem coc_c {Me M1 : Mm} {bar2 bc : Nat} {fr fr2 : Nat → Nat} (hf : ∀ k, k < bar2 → fr k = fr2 k) (h : cocP Me bar2 bc fr M1) : cocP Me bar2 bc fr2 M1 := by
  obtain ⟨lo, Mp, h1, h2, h3, h4, ⟨l1, l2, l3, l4, l5, l6, l7, l8, l9, l10⟩, h6⟩ := h
  have wk : ∀ p, p ≤ bar2 → wkX Me fr2 lo p = wkX Me fr lo p := fun p => by
    induction p with
    | zero => intro _; rfl
    | succ p ih =>
      intro hp
      show (if lo ≤ p ∧ mI Me 27 (fr2 p) = 0 then wkX Me fr2 lo p + 1 else wkX Me fr2 lo p) = if lo ≤ p ∧ mI Me 27 (fr p) = 0 then wkX Me fr lo p + 1 else wkX Me fr lo p
      rw [hf p (by omega), ih (by omega)]
  refine ⟨lo, Mp, h1, h2, fun k hk => by rw [← hf k (by omega)]; exact h3 k hk, fun a b => by rw [← hf lo a]; exact h4 a b, ⟨l1, fun k a b => by rw [← hf k b]; exact l2 k a b, l3, l4, l5, fun k a b => by rw [← hf k b]; exact l6 k a b, fun g hg => l7 g fun k a b => by rw [hf k b]; exact hg k a b, by rw [wk bar2 (Nat.le_refl _)]; exact l8, l9, l10⟩, h6⟩
theorem nb_i {M : Mm} {cnt : Nat} {fr : Nat → Nat} {x : Int32} : nbO M cnt fr x = true ↔ ∃ k, k < cnt ∧ ¬ nI (fr k) = x ∧ mI M 25 (fr k) = nI 101 ∧ szX M (fr k) 0 = x := by
  unfold nbO
  rw [List.any_eq_true]
  exact ⟨fun ⟨k, hk, h⟩ => ⟨k, List.mem_range.mp hk, of_decide_eq_true h⟩, fun ⟨k, hk, h⟩ => ⟨k, List.mem_range.mpr hk, decide_eq_true h⟩⟩
theorem shf_n {r : Nat → Int32} {fr : Nat → Nat} {a b cnt : Nat} (hr : ∀ k, k < cnt → r k = nI (fr k)) (ha : a < cnt) (hb : b < cnt) {j : Nat} (hj : j < cnt) : shf r a b j = nI (shN fr a b j) := by
  unfold shf shN
  by_cases c1 : j = b
  · rw [if_pos c1, if_pos c1, hr a ha]
  · rw [if_neg c1, if_neg c1]
    by_cases c2 : a ≤ j ∧ j < b
    · rw [if_pos c2, if_pos c2, hr (j + 1) (by omega)]
    · rw [if_neg c2, if_neg c2]
      by_cases c3 : b < j ∧ j ≤ a
      · rw [if_pos c3, if_pos c3, hr (j - 1) (by omega)]
      · rw [if_neg c3, if_neg c3, hr j hj]
theorem shN_w {fr : Nat → Nat} {a b cnt : Nat} (ha : a < cnt) (hb : b < cnt) {j : Nat} (hj : j < cnt) : ∃ i, i < cnt ∧ shN fr a b j = fr i := by
  unfold shN
  by_cases c1 : j = b
  · rw [if_pos c1]; exact ⟨a, ha, rfl⟩
  · rw [if_neg c1]
    by_cases c2 : a ≤ j ∧ j < b
    · rw [if_pos c2]; exact ⟨j + 1, by omega, rfl⟩
    · rw [if_neg c2]
      by_cases c3 : b < j ∧ j ≤ a
      · rw [if_pos c3]; exact ⟨j - 1, by omega, rfl⟩
      · rw [if_neg c3]; exact ⟨j, hj, rfl⟩
theorem shN_i {fr : Nat → Nat} {a b cnt : Nat} (ha : a < cnt) (hb : b < cnt) (hij : ∀ i j, i < cnt → j < cnt → fr i = fr j → i = j) : ∀ i j, i < cnt → j < cnt → shN fr a b i = shN fr a b j → i = j := by
  have w : ∀ j, j < cnt → shN fr a b j = fr (wasN a b j) ∧ wasN a b j < cnt := fun j hj => by
    unfold shN wasN
    by_cases c1 : j = b
    · rw [if_pos c1, if_pos c1]; exact ⟨rfl, ha⟩
    · rw [if_neg c1, if_neg c1]
      by_cases c2 : a ≤ j ∧ j < b
      · rw [if_pos c2, if_pos c2]; exact ⟨rfl, by omega⟩
      · rw [if_neg c2, if_neg c2]
        by_cases c3 : b < j ∧ j ≤ a
        · rw [if_pos c3, if_pos c3]; exact ⟨rfl, by omega⟩
        · rw [if_neg c3, if_neg c3]; exact ⟨rfl, hj⟩
  intro i j hi hj e
  rw [(w i hi).1, (w j hj).1] at e
  have e := hij _ _ (w i hi).2 (w j hj).2 e
  unfold wasN at e
  split at e
  · split at e
    · omega
    · split at e
      · omega
      · split at e <;> omega
  · split at e
    · split at e
      · omega
      · split at e
        · omega
        · split at e <;> omega
    · split at e
      · split at e
        · omega
        · split at e
          · omega
          · split at e <;> omega
      · split at e
        · omega
        · split at e
          · omega
          · split at e <;> omega
theorem adN_at {fr : Nat → Nat} {cnt g j : Nat} : adN fr cnt g j = if j = cnt then g else fr j := rfl
theorem adN_i {fr : Nat → Nat} {cnt g : Nat} (hf : ∀ k, k < cnt → fr k < g) (hij : ∀ i j, i < cnt → j < cnt → fr i = fr j → i = j) : ∀ i j, i < cnt + 1 → j < cnt + 1 → adN fr cnt g i = adN fr cnt g j → i = j := by
  intro i j hi hj e
  rw [adN_at, adN_at] at e
  by_cases a : i = cnt
  · rw [if_pos a] at e
    by_cases b : j = cnt
    · omega
    · rw [if_neg b] at e; have := hf j (by omega); omega
  · rw [if_neg a] at e
    by_cases b : j = cnt
    · rw [if_pos b] at e; have := hf i (by omega); omega
    · rw [if_neg b] at e; exact hij i j (by omega) (by omega) e
/-- whether an added feature would stand behind one that needs it is asked alike -/
theorem ad_ord {cnt g : Nat} {fr : Nat → Nat} {kd kd2 d d2 : Nat → Int32} (hg : g < 40) (hf : ∀ k, k < cnt → fr k < g) (ho : ord cnt fr kd d) (hk : ∀ k, k < cnt → kd2 (fr k) = kd (fr k) ∧ d2 (fr k) = d (fr k)) : ord (cnt + 1) (adN fr cnt g) kd2 d2 ↔ ¬ ∃ k, k < cnt ∧ kd (fr k) = nI 101 ∧ d (fr k) = nI g := by
  constructor
  · rintro h ⟨k, hk1, hk2, hk3⟩
    have e : adN fr cnt g k = fr k := by rw [adN_at, if_neg (by omega)]
    have e2 : adN fr cnt g cnt = g := by rw [adN_at, if_pos rfl]
    have := h k (by omega) (by rw [e, (hk k hk1).1]; exact hk2) cnt (by omega) (by rw [e, e2, (hk k hk1).2]; exact hk3.symm)
    omega
  · intro h j hj hkj i hi e
    by_cases a : j = cnt
    · omega
    · have ej : adN fr cnt g j = fr j := by rw [adN_at, if_neg a]
      have hj2 : j < cnt := by omega
      rw [ej, (hk j hj2).1] at hkj
      rw [ej, (hk j hj2).2] at e
      by_cases b : i = cnt
      · rw [b, adN_at, if_pos rfl] at e
        exact absurd ⟨j, hj2, hkj, e.symm⟩ h
      · rw [adN_at, if_neg b] at e
        exact ho j hj2 hkj i (by omega) e
