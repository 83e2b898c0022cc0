/-! the order of features, in both; taken out, moved -/
theorem fp_le {cnt : Nat} {row : Nat → Int32} {fr : Nat → Nat} (hcnt : cnt ≤ 12) (hrow : ∀ k, k < cnt → row k = nI (fr k) ∧ fr k < 40) (hij : ∀ i j, i < cnt → j < cnt → fr i = fr j → i = j) {j : Nat} (hj : j < cnt) (t : Int32) : fpX cnt row t ≤ nI j ↔ ∀ i, i < cnt → nI (fr i) = t → i ≤ j := by
  by_cases e : ∃ k, k < cnt ∧ nI (fr k) = t
  · obtain ⟨k, hk, hk2⟩ := e
    rw [fpX_t hk (fun i hi q => by
      have h1 := hrow i (by omega)
      have h2 := hrow k hk
      rw [h1.1, ← hk2] at q
      have := hij i k (by omega) hk ((nI_eq (by omega) (by omega)).mp q)
      omega) ((hrow k hk).1.trans hk2), nI_leI (by omega) (by omega)]
    constructor
    · intro h i hi q
      have h1 := hrow i hi
      have h2 := hrow k hk
      have := hij i k hi hk ((nI_eq (by omega) (by omega)).mp (q.trans hk2.symm))
      omega
    · exact fun h => h k hk hk2
  · rw [fpX_f (fun i hi q => e ⟨i, hi, by rw [← (hrow i hi).1]; exact q⟩)]
    refine ⟨fun _ i hi q => absurd ⟨i, hi, q⟩ e, fun _ => ?_⟩
    rw [Int32.le_iff_toInt_le, nI_toInt (by omega)]
    have : (-1 : Int32).toInt = -1 := by decide
    omega
/-- a feature that needs another one stands behind it -/
def ord (cnt : Nat) (fr : Nat → Nat) (kd : Nat → Int32) (d0 : Nat → Int32) : Prop := ∀ j, j < cnt → kd (fr j) = nI 101 → ∀ i, i < cnt → nI (fr i) = d0 (fr j) → i ≤ j
theorem sb_i {M : Mm} {cnt : Nat} {fr : Nat → Nat} (hcnt : cnt ≤ 12) (hrow : ∀ k, k < cnt → mI M 24 k = nI (fr k) ∧ fr k < 40) (hij : ∀ i j, i < cnt → j < cnt → fr i = fr j → i = j) : sbN M cnt fr = true ↔ ord cnt fr (mI M 25) (fun f => szX M f 0) := by
  unfold sbN ord
  rw [List.all_eq_true]
  constructor
  · intro h j hj hk
    exact (fp_le hcnt hrow hij hj _).mp (of_decide_eq_true (h j (List.mem_range.mpr hj)) hk)
  · intro h j hj
    have hj := List.mem_range.mp hj
    exact decide_eq_true fun hk => (fp_le hcnt hrow hij hj _).mpr (h j hj hk)
theorem or_i {M : Mm} {cnt : Nat} {fr : Nat → Nat} (hcnt : cnt ≤ 12) (hrow : ∀ k, k < cnt → mI M 44 k = nI (fr k) ∧ fr k < 40) (hij : ∀ i j, i < cnt → j < cnt → fr i = fr j → i = j) (hF : ∀ i, i < cnt → mF M (nI (fr i)) = true) : orX M cnt fr = true ↔ ord cnt fr (mI M 45) (fun f => dmX M f 0) := by
  have hnd : ∀ f, ndM M f = if mI M 45 f = nI 101 then dmX M f 0 else -1 := fun f => rfl
  unfold orX ord
  rw [List.all_eq_true]
  constructor
  · intro h j hj hk i hi q
    have h := of_decide_eq_true (h j (List.mem_range.mpr hj))
    by_cases e : nI (fr i) = nI (fr j)
    · have h1 := hrow i hi
      have h2 := hrow j hj
      have := hij i j hi hj ((nI_eq (by omega) (by omega)).mp e)
      omega
    · have hne : neX M (fr j) = nI (fr i) := by
        unfold neX
        rw [hnd, if_pos hk]
        show (if ¬ dmX M (fr j) 0 = nI (fr j) ∧ mF M (dmX M (fr j) 0) = true then dmX M (fr j) 0 else -1) = _
        have q : nI (fr i) = dmX M (fr j) 0 := q
        rw [← q, if_pos ⟨e, hF i hi⟩]
      rw [hne] at h
      rcases h with h | h
      · have h1 := hrow i hi
        exact absurd h (nI_nm1 (by omega))
      · exact (fp_le hcnt hrow hij hj _).mp h i hi rfl
  · intro h j hj
    have hj := List.mem_range.mp hj
    refine decide_eq_true ?_
    by_cases e : neX M (fr j) = -1
    · exact Or.inl e
    · refine Or.inr ((fp_le hcnt hrow hij hj _).mpr fun i hi q => ?_)
      unfold neX at q e
      by_cases c : ¬ ndM M (fr j) = nI (fr j) ∧ mF M (ndM M (fr j)) = true
      · rw [if_pos c] at q e
        rw [hnd] at q e
        by_cases hk : mI M 45 (fr j) = nI 101
        · rw [if_pos hk] at q
          exact h j hj hk i hi q
        · rw [if_neg hk] at e; exact absurd rfl e
      · rw [if_neg c] at e; exact absurd rfl e
theorem ord_c {cnt : Nat} {fr fr2 : Nat → Nat} {kd kd2 d d2 : Nat → Int32} (h : ∀ k, k < cnt → fr k = fr2 k ∧ kd (fr k) = kd2 (fr2 k) ∧ d (fr k) = d2 (fr2 k)) : ord cnt fr kd d ↔ ord cnt fr2 kd2 d2 := by
  constructor
  · intro q j hj hk i hi e
    refine q j hj (by rw [(h j hj).2.1]; exact hk) i hi ?_
    rw [(h i hi).1, (h j hj).2.2]; exact e
  · intro q j hj hk i hi e
    refine q j hj (by rw [← (h j hj).2.1]; exact hk) i hi ?_
    rw [← (h i hi).1, ← (h j hj).2.2]; exact e
theorem coc_c {Me M1 : Mm} {bar2 bc : Nat} {fr fr2 : Nat → Nat} (hf : ∀ k, k < bar2 → fr k = fr2 k) (h : cocP Me bar2 bc fr M1) : cocP Me bar2 bc fr2 M1 := by
  obtain ⟨lo, Mp, h1, h2, h3, h4, ⟨l1, l2, l3, l4, l5, l6, l7, l8, l9, l10⟩, h6⟩ := h
  have wk : ∀ p, p ≤ bar2 → wkX Me fr2 lo p = wkX Me fr lo p := fun p => by
    induction p with
    | zero => intro _; rfl
    | succ p ih =>
      intro hp
      show (if lo ≤ p ∧ mI Me 27 (fr2 p) = 0 then wkX Me fr2 lo p + 1 else wkX Me fr2 lo p) = if lo ≤ p ∧ mI Me 27 (fr p) = 0 then wkX Me fr lo p + 1 else wkX Me fr lo p
      rw [hf p (by omega), ih (by omega)]
  refine ⟨lo, Mp, h1, h2, fun k hk => by rw [← hf k (by omega)]; exact h3 k hk, fun a b => by rw [← hf lo a]; exact h4 a b, ⟨l1, fun k a b => by rw [← hf k b]; exact l2 k a b, l3, l4, l5, fun k a b => by rw [← hf k b]; exact l6 k a b, fun g hg => l7 g fun k a b => by rw [hf k b]; exact hg k a b, by rw [wk bar2 (Nat.le_refl _)]; exact l8, l9, l10⟩, h6⟩
theorem nb_i {M : Mm} {cnt : Nat} {fr : Nat → Nat} {x : Int32} : nbO M cnt fr x = true ↔ ∃ k, k < cnt ∧ ¬ nI (fr k) = x ∧ mI M 25 (fr k) = nI 101 ∧ szX M (fr k) 0 = x := by
  unfold nbO
  rw [List.any_eq_true]
  exact ⟨fun ⟨k, hk, h⟩ => ⟨k, List.mem_range.mp hk, of_decide_eq_true h⟩, fun ⟨k, hk, h⟩ => ⟨k, List.mem_range.mpr hk, decide_eq_true h⟩⟩
theorem INV_ord {M : Mm} {g cnt bar : Nat} {fr : Nat → Nat} {pc mc : Nat} (q : INV M g cnt bar fr pc mc) : ord cnt fr (mI M 25) (fun f => szX M f 0) := (sb_i (INV_b q).2.1 (INV_row q) (INV_c9 q).2.1).mp q.2.2.2.2.2.1
theorem INV_dm {M : Mm} {g cnt bar : Nat} {fr : Nat → Nat} {pc mc : Nat} (q : INV M g cnt bar fr pc mc) {k : Nat} (hk : k < cnt) : mI M 25 (fr k) = mI M 45 (fr k) ∧ ∀ w, w < 6 → szX M (fr k) w = dmX M (fr k) w :=
  ⟨(q.2.2.1.1 _ (INV_fr q hk).1).1, fun w hw => IF_dm q.2.1 (fun n hn => (q.2.2.2.1.1 n hn).2.2.2) q.2.2.1 (INV_fr q hk).1 hw⟩
/-- the feature that is needed, in the model -/
theorem ne_i {M : Mm} {g cnt bar : Nat} {fr : Nat → Nat} {pc mc : Nat} (q : INV M g cnt bar fr pc mc) {p : Nat} (hp : p < cnt) : (∃ k, k < cnt ∧ neX M (fr k) = nI (fr p)) ↔ nbO M cnt fr (nI (fr p)) = true := by
  have hF : mF M (nI (fr p)) = true := (MV_mF q.2.1 (INV_fr q hp).2).mpr ⟨p, hp, rfl⟩
  have h40 := (INV_fr q hp).2
  have hnd : ∀ f, ndM M f = if mI M 45 f = nI 101 then dmX M f 0 else -1 := fun f => rfl
  rw [nb_i]
  constructor
  · rintro ⟨k, hk, h⟩
    unfold neX at h
    by_cases c : ¬ ndM M (fr k) = nI (fr k) ∧ mF M (ndM M (fr k)) = true
    · rw [if_pos c] at h
      by_cases hkd : mI M 45 (fr k) = nI 101
      · rw [hnd, if_pos hkd] at h
        refine ⟨k, hk, fun z => ?_, by rw [(INV_dm q hk).1]; exact hkd, by rw [(INV_dm q hk).2 0 (by decide)]; exact h⟩
        rw [hnd, if_pos hkd, h] at c
        exact c.1 z.symm
      · rw [hnd, if_neg hkd] at h; exact absurd h.symm (nI_nm1 (by omega))
    · rw [if_neg c] at h; exact absurd h.symm (nI_nm1 (by omega))
  · rintro ⟨k, hk, h1, h2, h3⟩
    rw [(INV_dm q hk).1] at h2
    rw [(INV_dm q hk).2 0 (by decide)] at h3
    refine ⟨k, hk, ?_⟩
    unfold neX
    rw [hnd, if_pos h2, h3, if_pos ⟨fun z => h1 z.symm, hF⟩]
theorem sp_remove {l : Launch} {E : Ev} (hl9 : l.stackTraces = false) (hnse : NseR l E) : Sp_remove l E Inv := by
  intro M x hI
  obtain ⟨g, cnt, bar, fr, pc, mc, q⟩ := id hI
  have hb := INV_b q
  obtain ⟨hbc, hij, hof⟩ := INV_c9 q
  refine ⟨_, cw_remove (by decide) (c_X9_remove hl9 hnse q.1.1 hb.2.1 (INV_row q) q.1.2.2.1 hb.2.2.1 hbc hb.2.2.2 (INV_hk q) hij hof) (fun N M' h => h.1.elim (fun h => Or.inl h.2) fun h => Or.inr h.2.2) (fun v M' h => by obtain ⟨k, -, -, -, -, hv, -⟩ := h; exact ⟨_, hv⟩), fun v M1 hK => ?_⟩
  rcases hK with ⟨w, M', ⟨k, hk, h1, h2, hnb, hv1, hcoc⟩, h4, h5⟩ | ⟨⟨h, h3⟩, h4⟩ | ⟨⟨h, h3⟩, h4⟩
  · have hw := vI hv1
    rw [(INV_row q k hk).1] at h2
    subst h2
    have hf40 := (INV_row q k hk).2
    have hbmin : Nat.min bar (cnt - 1) = if bar = cnt then cnt - 1 else bar := by
      by_cases e : bar = cnt
      · rw [if_pos e, e]; exact Nat.min_eq_right (by omega)
      · rw [if_neg e]; exact Nat.min_eq_left (by omega)
    have hfr : ∀ j, j < cnt - 1 → shN fr k (cnt - 1) j = tkN fr k (cnt - 1) j := fun j hj => by
      unfold shN tkN
      rw [if_neg (by omega)]
      by_cases c : k ≤ j ∧ j < cnt - 1
      · rw [if_pos c, if_pos c]
      · rw [if_neg c, if_neg c, if_neg (by omega)]
    have hble : Nat.min bar (cnt - 1) ≤ cnt - 1 := Nat.min_le_right _ _
    have hcoc := coc_c (fun j hj => hfr j (by omega)) hcoc
    rw [hbmin] at hcoc
    have e1 : ∀ t, ¬ (t = 1 ∨ (28 ≤ t ∧ t ≤ 32) ∨ t = 2 ∨ t = 24) → mI M1 t = mI M t := fun t ht => by
      rw [h5]
      show mI M' t = _
      rw [coc_t hcoc t (by omega)]
      unfold tkM
      rw [mI_sI, if_neg (by omega), mI_sI, if_neg (by omega)]
    have hMV1 := MV_W (M' := M1) q.2.1 fun t ht => e1 t (by omega)
    have hm : mF M1 (nI (fr k)) = true := (MV_mF hMV1 hf40).mpr ⟨k, hk, rfl⟩
    have hno : ¬ ∃ j, j < cnt ∧ neX M1 (fr j) = nI (fr k) := fun z => by
      have e : ∀ f, neX M1 f = neX M f := fun f => by
        unfold neX ndM mF
        rw [e1 45 (by decide), e1 46 (by decide), e1 43 (by decide), e1 12 (by decide), e1 47 (by decide)]
      have := (ne_i q hk).mp (by obtain ⟨j, hj, z⟩ := z; exact ⟨j, hj, by rw [← e]; exact z⟩)
      rw [hnb] at this; exact absurd this (by decide)
    refine ⟨0, by decide, h4, 9, _, by decide, c_X10_remove hMV1, fun v2 M2 hP => ?_⟩
    rcases hP with ⟨z, -⟩ | ⟨-, z, -⟩ | ⟨-, -, p, hp, ep, hv2, M3, b2, hb2, h44, h47, hrm, hMV, hco⟩
    · exact absurd (hm.symm.trans z) (by decide)
    · exact absurd z hno
    · have hp40 := (INV_fr q hp).2
      have ep := hij k p hk hp ((nI_eq (by omega) (by omega)).mp ep)
      subst ep
      subst hb2
      obtain ⟨o1, o2⟩ := out_ok hrm hco (wv := w.toInt64) (by rw [h5]; rfl)
      have e2 : ∀ t, ¬ (t = 1 ∨ (28 ≤ t ∧ t ≤ 32) ∨ t = 2 ∨ t = 24 ∨ t = 44 ∨ t = 47 ∨ t = 12 ∨ (50 ≤ t ∧ t ≤ 52)) → mI M3 t = mI M t := fun t ht => by
        rw [hrm.2.1 t (by omega) (by omega), e1 t (by omega)]
      refine ⟨_, hv2, o1, fun _ => by rw [o2, hw], ?_⟩
      have hnr : ∀ j, j < cnt - 1 → tkN fr k (cnt - 1) j = fr (if k ≤ j then j + 1 else j) := fun j hj => by
        unfold tkN
        by_cases c : k ≤ j
        · rw [if_pos ⟨c, hj⟩, if_pos c]
        · rw [if_neg (fun z => c z.1), if_neg c]
      have hIA : IA (tkM M k cnt bar) g (cnt - 1) (if bar = cnt then cnt - 1 else bar) (tkN fr k (cnt - 1)) := by
        refine ⟨rfl, ?_, ?_, fun j hj => ?_⟩
        · show upd (upd (mI M 2) 5 (nI (cnt - 1))) 7 (nI (Nat.min bar (cnt - 1))) 6 = _
          rw [upd_at, if_neg (by decide), upd_at, if_neg (by decide)]; exact q.1.2.1
        · show nI (Nat.min bar (cnt - 1)) = _
          rw [hbmin]
        · show shf (mI M 24) k (cnt - 1) j = _
          unfold shf
          rw [hnr j hj, if_neg (by omega)]
          by_cases c : k ≤ j
          · rw [if_pos ⟨c, hj⟩, if_pos c, (INV_row q (j + 1) (by omega)).1]
          · rw [if_neg (fun z => c z.1), if_neg (by omega), if_neg c, (INV_row q j (by omega)).1]
      have hij2 : ∀ i j, i < cnt - 1 → j < cnt - 1 → tkN fr k (cnt - 1) i = tkN fr k (cnt - 1) j → i = j := fun i j hi hj e => hMV.2.2.2.2.1 i j hi hj e
      refine change (Me := tkM M k cnt bar) q ⟨fun t ht => ?_, rfl⟩ (fun f _ => rfl) hcoc h5 hrm (fun t ht => by omega) hco hIA hMV (IF_c (fun t ht => e2 t (by omega)) q.2.2.1) (IN_c (fun t ht => e2 t (by omega)) q.2.2.2.1) ?_
      · unfold tkM
        rw [mI_sI, if_neg (by omega), mI_sI, if_neg (by omega)]
      · rw [sb_i (M := tkM M k cnt bar) (by omega) (fun j hj => ⟨hIA.2.2.2 j hj, by rw [hnr j hj]; exact (INV_fr q (by split <;> omega)).2⟩) hij2]
        intro j hj hkd i hi e
        have hkd : mI M 25 (tkN fr k (cnt - 1) j) = nI 101 := hkd
        have e : nI (tkN fr k (cnt - 1) i) = szX M (tkN fr k (cnt - 1) j) 0 := e
        rw [hnr j hj] at hkd e
        rw [hnr i hi] at e
        have := INV_ord q _ (by split <;> omega) hkd _ (by split <;> omega) e
        split at this <;> split at this <;> omega
  · have h1 : fpX cnt (mI M 24) x < 0 := by
      rcases h with ⟨h, -⟩ | ⟨-, -, h⟩
      · exact h
      · exact absurd h (by decide)
    subst h3
    have hm : mF M1 x = false := Bool.eq_false_iff.mpr fun z => (INV_mF q x).mp z h1
    refine ⟨1, by decide, h4, 9, _, by decide, c_X10_remove q.2.1, fun v2 M2 hP => ?_⟩
    rcases hP with ⟨-, hv2, hM⟩ | ⟨z, -⟩ | ⟨z, -⟩
    · subst hM
      exact ⟨_, hv2, rfl, no1 (by decide), Inv_sm (sm_tr (sm_cd _ _) (sm_cd _ _)) hI⟩
    · exact absurd (z.symm.trans hm) (by decide)
    · exact absurd (z.symm.trans hm) (by decide)
  · have h1 : ¬ fpX cnt (mI M 24) x < 0 ∧ nbO M cnt fr x = true := by
      rcases h with ⟨-, h⟩ | ⟨h1, h2, -⟩
      · exact absurd h (by decide)
      · exact ⟨h1, h2⟩
    subst h3
    have hm := (INV_mF q x).mpr h1.1
    obtain ⟨k, hk, -, hk2⟩ := fp_n h1.1
    rw [(INV_row q k hk).1] at hk2
    have hex := (ne_i q hk).mpr (by rw [hk2]; exact h1.2)
    rw [hk2] at hex
    refine ⟨2, by decide, h4, 9, _, by decide, c_X10_remove q.2.1, fun v2 M2 hP => ?_⟩
    rcases hP with ⟨z, -⟩ | ⟨-, -, hv2, hM⟩ | ⟨-, z, -⟩
    · exact absurd (hm.symm.trans z) (by decide)
    · subst hM
      exact ⟨_, hv2, rfl, no1 (by decide), Inv_sm (sm_tr (sm_cd _ _) (sm_cd _ _)) hI⟩
    · exact absurd hex z
