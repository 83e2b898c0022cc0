/-! the cases of the law: features moved -/
theorem rgP (x : Int32) {c : Nat} (hc : c ≤ 1000) : decide (¬ x < 0 ∧ x < nI c) = inX x (nI 0) (nI c - nI 1) := by
  unfold inX
  apply decide_eq_decide.mpr
  have e0 : (0 : Int32).toInt = 0 := by decide
  have e1 : (nI c - nI 1).toInt = (c : Int) - 1 := by
    rw [fb_subI (by rw [nI_toInt (by omega), nI_toInt (by decide)]; omega) (by rw [nI_toInt (by omega), nI_toInt (by decide)]; omega), nI_toInt (by omega), nI_toInt (by decide)]; rfl
  rw [Int32.lt_iff_toInt_lt, Int32.lt_iff_toInt_lt, Int32.lt_iff_toInt_lt, Int32.lt_iff_toInt_lt, nI_toInt (by omega), nI_toInt (by decide), e0, e1]
  omega
theorem sm_re (M : Mm) : sm M (reM M) := by
  refine ⟨fun t ht => re_t (fun z => ht (by unfold scr; omega)), fun i hi => ?_, fun _ _ => rfl, fun _ _ => rfl, rfl, rfl⟩
  rw [re_12, upd_at, if_neg (by omega), upd_at, if_neg (by omega), upd_at, if_neg (by omega)]
theorem shf_n {r : Nat → Int32} {fr : Nat → Nat} {a b cnt : Nat} (hr : ∀ k, k < cnt → r k = nI (fr k)) (ha : a < cnt) (hb : b < cnt) {j : Nat} (hj : j < cnt) : shf r a b j = nI (shN fr a b j) := by
  unfold shf shN
  by_cases c1 : j = b
  · rw [if_pos c1, if_pos c1, hr a ha]
  · rw [if_neg c1, if_neg c1]
    by_cases c2 : a ≤ j ∧ j < b
    · rw [if_pos c2, if_pos c2, hr (j + 1) (by omega)]
    · rw [if_neg c2, if_neg c2]
      by_cases c3 : b < j ∧ j ≤ a
      · rw [if_pos c3, if_pos c3, hr (j - 1) (by omega)]
      · rw [if_neg c3, if_neg c3, hr j hj]
theorem shN_w {fr : Nat → Nat} {a b cnt : Nat} (ha : a < cnt) (hb : b < cnt) {j : Nat} (hj : j < cnt) : ∃ i, i < cnt ∧ shN fr a b j = fr i := by
  unfold shN
  by_cases c1 : j = b
  · rw [if_pos c1]; exact ⟨a, ha, rfl⟩
  · rw [if_neg c1]
    by_cases c2 : a ≤ j ∧ j < b
    · rw [if_pos c2]; exact ⟨j + 1, by omega, rfl⟩
    · rw [if_neg c2]
      by_cases c3 : b < j ∧ j ≤ a
      · rw [if_pos c3]; exact ⟨j - 1, by omega, rfl⟩
      · rw [if_neg c3]; exact ⟨j, hj, rfl⟩
theorem shN_i {fr : Nat → Nat} {a b cnt : Nat} (ha : a < cnt) (hb : b < cnt) (hij : ∀ i j, i < cnt → j < cnt → fr i = fr j → i = j) : ∀ i j, i < cnt → j < cnt → shN fr a b i = shN fr a b j → i = j := by
  have w : ∀ j, j < cnt → shN fr a b j = fr (wasN a b j) ∧ wasN a b j < cnt := fun j hj => by
    unfold shN wasN
    by_cases c1 : j = b
    · rw [if_pos c1, if_pos c1]; exact ⟨rfl, ha⟩
    · rw [if_neg c1, if_neg c1]
      by_cases c2 : a ≤ j ∧ j < b
      · rw [if_pos c2, if_pos c2]; exact ⟨rfl, by omega⟩
      · rw [if_neg c2, if_neg c2]
        by_cases c3 : b < j ∧ j ≤ a
        · rw [if_pos c3, if_pos c3]; exact ⟨rfl, by omega⟩
        · rw [if_neg c3, if_neg c3]; exact ⟨rfl, hj⟩
  intro i j hi hj e
  rw [(w i hi).1, (w j hj).1] at e
  have e := hij _ _ (w i hi).2 (w j hj).2 e
  unfold wasN at e
  split at e
  · split at e
    · omega
    · split at e
      · omega
      · split at e <;> omega
  · split at e
    · split at e
      · omega
      · split at e
        · omega
        · split at e <;> omega
    · split at e
      · split at e
        · omega
        · split at e
          · omega
          · split at e <;> omega
      · split at e
        · omega
        · split at e
          · omega
          · split at e <;> omega
/-- whether a move is refused is asked alike -/
theorem mv_ord {M M1 : Mm} {g cnt bar : Nat} {fr : Nat → Nat} {pc mc k p : Nat} (q : INV M g cnt bar fr pc mc) (e1 : ∀ t, (40 ≤ t ∧ t ≤ 48) ∨ t = 12 → mI M1 t = mI M t) (hk : k < cnt) (hp : p < cnt) : orX (mvM M1 k p) cnt (shN fr k p) = true ↔ sbN (sI M 24 (shf (mI M 24) k p)) cnt (shN fr k p) = true := by
  have hb := INV_b q
  have hij := (INV_c9 q).2.1
  have hMV1 := MV_W (M' := M1) q.2.1 e1
  have m44 : mI (mvM M1 k p) 44 = shf (mI M1 44) k p := by unfold mvM; rw [mI_sI, if_pos rfl]
  have mt : ∀ t, ¬ (t = 44 ∨ t = 12 ∨ t = 50 ∨ t = 51 ∨ t = 52) → mI (mvM M1 k p) t = mI M1 t := fun t ht => by
    unfold mvM
    rw [mI_sI, if_neg (by omega), re_t (by omega)]
  have m5 : mI (mvM M1 k p) 12 5 = mI M1 12 5 := by
    unfold mvM
    rw [mI_sI, if_neg (by decide), re_12, upd_at, if_neg (by decide), upd_at, if_neg (by decide), upd_at, if_neg (by decide)]
  have hmf : ∀ x, mF (mvM M1 k p) x = mF M1 x := fun x => by unfold mF; rw [m5, mt 47 (by decide)]
  have r1 : ∀ j, j < cnt → mI (mvM M1 k p) 44 j = nI (shN fr k p j) ∧ shN fr k p j < 40 := fun j hj => by
    rw [m44, shf_n (fun k hk => (hMV1.2.2.2.1 k hk).1) hk hp hj]
    obtain ⟨i, hi, e⟩ := shN_w (fr := fr) hk hp hj
    exact ⟨rfl, by rw [e]; exact (INV_fr q hi).2⟩
  have r2 : ∀ i, i < cnt → mF (mvM M1 k p) (nI (shN fr k p i)) = true := fun i hi => by
    obtain ⟨i2, hi2, e⟩ := shN_w (fr := fr) hk hp hi
    rw [hmf, e]
    exact (MV_mF hMV1 (INV_fr q hi2).2).mpr ⟨i2, hi2, rfl⟩
  have r3 : ∀ j, j < cnt → mI (sI M 24 (shf (mI M 24) k p)) 24 j = nI (shN fr k p j) ∧ shN fr k p j < 40 := fun j hj => by
    rw [mI_sI, if_pos rfl, shf_n (fun k hk => (INV_row q k hk).1) hk hp hj]
    obtain ⟨i, hi, e⟩ := shN_w (fr := fr) hk hp hj
    exact ⟨rfl, by rw [e]; exact (INV_fr q hi).2⟩
  rw [or_i hb.2.1 r1 (shN_i hk hp hij) r2, sb_i hb.2.1 r3 (shN_i hk hp hij)]
  refine (ord_c fun j hj => ?_).symm
  obtain ⟨i, hi, e⟩ := shN_w (fr := fr) hk hp hj
  have hd := INV_dm q hi
  rw [e]
  refine ⟨rfl, ?_, ?_⟩
  · rw [mt 45 (by decide), e1 45 (by omega)]
    exact hd.1
  · show szX (sI M 24 (shf (mI M 24) k p)) (fr i) 0 = dmX (mvM M1 k p) (fr i) 0
    have d1 : dmX (mvM M1 k p) = dmX M := by unfold dmX; rw [mt 43 (by decide), mt 46 (by decide), e1 43 (by omega), e1 46 (by omega)]
    rw [d1, ← hd.2 0 (by decide)]
    rfl
theorem sp_move {l : Launch} {E : Ev} (hl9 : l.stackTraces = false) (hnse : NseR l E) : Sp_move l E Inv := by
  intro M x y hI
  obtain ⟨g, cnt, bar, fr, pc, mc, q⟩ := id hI
  have hb := INV_b q
  obtain ⟨hbc, hij, hof⟩ := INV_c9 q
  have hy : (¬ y < 0 ∧ y < nI cnt) ↔ inX y (nI 0) (nI cnt - nI 1) = true := by
    rw [← rgP y (by omega), decide_eq_true_iff]
  refine ⟨_, cw_move (by decide) (c_X9_move hl9 hnse q.1.1 hb.2.1 (INV_row q) q.1.2.2.1 hb.2.2.1 hbc hb.2.2.2 (INV_hk q) hij hof) (fun N M' h => h.1.elim (fun h => Or.inl h.2) fun h => Or.inr (h.elim (fun h => Or.inl h.2.2) fun h => Or.inr (by obtain ⟨k, p, -, -, -, -, -, -, h⟩ := h; exact h))) (fun v M' h => by obtain ⟨k, p, -, -, -, -, -, -, hv, -⟩ := h; exact ⟨_, hv⟩), fun v M1 hK => ?_⟩
  rcases hK with ⟨w, M', ⟨k, p, hk, h1, h2, hp, rfl, hsb, hv1, hcoc⟩, h4, h5⟩ | ⟨⟨h, h3⟩, h4⟩ | ⟨⟨h, h3⟩, h4⟩ | ⟨⟨h, h3⟩, h4⟩
  · have hw := vI hv1
    rw [(INV_row q k hk).1] at h2
    subst h2
    have hf40 := (INV_row q k hk).2
    have e1 : ∀ t, ¬ (t = 1 ∨ (28 ≤ t ∧ t ≤ 32) ∨ t = 24) → mI M1 t = mI M t := fun t ht => by
      rw [h5]
      show mI M' t = _
      rw [coc_t hcoc t (by omega), mI_sI, if_neg (by omega)]
    have hMV1 := MV_W (M' := M1) q.2.1 fun t ht => e1 t (by omega)
    have hm : mF M1 (nI (fr k)) = true := (MV_mF hMV1 hf40).mpr ⟨k, hk, rfl⟩
    have hyt := hy.mp ⟨nI_pos (by omega), nI_lt hp (by omega)⟩
    refine ⟨0, by decide, h4, 9, _, by decide, c_X10_move hMV1, fun v2 M2 hP => ?_⟩
    rw [hMV1.2.1.1] at hP
    rcases hP with ⟨z, -⟩ | ⟨-, z, -⟩ | ⟨-, -, a, b, ha, hb', ex, ey, hP⟩
    · exact absurd (hm.symm.trans z) (by decide)
    · exact absurd (hyt.symm.trans z) (by decide)
    · have ex := hij k a hk ha ((nI_eq (by omega) (by have := (INV_fr q ha).2; omega)).mp ex)
      have ey := (nI_eq (by omega) (by omega)).mp ey
      subst ex ey
      have ho := (mv_ord q (fun t ht => e1 t (by omega)) hk hp).mpr hsb
      rcases hP with ⟨z, -⟩ | ⟨-, hv2, hrm, hMV, hco⟩
      · exact absurd (ho.symm.trans z) (by decide)
      · obtain ⟨o1, o2⟩ := out_ok hrm hco (wv := w.toInt64) (by rw [h5]; rfl)
        have e2 : ∀ t, ¬ (t = 1 ∨ (28 ≤ t ∧ t ≤ 32) ∨ t = 24 ∨ t = 44 ∨ t = 12 ∨ (50 ≤ t ∧ t ≤ 52)) → mI (mvM M1 k p) t = mI M t := fun t ht => by
          rw [hrm.2.1 t (by omega) (by omega), e1 t (by omega)]
        refine ⟨_, hv2, o1, fun _ => by rw [o2, hw], ?_⟩
        exact change q (EC_I (by decide) _) (fun f _ => rfl) hcoc h5 hrm (fun t ht => by omega) hco ⟨q.1.1, q.1.2.1, q.1.2.2.1, fun j hj => shf_n (fun k hk => (INV_row q k hk).1) hk hp hj⟩ hMV (IF_c (fun t ht => e2 t (by omega)) q.2.2.1) (IN_c (fun t ht => e2 t (by omega)) q.2.2.2.1) hsb
  · have h1 : fpX cnt (mI M 24) x < 0 := by
      rcases h with ⟨h, -⟩ | ⟨-, -, h⟩ | ⟨k, p, -, -, -, -, -, -, h⟩
      · exact h
      · exact absurd h (by decide)
      · exact absurd h (by decide)
    subst h3
    have hm : mF M1 x = false := Bool.eq_false_iff.mpr fun z => (INV_mF q x).mp z h1
    refine ⟨1, by decide, h4, 9, _, by decide, c_X10_move q.2.1, fun v2 M2 hP => ?_⟩
    rcases hP with ⟨-, hv2, hM⟩ | ⟨z, -⟩ | ⟨z, -⟩
    · subst hM
      exact ⟨_, hv2, rfl, no1 (by decide), Inv_sm (sm_tr (sm_cd _ _) (sm_cd _ _)) hI⟩
    · exact absurd (z.symm.trans hm) (by decide)
    · exact absurd (z.symm.trans hm) (by decide)
  · have h1 : ¬ fpX cnt (mI M 24) x < 0 ∧ ¬ (¬ y < 0 ∧ y < nI cnt) := by
      rcases h with ⟨-, h⟩ | ⟨h1, h2, h⟩ | ⟨k, p, -, -, -, -, -, -, h⟩
      · exact absurd h (by decide)
      · exact ⟨h1, h2⟩
      · exact absurd h (by decide)
    subst h3
    have hm := (INV_mF q x).mpr h1.1
    have hyn := fun z => h1.2 (hy.mpr z)
    refine ⟨2, by decide, h4, 9, _, by decide, c_X10_move q.2.1, fun v2 M2 hP => ?_⟩
    rw [q.2.1.2.1.1] at hP
    rcases hP with ⟨z, -⟩ | ⟨-, -, hv2, hM⟩ | ⟨-, z, -⟩
    · exact absurd (hm.symm.trans z) (by decide)
    · subst hM
      exact ⟨_, hv2, rfl, no1 (by decide), Inv_sm (sm_tr (sm_cd _ _) (sm_cd _ _)) hI⟩
    · exact absurd z hyn
  · have h1 : ∃ k p, k < cnt ∧ fpX cnt (mI M 24) x = nI k ∧ mI M 24 k = x ∧ p < cnt ∧ y = nI p ∧ sbN (sI M 24 (shf (mI M 24) k p)) cnt (shN fr k p) = false := by
      rcases h with ⟨-, h⟩ | ⟨-, -, h⟩ | ⟨k, p, a1, a2, a3, a4, a5, a6, -⟩
      · exact absurd h (by decide)
      · exact absurd h (by decide)
      · exact ⟨k, p, a1, a2, a3, a4, a5, a6⟩
    subst h3
    obtain ⟨k, p, hk, h1, h2, hp, rfl, hsb⟩ := h1
    rw [(INV_row q k hk).1] at h2
    subst h2
    have hf40 := (INV_row q k hk).2
    have hm : mF M1 (nI (fr k)) = true := (MV_mF q.2.1 hf40).mpr ⟨k, hk, rfl⟩
    have hyt := hy.mp ⟨nI_pos (by omega), nI_lt hp (by omega)⟩
    refine ⟨3, by decide, h4, 9, _, by decide, c_X10_move q.2.1, fun v2 M2 hP => ?_⟩
    rw [q.2.1.2.1.1] at hP
    rcases hP with ⟨z, -⟩ | ⟨-, z, -⟩ | ⟨-, -, a, b, ha, hb', ex, ey, hP⟩
    · exact absurd (hm.symm.trans z) (by decide)
    · exact absurd (hyt.symm.trans z) (by decide)
    · have ex := hij k a hk ha ((nI_eq (by omega) (by have := (INV_fr q ha).2; omega)).mp ex)
      have ey := (nI_eq (by omega) (by omega)).mp ey
      subst ex ey
      rcases hP with ⟨-, hv2, hM⟩ | ⟨z, -⟩
      · subst hM
        exact ⟨_, hv2, rfl, no1 (by decide), Inv_sm (sm_tr (sm_re _) (sm_cd _ _)) hI⟩
      · have := (mv_ord q (fun t _ => rfl) hk hp).mp z
        rw [hsb] at this; exact absurd this (by decide)
