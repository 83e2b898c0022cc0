/-! the cases of the law, second: questions -/
theorem INV_ch {M : Mm} {g cnt bar : Nat} {fr : Nat → Nat} {pc mc : Nat} (q : INV M g cnt bar fr pc mc) : (∀ f, f < 40 → narrow .char (.int (mI M 28 f)) = .int (mI M 28 f)) ∧ ∀ f, f < 40 → narrow .char (.int (mI M 49 f)) = .int (mI M 49 f) :=
  ⟨fun f hf => fch_n (q.2.2.2.2.1.2.2.2.2.2.1 f hf).1, fun f hf => fch_n (q.2.2.2.2.1.2.2.2.2.2.1 f hf).2⟩
theorem sp_state {l : Launch} {E : Ev} (hl9 : l.stackTraces = false) (hnse : NseR l E) : Sp_state l E Inv := by
  intro M x hI
  obtain ⟨g, cnt, bar, fr, pc, mc, q⟩ := id hI
  have hb := INV_b q
  refine ⟨_, cw_state (by decide) (c_X9_state hl9 hnse q.1.1 hb.2.1 (INV_row q) q.1.2.2.1 hb.2.2.1 (INV_ch q).1) (fun N M' h => h.2.1) (fun v M' h => ⟨_, h.2.1⟩), fun v M1 hK => ?_⟩
  rcases hK with ⟨w, M', ⟨h1, h2, h3⟩, h4, h5⟩ | ⟨⟨h1, -, h3⟩, h4⟩
  · subst h3 h5
    have hw := vI h2
    have hm := (INV_mF q x).mpr h1
    have q' := INV_sm (sm_W M' w.toInt64) q
    refine ⟨0, by decide, h4, 3, _, by decide, c_X10_state q'.2.1.1.1 hb.1 hb.2.1 q'.2.1.2.2.1.1 hb.2.2.2 (INV_ch q').2 (MV_pl q'.2.1), fun v2 M2 hP => ?_⟩
    rcases hP with ⟨z, -⟩ | ⟨-, hv, hM⟩
    · exact absurd (hm.symm.trans z) (by decide)
    · subst hM
      refine ⟨_, hv, rfl, fun _ => ?_, Inv_sm (sm_tr (sm_W _ _) (sm_cd _ _)) hI⟩
      show w.toInt64 = (if ¬ mI M' 48 (ntX x) = 0 then nI 111 else if fpX cnt (mI M' 44) x < nI bar then mI M' 49 (ntX x) else nI 98).toInt64
      obtain ⟨k, hk, e1, e2⟩ := fp_n h1
      have hf := INV_row q k hk
      have ex : x = nI (fr k) := by rw [← e2]; exact hf.1
      rw [hw, ← INV_fp q, ex, ntX_nI (by omega), q.2.2.1.2.1 _ hf.2]
      rw [ex] at e1
      by_cases o : mI M' 48 (fr k) = 0
      · rw [e1, if_neg (show ¬ ¬ mI M' 48 (fr k) = 0 from fun z => z o), if_neg (show ¬ ¬ mI M' 48 (fr k) = 0 from fun z => z o)]
        by_cases z : nI k < nI bar
        · rw [if_pos z, if_pos z, q.2.2.2.2.1.2.2.2.2.1 k ((nI_ltI (by omega) (by omega)).mp z) o]
        · rw [if_neg z, if_neg z]
      · rw [if_pos o, if_pos o]
  · subst h3
    have hm : mF M1 x = false := Bool.eq_false_iff.mpr fun z => (INV_mF q x).mp z h1
    refine ⟨1, by decide, h4, 3, _, by decide, c_X10_state q.2.1.1.1 hb.1 hb.2.1 q.2.1.2.2.1.1 hb.2.2.2 (INV_ch q).2 (MV_pl q.2.1), fun v2 M2 hP => ?_⟩
    rcases hP with ⟨-, hv, hM⟩ | ⟨z, -⟩
    · subst hM
      exact ⟨_, hv, rfl, no1 (by decide), Inv_sm (sm_cd _ _) hI⟩
    · exact absurd (z.symm.trans hm) (by decide)
theorem sp_worked {l : Launch} {E : Ev} : Sp_worked l E Inv := by
  intro M hI
  obtain ⟨g, cnt, bar, fr, pc, mc, q⟩ := id hI
  refine ⟨1, _, by decide, c_X9_worked, fun v M1 hP => ⟨_, hP.1, 1, _, by decide, c_X10_worked, fun v2 M2 hP2 => ?_⟩⟩
  obtain ⟨-, h⟩ := hP
  obtain ⟨h1, h2⟩ := hP2
  subst h h2
  refine ⟨?_, Inv_sm (sm_cd _ _) hI⟩
  rw [h1, q.2.2.2.2.1.2.2.2.2.2.2]
theorem INV_RB {M : Mm} {g cnt bar : Nat} {fr : Nat → Nat} {pc mc : Nat} (q : INV M g cnt bar fr pc mc) : RB (mL M bar) (mK M bar) (mI M 54) (mI M 56) := q.2.2.2.2.1.2.2.2.1
theorem sp_has {l : Launch} {E : Ev} (hl9 : l.stackTraces = false) : Sp_has l E Inv := by
  intro M x y z hI
  obtain ⟨g, cnt, bar, fr, pc, mc, q⟩ := id hI
  have hb := INV_b q
  refine ⟨_, cw_has (by decide) (c_X9_has hl9 q.1.2.2.1 hb.2.2.2) (fun N M' h => h.2.1) (fun v M' h => ⟨_, h.2.1⟩), fun v M1 hK => ?_⟩
  rcases hK with ⟨w, M', ⟨h1, h2, h3⟩, h4, h5⟩ | ⟨⟨h1, -, h3⟩, h4⟩
  · subst h3 h5
    have hw := vI h2
    obtain ⟨n, hn, e0, e1, e2, e3⟩ := ins_n h1
    refine ⟨0, by decide, h4, 3, _, by decide, c_X10_has, fun v2 M2 hP => ?_⟩
    obtain ⟨hv, hM⟩ := hP
    rw [e3, if_neg (nI_nm1 (by omega)), ntX_nI (by omega)] at hv
    rw [e3, if_neg (nI_nm1 (by omega))] at hM
    subst hM
    refine ⟨_, hv, rfl, fun _ => ?_, Inv_sm (sm_tr (sm_W _ _) (sm_cd _ _)) hI⟩
    show (if w = 0 then (0 : Int64) else 1) = if bI (decide (¬ mI M' 54 n = 0)) = 0 then 0 else 1
    rw [hw, e0, e1, e2, cel_n _ hn, (INV_RB q).2.1 n hn]; rfl
  · subst h3
    refine ⟨1, by decide, h4, 3, _, by decide, c_X10_has, fun v2 M2 hP => ?_⟩
    obtain ⟨hv, hM⟩ := hP
    rw [ins_f h1, if_pos rfl] at hM
    subst hM
    exact ⟨_, hv, rfl, no1 (by decide), Inv_sm (sm_cd _ _) hI⟩
theorem sp_hasAnew {l : Launch} {E : Ev} (hl9 : l.stackTraces = false) : Sp_hasAnew l E Inv := by
  intro M x y z hI
  obtain ⟨g, cnt, bar, fr, pc, mc, q⟩ := id hI
  have hb := INV_b q
  refine ⟨_, cw_hasAnew (by decide) (c_X9_hasAnew hl9 q.1.2.2.1 hb.2.2.1 hb.2.1 (INV_row q) (INV_hk q)) (fun N M' h => h.2.1) (fun v M' h => ⟨_, h.2.2.2⟩), fun v M1 hK => ?_⟩
  rcases hK with ⟨w, M', ⟨h1, hbf, hsr, h2⟩, h4, h5⟩ | ⟨⟨h1, -, h3⟩, h4⟩
  · subst h5
    have hw := vI h2
    obtain ⟨n, hn, e0, e1, e2, e3⟩ := ins_n h1
    refine ⟨0, by decide, h4, 4, _, by decide, c_X10_hasAnew, fun v2 M2 hP => ?_⟩
    obtain ⟨hv, hM⟩ := hP
    rw [e3, if_neg (nI_nm1 (by omega)), ntX_nI (by omega)] at hv
    rw [e3, if_neg (nI_nm1 (by omega))] at hM
    subst hM
    refine ⟨_, hv, rfl, fun _ => ?_, Inv_sm (sm_tr (bf_sm hbf) (sm_tr (sm_W _ _) (sm_cd _ _))) hI⟩
    show (if w = 0 then (0 : Int64) else 1) = if bI (decide (¬ mI M' 54 n = 0)) = 0 then 0 else 1
    rw [hw, e0, e1, e2, cel_n _ hn, INV_an q hsr n hn, (INV_RB q).2.1 n hn, hbf.1 54 (by decide)]; rfl
  · subst h3
    refine ⟨1, by decide, h4, 4, _, by decide, c_X10_hasAnew, fun v2 M2 hP => ?_⟩
    obtain ⟨hv, hM⟩ := hP
    rw [ins_f h1, if_pos rfl] at hM
    subst hM
    exact ⟨_, hv, rfl, no1 (by decide), Inv_sm (sm_cd _ _) hI⟩
theorem sp_nameOf {l : Launch} {E : Ev} (hl9 : l.stackTraces = false) (hnse : NseR l E) : Sp_nameOf l E Inv := by
  intro M x y z s hI
  obtain ⟨g, cnt, bar, fr, pc, mc, q⟩ := id hI
  have hb := INV_b q
  have hmk : ∀ n, n < 512 → ∀ k, k < 6 → mkr (mL M bar) (mK M bar) (alN n 0) (alN n 1) (alN n 2) k = mI M 56 (6 * n + k) := fun n hn k hk => by
    rw [al_0, al_1, al_2, mkr_n _ _ hn hk, (INV_RB q).2.2.1 n hn k hk]
  have hng : ∀ n, n < 512 → ∀ k, k < 6 → (mI M 56 (6 * n + k) < 0 ↔ mI M 56 (6 * n + k) = -1) := fun n hn k hk => by
    rw [(INV_RB q).2.2.1 n hn k hk]
    by_cases e : sqB (cb (mL M bar)) n k = true
    · have := (INV_RB q).2.2.2 n hn k hk e
      rw [if_pos e]
      exact ⟨fun h => absurd h (nI_pos (by omega)), fun h => absurd h (nI_nm1 (by omega))⟩
    · rw [if_neg e]; exact ⟨fun _ => rfl, fun _ => by decide⟩
  refine ⟨_, cw_nameOf (by decide) (c_X9_nameOf hl9 hnse q.1.2.2.1 hb.2.2.2) (fun N M' h => h.1.elim (fun h => Or.inl h.2) fun h => Or.inr (h.elim (fun h => Or.inl h.2.2) fun h => Or.inr h.2.2.2)) (fun v M' h => ⟨_, h.2.2.2.1⟩), fun v M1 hK => ?_⟩
  rcases hK with ⟨w, M', ⟨h1, hs, hn0, h2, h3⟩, h4, h5⟩ | ⟨⟨h, h3⟩, h4⟩ | ⟨⟨h, h3⟩, h4⟩ | ⟨⟨h, h3⟩, h4⟩
  · subst h3 h5
    have hw := vI h2
    obtain ⟨n, hn, e0, e1, e2, e3⟩ := ins_n h1
    rw [sdX_5] at hs
    obtain ⟨k, hk, rfl⟩ := in5_n hs
    rw [e0, e1, e2, ntX_nI (by have := alN_lt hn 0; omega), ntX_nI (by have := alN_lt hn 1; omega), ntX_nI (by have := alN_lt hn 2; omega), ntX_nI (by omega), hmk n hn k hk] at hn0 hw
    refine ⟨0, by decide, h4, 3, _, by decide, c_X10_nameOf, fun v2 M2 hP => ?_⟩
    rw [e3, ntX_nI (by omega), ntX_nI (by omega)] at hP
    rcases hP with ⟨z, -⟩ | ⟨-, z, -⟩ | ⟨-, -, z, -⟩ | ⟨-, -, -, hv, hM⟩
    · exact absurd z (nI_nm1 (by omega))
    · exact absurd (hs.symm.trans z) (by decide)
    · exact absurd ((hng n hn k hk).mpr z) hn0
    · subst hM
      refine ⟨_, hv, rfl, fun _ => ?_, Inv_sm (sm_tr (sm_W _ _) (sm_cd _ _)) hI⟩
      show w.toInt64 = (mI M' 56 (6 * n + k)).toInt64
      rw [hw]
  · have h1 : insd x y z = false := by
      rcases h with ⟨h, -⟩ | ⟨-, -, h⟩ | ⟨-, -, -, h⟩
      · exact h
      · exact absurd h (by decide)
      · exact absurd h (by decide)
    subst h3
    refine ⟨1, by decide, h4, 3, _, by decide, c_X10_nameOf, fun v2 M2 hP => ?_⟩
    rcases hP with ⟨-, hv, hM⟩ | ⟨z, -⟩ | ⟨z, -⟩ | ⟨z, -⟩
    · subst hM
      exact ⟨_, hv, rfl, no1 (by decide), Inv_sm (sm_tr (sm_cd _ _) (sm_cd _ _)) hI⟩
    · exact absurd (ins_f h1) z
    · exact absurd (ins_f h1) z
    · exact absurd (ins_f h1) z
  · have h1 : insd x y z = true ∧ sdX s = false := by
      rcases h with ⟨-, h⟩ | ⟨h1, h2, h⟩ | ⟨-, -, -, h⟩
      · exact absurd h (by decide)
      · exact ⟨h1, h2⟩
      · exact absurd h (by decide)
    subst h3
    obtain ⟨n, hn, e0, e1, e2, e3⟩ := ins_n h1.1
    have h2 := h1.2
    rw [sdX_5] at h2
    refine ⟨2, by decide, h4, 3, _, by decide, c_X10_nameOf, fun v2 M2 hP => ?_⟩
    rcases hP with ⟨z, -⟩ | ⟨-, -, hv, hM⟩ | ⟨-, z, -⟩ | ⟨-, z, -⟩
    · rw [e3] at z; exact absurd z (nI_nm1 (by omega))
    · subst hM
      exact ⟨_, hv, rfl, no1 (by decide), Inv_sm (sm_tr (sm_cd _ _) (sm_cd _ _)) hI⟩
    · exact absurd (z.symm.trans h2) (by decide)
    · exact absurd (z.symm.trans h2) (by decide)
  · have h1 : insd x y z = true ∧ sdX s = true ∧ mkr (mL M bar) (mK M bar) (ntX x) (ntX y) (ntX z) (ntX s) < 0 := by
      rcases h with ⟨-, h⟩ | ⟨-, -, h⟩ | ⟨h1, h2, h5, -⟩
      · exact absurd h (by decide)
      · exact absurd h (by decide)
      · exact ⟨h1, h2, h5⟩
    subst h3
    obtain ⟨n, hn, e0, e1, e2, e3⟩ := ins_n h1.1
    obtain ⟨-, h2, h5⟩ := h1
    rw [sdX_5] at h2
    obtain ⟨k, hk, rfl⟩ := in5_n h2
    rw [e0, e1, e2, ntX_nI (by have := alN_lt hn 0; omega), ntX_nI (by have := alN_lt hn 1; omega), ntX_nI (by have := alN_lt hn 2; omega), ntX_nI (by omega), hmk n hn k hk] at h5
    refine ⟨3, by decide, h4, 3, _, by decide, c_X10_nameOf, fun v2 M2 hP => ?_⟩
    rw [e3, ntX_nI (by omega), ntX_nI (by omega)] at hP
    rcases hP with ⟨z, -⟩ | ⟨-, z, -⟩ | ⟨-, -, -, hv, hM⟩ | ⟨-, -, z, -⟩
    · exact absurd z (nI_nm1 (by omega))
    · exact absurd (h2.symm.trans z) (by decide)
    · subst hM
      exact ⟨_, hv, rfl, no1 (by decide), Inv_sm (sm_tr (sm_cd _ _) (sm_cd _ _)) hI⟩
    · exact absurd ((hng n hn k hk).mp h5) z
