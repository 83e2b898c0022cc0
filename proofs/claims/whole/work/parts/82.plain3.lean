/-! the cases of the law, third: measures -/
theorem sp_squares {l : Launch} {E : Ev} (hl9 : l.stackTraces = false) : Sp_squares l E Inv := by
  intro M x y hI
  obtain ⟨g, cnt, bar, fr, pc, mc, q⟩ := id hI
  have hb := INV_b q
  have h40 : ∀ x : Int32, (¬ x < 0 ∧ ¬ nI 40 ≤ x) ↔ inX x (nI 0) (nI 39) = true := fun x => by
    have e : decide (¬ x < 0 ∧ ¬ nI 40 ≤ x) = inX x (nI 0) (nI 39) := rgX x (n := 39) (by decide)
    rw [← e, decide_eq_true_iff]
  refine ⟨_, cw_squares (by decide) (c_X9_squares hl9 q.1.2.2.1 hb.2.2.2) (fun N M' h => h.2.1) (fun v M' h => ⟨_, h.2.1⟩), fun v M1 hK => ?_⟩
  rcases hK with ⟨w, M', ⟨⟨h1, h2, h3⟩, hv1, hM1⟩, h4, h5⟩ | ⟨⟨h1, -, h3⟩, h4⟩
  · have hw := vI hv1
    rw [sdX_5] at h3
    obtain ⟨s, hs, rfl⟩ := in5_n h3
    have hx := (h40 x).mp ⟨h1, h2⟩
    have hx1 : ¬ x = -1 := fun z => h1 (by rw [z]; decide)
    have e := sqs_eq (INV_RB q) hx1 hs
    refine ⟨0, by decide, h4, 2, _, by decide, c_X10_squares, fun v2 M2 hP => ?_⟩
    rcases hP with ⟨z, -⟩ | ⟨-, -, hv, hM⟩
    · exact absurd ⟨hx, h3⟩ z
    · subst hM
      refine ⟨_, hv, rfl, fun _ => ?_, ?_⟩
      · rw [h5, hM1, ntX_nI (by omega), hw]
        show (smI (fun z => bcl (chA (mL M bar) (mK M bar) x (nI s) z)) 8).toInt64 = (ctK (fun i => ¬ mI M 56 (6 * i + s) = x) 512).toInt64
        rw [e]
      · rw [h5, hM1]
        exact Inv_sm (sm_tr (sm_L (by decide) _) (sm_tr (sm_W _ _) (sm_cd _ _))) hI
  · subst h3
    refine ⟨1, by decide, h4, 2, _, by decide, c_X10_squares, fun v2 M2 hP => ?_⟩
    rcases hP with ⟨-, hv, hM⟩ | ⟨z1, z2, -⟩
    · subst hM
      exact ⟨_, hv, rfl, no1 (by decide), Inv_sm (sm_tr (sm_cd _ _) (sm_cd _ _)) hI⟩
    · exact absurd ⟨((h40 x).mpr z1).1, ((h40 x).mpr z1).2, by rw [sdX_5]; exact z2⟩ h1
theorem sp_volume {l : Launch} {E : Ev} : Sp_volume l E Inv := by
  intro M hI
  obtain ⟨g, cnt, bar, fr, pc, mc, q⟩ := id hI
  refine ⟨5, _, by decide, c_X9_volume q.1.2.2.1 (INV_b q).2.2.2, fun v M1 hP => ⟨_, hP.1, 1, _, by decide, c_X10_volume, fun v2 M2 hP2 => ?_⟩⟩
  obtain ⟨-, h⟩ := hP
  obtain ⟨h1, h2⟩ := hP2
  subst h h2
  exact ⟨by rw [h1, vol_eq (INV_RB q)], Inv_sm (sm_cd _ _) hI⟩
theorem sp_area {l : Launch} {E : Ev} : Sp_area l E Inv := by
  intro M hI
  obtain ⟨g, cnt, bar, fr, pc, mc, q⟩ := id hI
  refine ⟨5, _, by decide, c_X9_area q.1.2.2.1 (INV_b q).2.2.2, fun v M1 hP => ⟨_, hP.1, 1, _, by decide, c_X10_area, fun v2 M2 hP2 => ?_⟩⟩
  obtain ⟨-, h⟩ := hP
  obtain ⟨h1, h2⟩ := hP2
  subst h h2
  exact ⟨by rw [h1, area_eq (INV_RB q)], Inv_sm (sm_cd _ _) hI⟩
theorem sp_bodies {l : Launch} {E : Ev} : Sp_bodies l E Inv := by
  intro M hI
  obtain ⟨g, cnt, bar, fr, pc, mc, q⟩ := id hI
  refine ⟨5, _, by decide, c_X9_bodies q.1.2.2.1 (INV_b q).2.2.2, fun v M1 hP => ?_⟩
  obtain ⟨h, R, P, hM⟩ := hP
  subst hM
  refine ⟨_, h, 6, _, by decide, c_X10_bodies (M := sL (sL M 17 R) 18 P) (INV_RB q).1, fun v2 M2 hP2 => ?_⟩
  obtain ⟨h1, h2⟩ := hP2
  refine ⟨?_, Inv_sm (sm_tr (sm_L (by decide) _) (sm_tr (sm_L (by decide) _) (sm_tr (sm_cd _ _) (fr_sm h2 (fun t ht => by unfold scr; omega))))) hI⟩
  rw [h1, pcX_npc]
  show some (Value.int (nI (npc fun y => ¬ mI M 54 y = 0))) = _
  rw [npc_ex (S' := fun n => cb (mL M bar) n = true) fun n hn => by rw [(INV_RB q).2.1 n hn]; exact decide_eq_true_iff.symm]
theorem sp_freedoms {l : Launch} {E : Ev} : Sp_freedoms l E Inv := by
  intro M hI
  obtain ⟨g, cnt, bar, fr, pc, mc, q⟩ := id hI
  refine ⟨1, _, by decide, c_X9_freedoms, fun v M1 hP => ⟨_, hP.1, 1, _, by decide, c_X10_freedoms, fun v2 M2 hP2 => ?_⟩⟩
  obtain ⟨-, h⟩ := hP
  obtain ⟨h1, h2⟩ := hP2
  subst h h2
  have p := q.2.2.2.2.2.2
  exact ⟨by rw [h1, p.1.1, p.1.2.1, p.2.1.1, p.2.1.2.1], Inv_sm (sm_cd _ _) hI⟩
theorem sp_moved {l : Launch} {E : Ev} (hl9 : l.stackTraces = false) : Sp_moved l E Inv := by
  intro M x y hI
  obtain ⟨g, cnt, bar, fr, pc, mc, q⟩ := id hI
  have p := q.2.2.2.2.2.2
  have e27 : ∀ M1, sm M M1 → mI M1 12 27 = nI pc := fun M1 h => by rw [h.2.1 27 (by omega)]; exact p.1.2.1
  refine ⟨_, cw_moved (by decide) (c_X9_moved hl9 p.1.1 p.1.2.2) (fun N M' h => h.1.elim (fun h => Or.inl h.2) fun h => Or.inr h.2.2) (fun v M' h => ⟨_, h.2.2.1⟩), fun v M1 hK => ?_⟩
  rcases hK with ⟨w, M', ⟨h1, h2, hv1, hM1⟩, h4, h5⟩ | ⟨⟨h, h3⟩, h4⟩ | ⟨⟨h, h3⟩, h4⟩
  · subst hM1 h5
    have hw := vI hv1
    rw [prX_i x p.1.2.2] at h1
    rw [axX_2] at h2
    obtain ⟨a, ha, rfl⟩ := in2_n h2
    obtain ⟨k, hk, rfl⟩ := prX_n p.1.2.2 (by rw [prX_i x p.1.2.2]; exact h1)
    refine ⟨0, by decide, h4, 3, _, by decide, c_X10_moved (e27 _ (sm_W _ _)) p.1.2.2, fun v2 M2 hP => ?_⟩
    rw [e27 _ (sm_W _ _)] at hP
    rcases hP with ⟨z, -⟩ | ⟨-, z, -⟩ | ⟨-, -, hv, hM⟩
    · exact absurd (h1.symm.trans z) (by decide)
    · exact absurd (h2.symm.trans z) (by decide)
    · subst hM
      refine ⟨_, hv, rfl, fun _ => ?_, Inv_sm (sm_tr (sm_W _ _) (sm_cd _ _)) hI⟩
      show w.toInt64 = (mI M' 60 (3 * ntX (nI k) + ntX (nI a))).toInt64
      have hk6 := p.1.2.2
      rw [hw]
      unfold mvX
      rw [if_neg (nI_nm1 (by omega)), ntX_nI (by omega), ntX_nI (by omega), p.2.2.1 _ (by omega), Nat.mul_comm k 3]
  · have h1 : prX (nI pc) x = false := by
      rcases h with ⟨h, -⟩ | ⟨-, -, h⟩
      · exact h
      · exact absurd h (by decide)
    subst h3
    rw [prX_i x p.1.2.2] at h1
    refine ⟨1, by decide, h4, 3, _, by decide, c_X10_moved p.1.2.1 p.1.2.2, fun v2 M2 hP => ?_⟩
    rw [p.1.2.1] at hP
    rcases hP with ⟨-, hv, hM⟩ | ⟨z, -⟩ | ⟨z, -⟩
    · subst hM
      exact ⟨_, hv, rfl, no1 (by decide), Inv_sm (sm_tr (sm_cd _ _) (sm_cd _ _)) hI⟩
    · exact absurd (z.symm.trans h1) (by decide)
    · exact absurd (z.symm.trans h1) (by decide)
  · have h1 : prX (nI pc) x = true ∧ axX y = false := by
      rcases h with ⟨-, h⟩ | ⟨h1, h2, h⟩
      · exact absurd h (by decide)
      · exact ⟨h1, h2⟩
    subst h3
    rw [prX_i x p.1.2.2, axX_2] at h1
    refine ⟨2, by decide, h4, 3, _, by decide, c_X10_moved p.1.2.1 p.1.2.2, fun v2 M2 hP => ?_⟩
    rw [p.1.2.1] at hP
    rcases hP with ⟨z, -⟩ | ⟨-, -, hv, hM⟩ | ⟨-, z, -⟩
    · exact absurd (h1.1.symm.trans z) (by decide)
    · subst hM
      exact ⟨_, hv, rfl, no1 (by decide), Inv_sm (sm_tr (sm_cd _ _) (sm_cd _ _)) hI⟩
    · exact absurd (z.symm.trans h1.2) (by decide)
