/-! the cases of the law: parts -/
/-- a part's shape, in both -/
theorem INV_sh {M : Mm} {g cnt bar : Nat} {fr : Nat → Nat} {pc mc : Nat} (q : INV M g cnt bar fr pc mc) {p : Nat} (hp : p < 6) {n : Nat} (hn : n < 512) : cb (mL M (if mI M 33 p = 0 then bar else 19 + p)) n = hcX M p (nI n) := by
  obtain ⟨p1, p2, p3, p4, p5, -⟩ := q.2.2.2.2.2.2
  unfold hcX
  rw [if_neg (nI_nm1 (by omega)), (p4 p hp).1, ntX_nI (by omega)]
  by_cases e : mI M 61 p = 0
  · rw [if_pos e, if_pos e, (INV_RB q).2.1 n hn]; rfl
  · rw [if_neg e, if_neg e]; exact p5 p hp e n hn
theorem mv_eq {M : Mm} {g cnt bar : Nat} {fr : Nat → Nat} {pc mc : Nat} (q : INV M g cnt bar fr pc mc) {p : Nat} (hp : p < 6) {a : Nat} (ha : a < 3) : mvX (mI M 34) (nI p) a = mI M 60 (3 * p + a) := by
  unfold mvX
  rw [if_neg (nI_nm1 (by omega)), ntX_nI (by omega), q.2.2.2.2.2.2.2.2.1 _ (by omega), Nat.mul_comm p 3]
theorem cl_eq {M : Mm} {g cnt bar : Nat} {fr : Nat → Nat} {pc mc : Nat} (q : INV M g cnt bar fr pc mc) {p r : Nat} (hp : p < 6) (hr : r < 6) : csX (mL M (if mI M 33 p = 0 then bar else 19 + p)) (mL M (if mI M 33 r = 0 then bar else 19 + r)) (apX (mI M 34) 0 (nI p) (nI r)) (apX (mI M 34) 1 (nI p) (nI r)) (apX (mI M 34) 2 (nI p) (nI r)) = ctK (fun i => clP M p r i = true) 512 := by
  rw [csX_n, ctK_n]
  refine congrArg nI (fb_ct_cong fun n hn => ?_)
  have e1 : ∀ b : Bool, (!decide ((!b) = true)) = b := by decide
  unfold clP
  rw [e1]
  rw [INV_sh q hp hn]
  congr 1
  have ea : ∀ a, a < 3 → apX (mI M 34) a (nI p) (nI r) = mI M 60 (3 * p + a) - mI M 60 (3 * r + a) := fun a ha => by
    unfold apX
    rw [mv_eq q hp ha, mv_eq q hr ha]
  have ep : po n % 8 = n / 64 := by unfold po; omega
  have ep2 : po n / 8 = n / 8 % 8 := by unfold po; omega
  unfold tg6 clI
  rw [ea 0 (by decide), ea 1 (by decide), ea 2 (by decide), ep, ep2, al_0, al_1, al_2]
  generalize hc : clX (nI (n / 64) + (mI M 60 (3 * p + 0) - mI M 60 (3 * r + 0))) (nI (n / 8 % 8) + (mI M 60 (3 * p + 1) - mI M 60 (3 * r + 1))) (nI (n % 8) + (mI M 60 (3 * p + 2) - mI M 60 (3 * r + 2))) = c
  by_cases h : c = -1
  · rw [if_pos h, h]; rfl
  · rw [if_neg h]
    rw [← hc] at h
    obtain ⟨t, ht, e⟩ := clX_n h
    rw [hc] at e
    rw [e, ntX_nI (by omega)]
    exact INV_sh q hr ht
theorem INV_27 {M : Mm} {g cnt bar : Nat} {fr : Nat → Nat} {pc mc : Nat} (q : INV M g cnt bar fr pc mc) : mI M 12 27 = nI pc ∧ pc ≤ 6 ∧ mI M 5 2 = nI pc := ⟨q.2.2.2.2.2.2.1.2.1, q.2.2.2.2.2.2.1.2.2, q.2.2.2.2.2.2.1.1⟩
theorem sp_clashes {l : Launch} {E : Ev} (hl9 : l.stackTraces = false) : Sp_clashes l E Inv := by
  intro M x y hI
  obtain ⟨g, cnt, bar, fr, pc, mc, q⟩ := id hI
  have hb := INV_b q
  obtain ⟨p27, p6, p52⟩ := INV_27 q
  refine ⟨_, cw_clashes (by decide) (c_X9_clashes hl9 p52 p6 q.1.2.2.1 hb.2.2.2) (fun N M' h => h.1.elim (fun h => Or.inl h.2) fun h => Or.inr h.2.2) (fun v M' h => ⟨_, h.2.2.1⟩), fun v M1 hK => ?_⟩
  rcases hK with ⟨w, M', ⟨h1, h2, hv1, hM1⟩, h4, h5⟩ | ⟨⟨h, h3⟩, h4⟩ | ⟨⟨h, h3⟩, h4⟩
  · subst hM1 h5
    have hw := vI hv1
    obtain ⟨p, hp, rfl⟩ := prX_n p6 h1.1
    obtain ⟨r, hr, rfl⟩ := prX_n p6 h1.2
    have h1' : inX (nI p) (nI 0) (nI pc - nI 1) = true ∧ inX (nI r) (nI 0) (nI pc - nI 1) = true := by rw [← prX_i _ p6, ← prX_i _ p6]; exact h1
    rw [ntX_nI (by omega), ntX_nI (by omega), cl_eq q (by omega) (by omega)] at hw
    refine ⟨0, by decide, h4, 3, _, by decide, c_X10_clashes (M := sW M' 2 w.toInt64) p27 p6, fun v2 M2 hP => ?_⟩
    rw [show mI (sW M' 2 w.toInt64) 12 27 = nI pc from p27] at hP
    rcases hP with ⟨z, -⟩ | ⟨-, z, -⟩ | ⟨-, -, p', r', hp', hr', e1, e2, hv2, hM⟩
    · exact absurd h1' z
    · exact absurd z h2
    · subst hM
      have e1 := (nI_eq (by omega) (by omega)).mp e1
      have e2 := (nI_eq (by omega) (by omega)).mp e2
      subst e1 e2
      refine ⟨_, hv2, rfl, fun _ => ?_, Inv_sm (sm_tr (sm_W _ _) (sm_cd _ _)) hI⟩
      show w.toInt64 = (ctK (fun i => clP M' p r i = true) 512).toInt64
      rw [hw]
  · have h1 : ¬ (prX (nI pc) x = true ∧ prX (nI pc) y = true) := by
      rcases h with ⟨h, -⟩ | ⟨-, -, h⟩
      · exact h
      · exact absurd h (by decide)
    rw [prX_i _ p6, prX_i _ p6] at h1
    subst h3
    refine ⟨1, by decide, h4, 3, _, by decide, c_X10_clashes p27 p6, fun v2 M2 hP => ?_⟩
    rw [p27] at hP
    rcases hP with ⟨-, hv2, hM⟩ | ⟨z, -⟩ | ⟨z, -⟩
    · subst hM
      exact ⟨_, hv2, rfl, no1 (by decide), Inv_sm (sm_tr (sm_cd _ _) (sm_cd _ _)) hI⟩
    · exact absurd z h1
    · exact absurd z h1
  · have h1 : (prX (nI pc) x = true ∧ prX (nI pc) y = true) ∧ x = y := by
      rcases h with ⟨-, h⟩ | ⟨h1, h2, -⟩
      · exact absurd h (by decide)
      · exact ⟨h1, h2⟩
    rw [prX_i _ p6, prX_i _ p6] at h1
    subst h3
    refine ⟨2, by decide, h4, 3, _, by decide, c_X10_clashes p27 p6, fun v2 M2 hP => ?_⟩
    rw [p27] at hP
    rcases hP with ⟨z, -⟩ | ⟨-, -, hv2, hM⟩ | ⟨-, z, -⟩
    · exact absurd h1.1 z
    · subst hM
      exact ⟨_, hv2, rfl, no1 (by decide), Inv_sm (sm_tr (sm_cd _ _) (sm_cd _ _)) hI⟩
    · exact absurd h1.2 z
