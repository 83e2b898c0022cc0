/-! the cases of the law: drags and mates -/
theorem IP_mv {M M' : Mm} {pc mc : Nat} (q : IP M pc mc) (h5 : mI M' 5 = mI M 5) (h27 : mI M' 12 27 = mI M 12 27) (h31 : mI M' 12 31 = mI M 12 31) (h : ∀ t, (33 ≤ t ∧ t ≤ 38 ∧ ¬ t = 34) ∨ (61 ≤ t ∧ t ≤ 65) → mI M' t = mI M t) (hL : ∀ p, p < 6 → mL M' (19 + p) = mL M (19 + p)) (he : ∀ i, i < 18 → mI M' 34 i = mI M' 60 i) (hf : ∀ k, k < mc → apX (mI M' 34) (ntX (mI M 35 k)) (mI M 36 k) (mI M 37 k) = mI M 38 k) : IP M' pc mc := by
  obtain ⟨q1, q2, q3, q4, q5, q6, q7⟩ := q
  refine ⟨by rw [h5, h27]; exact q1, by rw [h5, h31]; exact q2, he, by rw [h 33 (by omega), h 61 (by omega)]; exact q4, fun p hp => by rw [hL p hp, h 61 (by omega), h 62 (by omega)]; exact q5 p hp, by rw [h 35 (by omega), h 36 (by omega), h 37 (by omega), h 63 (by omega), h 64 (by omega), h 65 (by omega)]; exact q6, ?_⟩
  rw [fit_i, h 35 (by omega), h 36 (by omega), h 37 (by omega), h 38 (by omega)]
  exact hf
theorem IP_new {M M' : Mm} {pc mc a p : Nat} {y d : Int32} (q : IP M pc mc) (hmc : mc < 12) (ha : a < 3) (hp : p < pc) (hy : y = -1 ∨ ∃ r, r < pc ∧ y = nI r) (h5 : mI M' 5 2 = mI M 5 2 ∧ mI M' 5 3 = nI (mc + 1)) (h27 : mI M' 12 27 = mI M 12 27) (h31 : mI M' 12 31 = nI (mc + 1)) (h35 : mI M' 35 = upd (mI M 35) mc (nI a)) (h36 : mI M' 36 = upd (mI M 36) mc (nI p)) (h37 : mI M' 37 = upd (mI M 37) mc y) (h38 : mI M' 38 = upd (mI M 38) mc d) (h63 : mI M' 63 = upd (mI M 63) mc (nI a)) (h64 : mI M' 64 = upd (mI M 64) mc (nI p)) (h65 : mI M' 65 = upd (mI M 65) mc y) (h33 : mI M' 33 = mI M 33) (h61 : mI M' 61 = mI M 61) (h62 : mI M' 62 = mI M 62) (hL : ∀ p, p < 6 → mL M' (19 + p) = mL M (19 + p)) (he : ∀ i, i < 18 → mI M' 34 i = mI M' 60 i) (hf : ∀ k, k < mc → apX (mI M' 34) (ntX (mI M 35 k)) (mI M 36 k) (mI M 37 k) = mI M 38 k) (hn : apX (mI M' 34) a (nI p) y = d) : IP M' pc (mc + 1) := by
  obtain ⟨q1, q2, q3, q4, q5, q6, q7⟩ := q
  have u : ∀ (f : Nat → Int32) (v : Int32) k, k < mc → upd f mc v k = f k := fun f v k hk => by rw [upd_at, if_neg (by omega)]
  have w : ∀ (f : Nat → Int32) (v : Int32), upd f mc v mc = v := fun f v => by rw [upd_at, if_pos rfl]
  refine ⟨by rw [h5.1, h27]; exact q1, ⟨h5.2, h31, by omega⟩, he, by rw [h33, h61]; exact q4, fun p hp => by rw [hL p hp, h61, h62]; exact q5 p hp, fun k hk => ?_, ?_⟩
  · rw [h35, h36, h37, h63, h64, h65]
    by_cases e : k = mc
    · rw [e, w, w, w, w, w, w]
      exact ⟨rfl, rfl, rfl, ⟨a, ha, rfl⟩, ⟨p, hp, rfl⟩, hy⟩
    · have hk : k < mc := by omega
      rw [u _ _ k hk, u _ _ k hk, u _ _ k hk, u _ _ k hk, u _ _ k hk, u _ _ k hk]
      exact q6 k hk
  · rw [fit_i]
    intro k hk
    rw [h35, h36, h37, h38]
    by_cases e : k = mc
    · rw [e, w, w, w, w, ntX_nI (by omega)]; exact hn
    · have hk : k < mc := by omega
      rw [u _ _ k hk, u _ _ k hk, u _ _ k hk, u _ _ k hk]; exact hf k hk
theorem tiE_in {M : Mm} {pc mc : Nat} (q : IP M pc mc) {ax : Int32} {r : Nat → Int32} {p : Nat} (hp : p < 6) {S : Nat → Prop} (hS : cls (mI M 63) (mI M 64) (mI M 65) ax mc S) (h : S p) : ∀ e, e < 7 → onT (tiE M mc ax r p) e → S e := by
  obtain ⟨hm, -, -⟩ := IP_mt q
  intro e he ht
  refine tiR_in (S := fun e => e < 7 → S e) hm (fun k hk hA => ?_) (fun e2 h2 h7 => ?_) 12 e ht he
  · have h7 := tg7 (hm k hk)
    exact ⟨fun z _ => (hS k hk hA).mp (z h7.1), fun z _ => (hS k hk hA).mpr (z h7.2)⟩
  · have h2 : ¬ st0 r p e2 = 0 := h2
    unfold st0 at h2
    rw [cpR_lt _ _ h7] at h2
    by_cases z : e2 = p
    · rw [z]; exact h
    · rw [if_neg z] at h2; exact absurd rfl h2
theorem sp_drag {l : Launch} {E : Ev} (hl9 : l.stackTraces = false) : Sp_drag l E Inv := by
  intro M x y w hI
  obtain ⟨g, cnt, bar, fr, pc, mc, q⟩ := id hI
  obtain ⟨p27, p6, p52⟩ := INV_27 q
  have P := q.2.2.2.2.2.2
  obtain ⟨-, hmt, -⟩ := IP_mt P
  refine ⟨_, cw_drag (by decide) (c_X9_drag hl9 p52 p6 P.2.1.1 P.2.1.2.2) (fun N M' h => h.1.elim (fun h => Or.inl h.2) fun h => Or.inr (h.elim (fun h => Or.inl h.2.2) fun h => Or.inr h.2.2.2)) (fun v M' h => ⟨_, h.2.2.2.1⟩), fun v M1 hK => ?_⟩
  rcases hK with ⟨u, M', ⟨h1, h2, h3, hv1, hM1⟩, h4, h5⟩ | ⟨⟨h, h3⟩, h4⟩ | ⟨⟨h, h3⟩, h4⟩ | ⟨⟨h, h3⟩, h4⟩
  · have hu := vI hv1
    obtain ⟨p, hp, rfl⟩ := prX_n p6 h1
    have h2a := h2.1
    rw [axX_2] at h2a
    obtain ⟨a, ha, rfl⟩ := in2_n h2a
    have hG := grp_E P (show p < 6 by omega) (nI a) (mI M 66)
    have h6 : tiE M mc (nI a) (mI M 66) p 6 = 0 := Classical.byContradiction fun z => by
      have := (td_T P (show p < 6 by omega) (nI a) (mI M 66) (y := -1) (Or.inl rfl)).mpr z
      rw [h3] at this; exact absurd this (by decide)
    rw [ntX_nI (show a < 2 ^ 31 by omega)] at hM1
    have e1 : ∀ t, ¬ t = 34 → mI M1 t = mI M t := fun t ht => by
      rw [h5, hM1]
      show mI (sI M 34 (slM (mI M 34) a (grp M mc (nI a) (nI p)) w pc)) t = _
      rw [mI_sI, if_neg ht]
    have e34 : mI M1 34 = slM (mI M 34) a (grp M mc (nI a) (nI p)) w pc := by
      rw [h5, hM1]
      show mI (sI M 34 (slM (mI M 34) a (grp M mc (nI a) (nI p)) w pc)) 34 = _
      rw [mI_sI, if_pos rfl]
    have es : M1.2 = (sW M 2 u.toInt64).2 := by rw [h5, hM1]; rfl
    refine ⟨0, by decide, h4, 3, _, by decide, c_X10_drag (by rw [e1 12 (by decide)]; exact p27) p6 (by rw [e1 12 (by decide)]; exact P.2.1.2.1) P.2.1.2.2 (by unfold mtP; rw [e1 64 (by decide), e1 65 (by decide)]; exact hmt), fun v2 M2 hP => ?_⟩
    rw [e1 12 (by decide), e1 66 (by decide), e1 60 (by decide), p27] at hP
    simp only [tiE_c (M := M) (M' := M1) ⟨e1 63 (by decide), e1 64 (by decide), e1 65 (by decide)⟩] at hP
    have key : ∀ M2 : Mm, M2.2 = M1.2 → (∀ t, ¬ (t = 12 ∨ t = 60 ∨ t = 66) → mI M2 t = mI M1 t) → (∀ i, ¬ i = 0 → mI M2 12 i = mI M 12 i) → (∀ i, i < 18 → mI M2 60 i = smR (mI M 60) (tiE M mc (nI a) (mI M 66) p) a w pc i) → Inv M2 := fun M2 f0 f1 f12 f60 => by
      have f34 : mI M2 34 = slM (mI M 34) a (grp M mc (nI a) (nI p)) w pc := by rw [f1 34 (by decide), e34]
      refine ⟨g, cnt, bar, fr, pc, mc, INV_pt (M := M) (fun t ht => by rw [f1 t (by omega), e1 t (by omega)]) (fun i hi => f12 i (by omega)) (fun c _ => by show M2.2.1 c = _; rw [f0, es]; rfl) (fun c _ => by show M2.2.2.1 c = _; rw [f0, es]; rfl) (by show M2.2.2.2.1 0 = _; rw [f0, es]; rfl) (by show M2.2.2.2.1 1 = _; rw [f0, es]; rfl) q (IP_mv P (by rw [f1 5 (by decide), e1 5 (by decide)]) (f12 27 (by decide)) (f12 31 (by decide)) (fun t ht => by rw [f1 t (by omega), e1 t (by omega)]) (fun c _ => by show M2.2.1 _ = _; rw [f0, es]; rfl) (fun i hi => ?_) ?_)⟩
      · rw [f34, f60 i hi]
        exact sl_eq p6 hG.1 P.2.2.1 i hi
      · rw [f34]
        exact fit_sl P hG.1 h6 hG.2.1 ha
    rcases hP with ⟨z, -⟩ | ⟨-, z, -⟩ | ⟨-, -, p', a', hp', ha', ep, ea, hP⟩
    · rw [← prX_i _ p6, h1] at z; exact absurd z (by decide)
    · exact absurd ⟨h2a, h2.2⟩ z
    · have ep := (nI_eq (by omega) (by omega)).mp ep
      have ea := (nI_eq (by omega) (by omega)).mp ea
      subst ep ea
      rcases hP with ⟨z, -⟩ | ⟨-, hw0, hv2, hM⟩ | ⟨-, hw0, hv2, hM⟩
      · exact absurd h6 z
      · refine ⟨_, hv2, by rw [hM]; rfl, fun _ => ?_, key M2 (by rw [hM]; rfl) (fun t ht => by rw [hM, mI_sI, if_neg (by omega), mI_sI, if_neg (by omega)]) (fun i hi => ?_) (fun i hi => ?_)⟩
        · show M2.2.2.2.1 2 = _
          rw [hM]
          show M1.2.2.2.1 2 = _
          rw [es]
          show u.toInt64 = _
          rw [hu, if_pos hw0]
        · rw [hM]
          show upd (mI M1 12) 0 (nI 0) i = _
          rw [upd_at, if_neg hi, e1 12 (by decide)]
        · rw [hM]
          show mI M1 60 i = _
          rw [e1 60 (by decide), hw0]
          unfold smR
          split
          · exact (Int32.add_zero _).symm
          · rfl
      · refine ⟨_, hv2, by rw [hM]; rfl, fun _ => ?_, key M2 (by rw [hM]; rfl) (fun t ht => by rw [hM, mI_sI, if_neg (by omega), mI_sI, if_neg (by omega), mI_sI, if_neg (by omega)]) (fun i hi => ?_) (fun i hi => ?_)⟩
        · show M2.2.2.2.1 2 = _
          rw [hM]
          show M1.2.2.2.1 2 = _
          rw [es]
          show u.toInt64 = _
          rw [hu, if_neg hw0, slN_n hG.1 pc p6]
        · rw [hM]
          show upd (mI M1 12) 0 (nI 0) i = _
          rw [upd_at, if_neg hi, e1 12 (by decide)]
        · rw [hM, mI_sI, if_pos rfl]
  · have h1 : prX (nI pc) x = false := by
      rcases h with ⟨h, -⟩ | ⟨-, -, h⟩ | ⟨-, -, -, h⟩
      · exact h
      · exact absurd h (by decide)
      · exact absurd h (by decide)
    subst h3
    rw [prX_i _ p6] at h1
    refine ⟨1, by decide, h4, 3, _, by decide, c_X10_drag p27 p6 P.2.1.2.1 P.2.1.2.2 hmt, fun v2 M2 hP => ?_⟩
    rw [p27] at hP
    rcases hP with ⟨-, hv2, hM⟩ | ⟨z, -⟩ | ⟨z, -⟩
    · subst hM
      exact ⟨_, hv2, rfl, no1 (by decide), Inv_sm (sm_tr (sm_cd _ _) (sm_cd _ _)) hI⟩
    · exact absurd (z.symm.trans h1) (by decide)
    · exact absurd (z.symm.trans h1) (by decide)
  · have h1 : prX (nI pc) x = true ∧ ¬ (axX y = true ∧ gvn w = true) := by
      rcases h with ⟨-, h⟩ | ⟨h1, h2, h⟩ | ⟨-, -, -, h⟩
      · exact absurd h (by decide)
      · exact ⟨h1, h2⟩
      · exact absurd h (by decide)
    subst h3
    rw [prX_i _ p6, axX_2] at h1
    refine ⟨2, by decide, h4, 3, _, by decide, c_X10_drag p27 p6 P.2.1.2.1 P.2.1.2.2 hmt, fun v2 M2 hP => ?_⟩
    rw [p27] at hP
    rcases hP with ⟨z, -⟩ | ⟨-, -, hv2, hM⟩ | ⟨-, z, -⟩
    · exact absurd (h1.1.symm.trans z) (by decide)
    · subst hM
      exact ⟨_, hv2, rfl, no1 (by decide), Inv_sm (sm_tr (sm_cd _ _) (sm_cd _ _)) hI⟩
    · exact absurd z h1.2
  · have h1 : prX (nI pc) x = true ∧ (axX y = true ∧ gvn w = true) ∧ tdX M1 mc y x (-1) = true := by
      subst h3
      rcases h with ⟨-, h⟩ | ⟨-, -, h⟩ | ⟨h1, h2, h, -⟩
      · exact absurd h (by decide)
      · exact absurd h (by decide)
      · exact ⟨h1, h2, h⟩
    subst h3
    obtain ⟨h1, h2, h3⟩ := h1
    obtain ⟨p, hp, rfl⟩ := prX_n p6 h1
    have h2a := h2.1
    rw [axX_2] at h2a
    obtain ⟨a, ha, rfl⟩ := in2_n h2a
    have h6 := (td_T P (show p < 6 by omega) (nI a) (mI M1 66) (y := -1) (Or.inl rfl)).mp h3
    refine ⟨3, by decide, h4, 3, _, by decide, c_X10_drag p27 p6 P.2.1.2.1 P.2.1.2.2 hmt, fun v2 M2 hP => ?_⟩
    rw [p27] at hP
    rcases hP with ⟨z, -⟩ | ⟨-, z, -⟩ | ⟨-, -, p', a', hp', ha', ep, ea, hP⟩
    · rw [← prX_i _ p6, h1] at z; exact absurd z (by decide)
    · exact absurd ⟨h2a, h2.2⟩ z
    · have ep := (nI_eq (by omega) (by omega)).mp ep
      have ea := (nI_eq (by omega) (by omega)).mp ea
      subst ep ea
      rcases hP with ⟨-, hv2, hM⟩ | ⟨z, -⟩ | ⟨z, -⟩
      · subst hM
        exact ⟨_, hv2, rfl, no1 (by decide), Inv_sm (sm_tr (sm_cd _ _) (sm_tr (sm_I (by decide) (by decide) _) (sm_cd _ _))) hI⟩
      · exact absurd z h6
      · exact absurd z h6
