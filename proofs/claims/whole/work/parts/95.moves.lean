/-! the cases of the law: parts added, frozen, dragged -/
theorem tiE_c {M M' : Mm} (h : mI M' 63 = mI M 63 ∧ mI M' 64 = mI M 64 ∧ mI M' 65 = mI M 65) (mc : Nat) (ax : Int32) (r : Nat → Int32) (p : Nat) : tiE M' mc ax r p = tiE M mc ax r p := by unfold tiE; rw [h.1, h.2.1, h.2.2]
theorem gv3 (x : Int32) : gvn x = inX x (-20) (nI 20) := rfl
theorem upd_at (f : Nat → Int32) (i : Nat) (v : Int32) (j : Nat) : upd f i v j = if j = i then v else f j := rfl
theorem fit_c {M M' : Mm} {mc pc : Nat} (h35 : mI M' 35 = mI M 35) (h36 : mI M' 36 = mI M 36) (h37 : mI M' 37 = mI M 37) (h38 : mI M' 38 = mI M 38) (hap : ∀ k, k < mc → apX (mI M' 34) (ntX (mI M 35 k)) (mI M 36 k) (mI M 37 k) = apX (mI M 34) (ntX (mI M 35 k)) (mI M 36 k) (mI M 37 k)) (h : fitX M mc = true) : fitX M' mc = true := by
  rw [fit_i] at *
  intro k hk
  rw [h35, h36, h37, h38, hap k hk]; exact h k hk
theorem IP_add {M M' : Mm} {pc mc : Nat} (q : IP M pc mc) (hpc : pc < 6) {x y z : Int32} (h5 : mI M' 5 2 = nI (pc + 1) ∧ mI M' 5 3 = mI M 5 3) (h12 : mI M' 12 27 = nI (pc + 1) ∧ mI M' 12 31 = mI M 12 31) (h34 : mI M' 34 = upd (upd (upd (mI M 34) (pc * 3) x) (pc * 3 + 1) y) (pc * 3 + 2) z) (h60 : mI M' 60 = upd (upd (upd (mI M 60) (3 * pc) x) (3 * pc + 1) y) (3 * pc + 2) z) (h61 : mI M' 61 = upd (mI M 61) pc (nI 0)) (h : ∀ t, t = 33 ∨ (35 ≤ t ∧ t ≤ 38) ∨ (62 ≤ t ∧ t ≤ 65) → mI M' t = mI M t) (hL : ∀ p, p < 6 → mL M' (19 + p) = mL M (19 + p)) : IP M' (pc + 1) mc := by
  obtain ⟨p1, p2, p3, p4, p5, p6, p7⟩ := q
  have e61 : ∀ p, p < 6 → mI M' 61 p = mI M 61 p := fun p hp => by
    rw [h61, upd_at]
    by_cases e : p = pc
    · rw [if_pos e, e, (p4 pc hpc).2.2 (Nat.le_refl _)]; rfl
    · rw [if_neg e]
  refine ⟨⟨h5.1, h12.1, by omega⟩, ⟨by rw [h5.2]; exact p2.1, by rw [h12.2]; exact p2.2.1, p2.2.2⟩, fun i hi => ?_, fun p hp => ?_, fun p hp hf n hn => ?_, fun k hk => ?_, ?_⟩
  · rw [h34, h60, Nat.mul_comm pc 3]
    simp only [upd_at, p3 i hi]
  · rw [h 33 (by omega), e61 p hp]
    exact ⟨(p4 p hp).1, (p4 p hp).2.1, fun z => (p4 p hp).2.2 (by omega)⟩
  · rw [e61 p hp] at hf
    rw [hL p hp, h 62 (by omega)]
    exact p5 p hp hf n hn
  · rw [h 35 (by omega), h 36 (by omega), h 37 (by omega), h 63 (by omega), h 64 (by omega), h 65 (by omega)]
    obtain ⟨e1, e2, e3, e4, ⟨p, hp, e5⟩, e6⟩ := p6 k hk
    exact ⟨e1, e2, e3, e4, ⟨p, by omega, e5⟩, e6.imp id fun ⟨r, hr, e⟩ => ⟨r, by omega, e⟩⟩
  · refine fit_c (pc := pc) (h 35 (by omega)) (h 36 (by omega)) (h 37 (by omega)) (h 38 (by omega)) (fun k hk => ?_) p7
    obtain ⟨e1, e2, e3, ⟨a, ha, e4⟩, ⟨p, hp, e5⟩, e6⟩ := p6 k hk
    have hm : ∀ r b, r < pc → b < 3 → mvX (mI M' 34) (nI r) b = mvX (mI M 34) (nI r) b := fun r b hr hb => by
      unfold mvX
      rw [if_neg (nI_nm1 (by omega)), if_neg (nI_nm1 (by omega)), ntX_nI (by omega), h34, upd_at, upd_at, upd_at, if_neg (by omega), if_neg (by omega), if_neg (by omega)]
    unfold apX
    rw [e1, e4, ntX_nI (by omega), e2, e5, e3, hm p a hp ha]
    rcases e6 with e6 | ⟨r, hr, e6⟩
    · rw [e6, mvX_m, mvX_m]
    · rw [e6, hm r a hr ha]
theorem sp_addPart {l : Launch} {E : Ev} (hl9 : l.stackTraces = false) : Sp_addPart l E Inv := by
  intro M x y z hI
  obtain ⟨g, cnt, bar, fr, pc, mc, q⟩ := id hI
  obtain ⟨p27, p6, p52⟩ := INV_27 q
  refine ⟨_, cw_addPart (by decide) (c_X9_addPart hl9 p52 p6) (fun N M' h => h.1.elim (fun h => Or.inl h.2) fun h => Or.inr h.2.2) (fun v M' h => ⟨_, h.2.2.1⟩), fun v M1 hK => ?_⟩
  rcases hK with ⟨w, M', ⟨h1, h2, hv1, hM1⟩, h4, h5⟩ | ⟨⟨h, h3⟩, h4⟩ | ⟨⟨h, h3⟩, h4⟩
  · have hw := vI hv1
    have e27 : mI M1 12 27 = nI pc := by rw [h5, hM1]; exact p27
    refine ⟨0, by decide, h4, 2, _, by decide, c_X10_addPart e27 p6, fun v2 M2 hP => ?_⟩
    rcases hP with ⟨z, -⟩ | ⟨-, z, -⟩ | ⟨-, -, hv2, hM⟩
    · exact absurd h1 z
    · omega
    · refine ⟨_, hv2, by rw [hM]; rfl, fun _ => ?_, ?_⟩
      · rw [hM, h5]
        show w.toInt64 = (nI pc).toInt64
        rw [hw]
      · subst hM h5 hM1
        refine ⟨g, cnt, bar, fr, pc + 1, mc, INV_pt (M := M) (fun t ht => ?_) (fun i hi => ?_) (fun _ _ => rfl) (fun _ _ => rfl) rfl rfl q (IP_add q.2.2.2.2.2.2 h2 ⟨rfl, rfl⟩ ⟨rfl, rfl⟩ rfl rfl rfl (fun t ht => ?_) fun _ _ => rfl)⟩
        · rw [mI_sI, if_neg (by omega), mI_sI, if_neg (by omega), mI_sI, if_neg (by omega), mI_sI, if_neg (by omega)]
          show mI (sI (sI M 34 _) 5 _) t = _
          rw [mI_sI, if_neg (by omega), mI_sI, if_neg (by omega)]
        · rcases hi with rfl | rfl | rfl
          · rfl
          · rfl
          · rfl
        · rw [mI_sI, if_neg (by omega), mI_sI, if_neg (by omega), mI_sI, if_neg (by omega), mI_sI, if_neg (by omega)]
          show mI (sI (sI M 34 _) 5 _) t = _
          rw [mI_sI, if_neg (by omega), mI_sI, if_neg (by omega)]
  · have h1 : ¬ (gvn x = true ∧ gvn y = true ∧ gvn z = true) := by
      rcases h with ⟨h, -⟩ | ⟨-, -, h⟩
      · exact h
      · exact absurd h (by decide)
    subst h3
    refine ⟨1, by decide, h4, 2, _, by decide, c_X10_addPart p27 p6, fun v2 M2 hP => ?_⟩
    rcases hP with ⟨-, hv2, hM⟩ | ⟨z, -⟩ | ⟨z, -⟩
    · subst hM
      exact ⟨_, hv2, rfl, no1 (by decide), Inv_sm (sm_tr (sm_cd _ _) (sm_cd _ _)) hI⟩
    · exact absurd z h1
    · exact absurd z h1
  · have h1 : (gvn x = true ∧ gvn y = true ∧ gvn z = true) ∧ ¬ pc < 6 := by
      rcases h with ⟨-, h⟩ | ⟨h1, h2, -⟩
      · exact absurd h (by decide)
      · exact ⟨h1, h2⟩
    subst h3
    refine ⟨2, by decide, h4, 2, _, by decide, c_X10_addPart p27 p6, fun v2 M2 hP => ?_⟩
    rcases hP with ⟨z, -⟩ | ⟨-, -, hv2, hM⟩ | ⟨-, z, -⟩
    · exact absurd h1.1 z
    · subst hM
      exact ⟨_, hv2, rfl, no1 (by decide), Inv_sm (sm_tr (sm_cd _ _) (sm_cd _ _)) hI⟩
    · have := h1.2; omega
theorem b01n {x : Int32} (h : x = 0 ∨ x = nI 1) : narrow .boolean (.int x) = .int x := by
  rcases h with rfl | rfl
  · rfl
  · rfl
theorem sp_freeze {l : Launch} {E : Ev} (hl9 : l.stackTraces = false) : Sp_freeze l E Inv := by
  intro M x b hI
  obtain ⟨g, cnt, bar, fr, pc, mc, q⟩ := id hI
  have hb := INV_b q
  obtain ⟨p27, p6, p52⟩ := INV_27 q
  have P := q.2.2.2.2.2.2
  have hz61 : ∀ p, p < 6 → narrow .boolean (.int (mI M 61 p)) = .int (mI M 61 p) := fun p hp => b01n (P.2.2.2.1 p hp).2.1
  have hz33 : ∀ p, p < 6 → narrow .boolean (.int (mI M 33 p)) = .int (mI M 33 p) := fun p hp => by rw [(P.2.2.2.1 p hp).1]; exact hz61 p hp
  refine ⟨_, cw_freeze (by decide) (c_X9_freeze hl9 p52 p6 q.1.2.2.1 hb.2.2.2 hz33) (fun N M' h => h.1.2) (fun v M' h => ⟨_, h.2.1⟩), fun v M1 hK => ?_⟩
  rcases hK with ⟨w, M', ⟨h1, hv1, hM1⟩, h4, h5⟩ | ⟨⟨⟨h1, -⟩, h3⟩, h4⟩
  · have hw := vI hv1
    obtain ⟨p, hp, rfl⟩ := prX_n p6 h1
    have hnt : ntX (nI p) = p := ntX_nI (by omega)
    rw [hnt] at hw hM1
    have e1 : ∀ t, ¬ t = 33 → mI M1 t = mI M t := fun t ht => by
      rw [h5, hM1]
      show mI (if b = true then _ else _) t = _
      split
      · show mI (sI M 33 _) t = _; rw [mI_sI, if_neg ht]
      · rw [mI_sI, if_neg ht]
    have e33 : mI M1 33 = upd (mI M 33) p (bI b) := by
      rw [h5, hM1]
      show mI (if b = true then _ else _) 33 = _
      split
      · show mI (sI M 33 (upd (mI M 33) p (bI b))) 33 = _
        rw [mI_sI, if_pos rfl]
      · rw [mI_sI, if_pos rfl]
    have eL : ∀ c, mL M1 c = if b = true ∧ c = 19 + p then mL M bar else mL M c := fun c => by
      rw [h5, hM1]
      show mL (if b = true then _ else _) c = _
      by_cases z : b = true
      · rw [if_pos z]
        show (if c = 19 + p then mL M bar else mL M c) = _
        by_cases y : c = 19 + p
        · rw [if_pos y, if_pos ⟨z, y⟩]
        · rw [if_neg y, if_neg fun u => y u.2]
      · rw [if_neg z, if_neg fun u => z u.1]; rfl
    have eK : ∀ c, mK M1 c = mK M c := fun c => by
      rw [h5, hM1]
      show mK (if b = true then _ else _) c = _
      split <;> rfl
    have eW : mW M1 0 = mW M 0 ∧ mW M1 1 = mW M 1 ∧ mW M1 2 = if w = 0 then 0 else 1 := by
      rw [h5, hM1]
      refine ⟨?_, ?_, rfl⟩
      · show mW (if b = true then _ else _) 0 = _
        split <;> rfl
      · show mW (if b = true then _ else _) 1 = _
        split <;> rfl
    refine ⟨0, by decide, h4, 3, _, by decide, c_X10_freeze (by rw [e1 12 (by decide)]; exact p27) p6 (by rw [e1 61 (by decide)]; exact hz61), fun v2 M2 hP => ?_⟩
    rw [e1 12 (by decide), e1 61 (by decide), p27, hnt] at hP
    rcases hP with ⟨z, -⟩ | ⟨-, hv2, hM⟩
    · rw [← prX_i _ p6, h1] at z; exact absurd z (by decide)
    · have f1 : ∀ t, ¬ (t = 12 ∨ t = 61 ∨ t = 62) → mI M2 t = mI M1 t := fun t ht => by
        rw [hM]
        unfold fzS
        rw [mI_sI, if_neg (by omega), mI_sI, if_neg (by omega), mI_sI, if_neg (by omega)]
      have f61 : mI M2 61 = upd (mI M 61) p (bI b) := by
        rw [hM]
        unfold fzS
        rw [mI_sI, if_neg (by decide), mI_sI, if_pos rfl, e1 61 (by decide)]
      have f62 : mI M2 62 = fzR (mI M 62) (mI M 54) b p 512 := by
        rw [hM]
        unfold fzS
        rw [mI_sI, if_pos rfl, e1 62 (by decide), e1 54 (by decide)]
      have f12 : ∀ i, ¬ i = 0 → mI M2 12 i = mI M 12 i := fun i hi => by
        rw [hM, ← e1 12 (by decide)]
        show upd (mI M1 12) 0 (nI 0) i = _
        rw [upd_at, if_neg hi]
      have fs : M2.2 = M1.2 := by rw [hM]; rfl
      have fL : ∀ c, mL M2 c = mL M1 c := fun c => by show M2.2.1 c = _; rw [fs]
      refine ⟨_, hv2, by rw [hM]; rfl, fun _ => ?_, ?_⟩
      · show M2.2.2.2.1 2 = _
        rw [fs]
        show mW M1 2 = _
        rw [eW.2.2, hw, (P.2.2.2.1 p (by omega)).1]
      · refine ⟨g, cnt, bar, fr, pc, mc, INV_pt (M := M) (fun t ht => ?_) (fun i hi => f12 i (by omega)) (fun c hc => ?_) (fun c hc => ?_) ?_ ?_ q ?_⟩
        · rw [f1 t (by omega), e1 t (by omega)]
        · rw [fL, eL, if_neg fun z => by have := z.2; omega]
        · show M2.2.2.1 c = _
          rw [fs]; exact eK c
        · show M2.2.2.2.1 0 = _
          rw [fs]; exact eW.1
        · show M2.2.2.2.1 1 = _
          rw [fs]; exact eW.2.1
        · obtain ⟨p1, p2, p3, p4, p5, p6', p7⟩ := P
          have g1 : ∀ t, ¬ (t = 12 ∨ t = 33 ∨ t = 61 ∨ t = 62) → mI M2 t = mI M t := fun t ht => by rw [f1 t (by omega), e1 t (by omega)]
          have g33 : mI M2 33 = upd (mI M 33) p (bI b) := by rw [f1 33 (by decide), e33]
          refine ⟨⟨by rw [g1 5 (by decide)]; exact p1.1, by rw [f12 27 (by decide)]; exact p1.2.1, p1.2.2⟩, ⟨by rw [g1 5 (by decide)]; exact p2.1, by rw [f12 31 (by decide)]; exact p2.2.1, p2.2.2⟩, by rw [g1 34 (by decide), g1 60 (by decide)]; exact p3, fun r hr => ?_, fun r hr hf n hn => ?_, ?_, ?_⟩
          · rw [g33, f61, upd_at, upd_at]
            by_cases e : r = p
            · rw [if_pos e, if_pos e]
              exact ⟨rfl, bI01 b, fun z => by omega⟩
            · rw [if_neg e, if_neg e]
              exact p4 r hr
          · rw [f61, upd_at] at hf
            rw [fL, eL, f62]
            unfold fzR
            by_cases e : r = p
            · rw [if_pos e] at hf
              have hbt := bI_ne.mp hf
              rw [if_pos ⟨hbt, by rw [e]⟩, if_pos (by rw [e]; omega), (INV_RB q).2.1 n hn, e, show 512 * p + n - 512 * p = n by omega]
              unfold rb fzv
              by_cases z : mI M 54 n = 0
              · rw [if_neg fun u => u.2 z, decide_eq_false fun u => u z]; rfl
              · rw [if_pos ⟨hbt, z⟩, decide_eq_true z]; rfl
            · rw [if_neg e] at hf
              rw [if_neg fun z => e (by have := z.2; omega), if_neg (by omega)]
              exact p5 r hr hf n hn
          · rw [g1 35 (by decide), g1 36 (by decide), g1 37 (by decide), g1 63 (by decide), g1 64 (by decide), g1 65 (by decide)]
            exact p6'
          · exact fit_c (pc := pc) (g1 35 (by decide)) (g1 36 (by decide)) (g1 37 (by decide)) (g1 38 (by decide)) (fun k _ => by rw [g1 34 (by decide)]) p7
  · subst h3
    rw [prX_i _ p6] at h1
    refine ⟨1, by decide, h4, 3, _, by decide, c_X10_freeze p27 p6 hz61, fun v2 M2 hP => ?_⟩
    rw [p27] at hP
    rcases hP with ⟨-, hv2, hM⟩ | ⟨z, -⟩
    · subst hM
      exact ⟨_, hv2, rfl, no1 (by decide), Inv_sm (sm_cd _ _) hI⟩
    · exact absurd (z.symm.trans h1) (by decide)
