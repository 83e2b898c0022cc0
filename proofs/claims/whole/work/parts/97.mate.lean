/-! the cases of the law: mates -/
theorem may_eq (A B d : Int32) : d + B - A = d - (A - B) := by
  simp only [Int32.sub_eq_add_neg, Int32.neg_add, Int32.neg_neg]
  ac_rfl
theorem fit_n1 (A B d : Int32) : (A + (d - (A - B))) - B = d := by
  have : (A + (d - (A - B))) - B = d + (A + -A) + (B + -B) := by
    simp only [Int32.sub_eq_add_neg, Int32.neg_add, Int32.neg_neg]
    ac_rfl
  rw [this, Int32.add_right_neg, Int32.add_right_neg, Int32.add_zero, Int32.add_zero]
theorem fit_n2 (A B d : Int32) : A - (B + -(d - (A - B))) = d := by
  have : A - (B + -(d - (A - B))) = d + (A + -A) + (B + -B) := by
    simp only [Int32.sub_eq_add_neg, Int32.neg_add, Int32.neg_neg]
    ac_rfl
  rw [this, Int32.add_right_neg, Int32.add_right_neg, Int32.add_zero, Int32.add_zero]
theorem fit_n0 {A B d : Int32} (h : d - (A - B) = 0) : A - B = d := by
  have e : d = (d - (A - B)) + (A - B) := (Int32.sub_add_cancel d (A - B)).symm
  rw [e, h, Int32.zero_add]
theorem neg_z {x : Int32} : -x = 0 ↔ x = 0 := by
  constructor
  · intro h
    have e : x = - -x := Int32.neg_neg.symm
    rw [e, h]; rfl
  · intro h; rw [h]; rfl
theorem sp_mate {l : Launch} {E : Ev} (hl9 : l.stackTraces = false) : Sp_mate l E Inv := by
  intro M ax x y d hI
  obtain ⟨g, cnt, bar, fr, pc, mc, q⟩ := id hI
  obtain ⟨p27, p6, p52⟩ := INV_27 q
  have P := q.2.2.2.2.2.2
  obtain ⟨-, hmt, -⟩ := IP_mt P
  have hxy : (prX (nI pc) x = true ∧ (prX (nI pc) y = true ∨ y = -1)) ↔ (inX x (nI 0) (nI pc - nI 1) = true ∧ (y = -1 ∨ inX y (nI 0) (nI pc - nI 1) = true)) := by
    rw [prX_i _ p6, prX_i _ p6]
    exact and_congr Iff.rfl or_comm
  have hax : (axX ax = true ∧ ¬ x = y ∧ gvn d = true) ↔ (in2 ax = true ∧ ¬ x = y ∧ inX d (-20) (nI 20) = true) := by rw [axX_2]; exact Iff.rfl
  refine ⟨_, cw_mate (by decide) (c_X9_mate hl9 p52 p6 P.2.1.1 P.2.1.2.2) (fun N M' h => h.1.elim (fun h => Or.inl h.2) fun h => Or.inr (h.elim (fun h => Or.inl h.2.2) fun h => Or.inr (h.elim (fun h => Or.inl h.2.2.2) fun h => Or.inr h.2.2.2.2))) (fun v M' h => ⟨_, h.2.2.2.2.1⟩), fun v M1 hK => ?_⟩
  rcases hK with ⟨u, M', ⟨h1, h2, h3, hmc, hv1, hM1⟩, h4, h5⟩ | ⟨⟨h, h3⟩, h4⟩ | ⟨⟨h, h3⟩, h4⟩ | ⟨⟨h, h3⟩, h4⟩ | ⟨⟨h, h3⟩, h4⟩
  · have hu := vI hv1
    have h1' := hxy.mp h1
    have h2' := hax.mp h2
    obtain ⟨p, hp, rfl⟩ := prX_n p6 h1.1
    obtain ⟨a, ha, rfl⟩ := in2_n h2'.1
    have hy : y = -1 ∨ ∃ r, r < pc ∧ y = nI r := h1.2.elim (fun z => Or.inr (prX_n p6 z)) Or.inl
    have hy6 : y = -1 ∨ ∃ r, r < 6 ∧ y = nI r := hy.imp id fun ⟨r, hr, e⟩ => ⟨r, by omega, e⟩
    have hG := grp_E P (show p < 6 by omega) (nI a) (mI M 66)
    have hty := td_T P (show p < 6 by omega) (nI a) (mI M 66) hy6
    have hyT : maT M mc a p (tgX y) = 0 := Classical.byContradiction fun z => by
      have := hty.mpr z
      rw [h3] at this; exact absurd this (by decide)
    have ht6 := td_T P (show p < 6 by omega) (nI a) (mI M 66) (y := -1) (Or.inl rfl)
    rw [ntX_nI (show a < 2 ^ 31 by omega)] at hM1 hu
    generalize hheld : tdX M mc (nI a) (nI p) (-1) = held at *
    -- the move that is missing
    have eA : mvX (mI M 34) (nI p) a = mI M 60 (3 * p + a) := mv_eq q (by omega) ha
    have eB : mvX (mI M 34) y a = if y = -1 then nI 0 else mI M 60 (3 * ntX y + a) := by
      rcases hy with e | ⟨r, hr, e⟩
      · rw [e, mvX_m, if_pos rfl]
      · rw [e, if_neg (nI_nm1 (by omega)), ntX_nI (by omega), mv_eq q (by omega) ha]
    have hB : d - apX (mI M 34) a (nI p) y = maY M a p y d := by
      unfold maY apX
      rw [← eB, ← eA, may_eq]
    have hbz : tieB M a (nI p) y d held = 0 ↔ maY M a p y d = 0 := by
      unfold tieB
      rw [hB]
      split
      · exact neg_z
      · exact Iff.rfl
    -- memory behind the class's call
    have e1 : ∀ t, ¬ (t = 5 ∨ (34 ≤ t ∧ t ≤ 38)) → mI M1 t = mI M t := fun t ht => by
      rw [h5, hM1]
      show mI (tieM M pc mc a (nI p) y d held) t = _
      unfold tieM
      rw [mI_sI, if_neg (by omega), mI_sI, if_neg (by omega), mI_sI, if_neg (by omega), mI_sI, if_neg (by omega), mI_sI, if_neg (by omega), mI_sI, if_neg (by omega)]
    have e34 : mI M1 34 = slM (mI M 34) a (tieG M mc a (nI p) y held) (tieB M a (nI p) y d held) pc := by rw [h5, hM1]; rfl
    have e35 : mI M1 35 = upd (mI M 35) mc (nI a) := by rw [h5, hM1]; rfl
    have e36 : mI M1 36 = upd (mI M 36) mc (nI p) := by rw [h5, hM1]; rfl
    have e37 : mI M1 37 = upd (mI M 37) mc y := by rw [h5, hM1]; rfl
    have e38 : mI M1 38 = upd (mI M 38) mc d := by rw [h5, hM1]; rfl
    have e5 : mI M1 5 2 = mI M 5 2 ∧ mI M1 5 3 = nI (mc + 1) := by rw [h5, hM1]; exact ⟨rfl, rfl⟩
    have es : M1.2 = (sW M 2 u.toInt64).2 := by rw [h5, hM1]; rfl
    refine ⟨0, by decide, h4, 4, _, by decide, c_X10_mate (by rw [e1 12 (by decide)]; exact p27) p6 (by rw [e1 12 (by decide)]; exact P.2.1.2.1) P.2.1.2.2 (by unfold mtP; rw [e1 64 (by decide), e1 65 (by decide)]; exact hmt), fun v2 M2 hP => ?_⟩
    have emT : ∀ p, maT M1 mc a p = maT M mc a p := fun p => by
      unfold maT
      rw [tiE_c ⟨e1 63 (by decide), e1 64 (by decide), e1 65 (by decide)⟩, e1 66 (by decide)]
    have emY : maY M1 a p y d = maY M a p y d := by unfold maY; rw [e1 60 (by decide)]
    rw [e1 12 (by decide), e1 60 (by decide), p27] at hP
    have key : ∀ (M2 : Mm) (T : Nat → Int32), GT (tieG M mc a (nI p) y held) T → T 6 = 0 → cls (mI M 63) (mI M 64) (mI M 65) (nI a) mc (onT T) → apX (slM (mI M 34) a (tieG M mc a (nI p) y held) (tieB M a (nI p) y d held) pc) a (nI p) y = d → M2.2 = M1.2 → (∀ t, ¬ (t = 12 ∨ t = 60 ∨ (63 ≤ t ∧ t ≤ 66)) → mI M2 t = mI M1 t) → (∀ i, ¬ (i = 0 ∨ i = 31) → mI M2 12 i = mI M 12 i) → mI M2 12 31 = nI (mc + 1) → mI M2 63 = upd (mI M 63) mc (nI a) → mI M2 64 = upd (mI M 64) mc (nI p) → mI M2 65 = upd (mI M 65) mc y → (∀ i, i < 18 → mI M2 60 i = smR (mI M 60) T a (tieB M a (nI p) y d held) pc i) → Inv M2 := fun M2 T t1 t2 t3 t4 f0 f1 f12 f31 f63 f64 f65 f60 => by
      have f34 : mI M2 34 = slM (mI M 34) a (tieG M mc a (nI p) y held) (tieB M a (nI p) y d held) pc := by rw [f1 34 (by decide), e34]
      refine ⟨g, cnt, bar, fr, pc, mc + 1, INV_pt (M := M) (fun t ht => by rw [f1 t (by omega), e1 t (by omega)]) (fun i hi => f12 i (by omega)) (fun c _ => by show M2.2.1 c = _; rw [f0, es]; rfl) (fun c _ => by show M2.2.2.1 c = _; rw [f0, es]; rfl) (by show M2.2.2.2.1 0 = _; rw [f0, es]; rfl) (by show M2.2.2.2.1 1 = _; rw [f0, es]; rfl) q (IP_new P hmc ha hp hy (by rw [f1 5 (by decide)]; exact e5) (f12 27 (by decide)) f31 (by rw [f1 35 (by decide), e35]) (by rw [f1 36 (by decide), e36]) (by rw [f1 37 (by decide), e37]) (by rw [f1 38 (by decide), e38]) f63 f64 f65 (by rw [f1 33 (by decide), e1 33 (by decide)]) (by rw [f1 61 (by decide), e1 61 (by decide)]) (by rw [f1 62 (by decide), e1 62 (by decide)]) (fun c _ => by show M2.2.1 _ = _; rw [f0, es]; rfl) (fun i hi => ?_) ?_ ?_)⟩
      · rw [f34, f60 i hi]
        exact sl_eq p6 t1 P.2.2.1 i hi
      · rw [f34]
        exact fit_sl P t1 t2 t3 ha
      · rw [f34]; exact t4
    rcases hP with ⟨z, -⟩ | ⟨-, z, -⟩ | ⟨-, -, p', a', hp', ha', ep, ea, hP⟩
    · exact absurd h1' z
    · exact absurd h2' z
    · have ep := (nI_eq (by omega) (by omega)).mp ep
      have ea := (nI_eq (by omega) (by omega)).mp ea
      subst ep ea
      rw [emT, emY] at hP
      simp only [tiE_c (M := M) (M' := M1) ⟨e1 63 (by decide), e1 64 (by decide), e1 65 (by decide)⟩] at hP
      -- out and moves of one way
      have outs : ∀ (M2 : Mm) (T : Nat → Int32), GT (tieG M mc a (nI p) y held) T → M2.2 = M1.2 → ∀ c : Int32, (maY M a p y d = 0 ∧ c = nI 0) ∨ (¬ maY M a p y d = 0 ∧ c = ctK (fun i => T i = 0) pc) → mW M2 2 = c.toInt64 := fun M2 T hT f0 c hc => by
        show M2.2.2.2.1 2 = _
        rw [f0, es]
        show u.toInt64 = _
        rw [hu]
        rcases hc with ⟨c1, c2⟩ | ⟨c1, c2⟩
        · rw [if_pos (hbz.mpr c1), c2]
        · rw [if_neg (fun z => c1 (hbz.mp z)), c2, slN_n hT pc p6]
      -- the group that moves, when it is held
      have hheldT : held = true → ∃ r, r < pc ∧ y = nI r ∧ tieG M mc a (nI p) y held = grp M mc (nI a) (nI r) ∧ (tiE M mc (nI a) (maT M mc a p) r) 6 = 0 ∧ (tiE M mc (nI a) (maT M mc a p) r) p = 0 := fun hh => by
        have h6 := ht6.mp hh
        have hyr : ∃ r, r < pc ∧ y = nI r := hy.resolve_left fun z => by rw [z] at hyT; exact h6 hyT
        obtain ⟨r, hr, e⟩ := hyr
        have htr : tgX y = r := by rw [e]; unfold tgX; rw [if_neg (nI_nm1 (by omega)), ntX_nI (by omega)]
        have hcl : cls (mI M 63) (mI M 64) (mI M 65) (nI a) mc (fun e => ¬ onT (maT M mc a p) e) := fun k hk hA => not_congr (hG.2.1 k hk hA)
        have hin := tiE_in P (p := r) (r := maT M mc a p) (show r < 6 by omega) hcl (by rw [htr] at hyT; exact fun z => z hyT)
        refine ⟨r, hr, e, ?_, ?_, ?_⟩
        · unfold tieG; rw [if_pos hh, e]
        · exact Classical.byContradiction fun z => hin 6 (by decide) z h6
        · exact Classical.byContradiction fun z => hin p (by omega) z hG.2.2
      have hfree : ¬ held = true → tieG M mc a (nI p) y held = grp M mc (nI a) (nI p) ∧ maT M mc a p 6 = 0 := fun hh => by
        refine ⟨by unfold tieG; rw [if_neg hh], Classical.byContradiction fun z => hh (ht6.mpr z)⟩
      have hnewH : held = true → apX (slM (mI M 34) a (tieG M mc a (nI p) y held) (tieB M a (nI p) y d held) pc) a (nI p) y = d := fun hh => by
        obtain ⟨r, hr, e, e2, t6, tp⟩ := hheldT hh
        have hG2 := grp_E P (show r < 6 by omega) (nI a) (maT M mc a p)
        rw [e2, e]
        unfold apX
        rw [mvS p6 ha hG2.1 hp, mvS p6 ha hG2.1 hr, if_neg (fun z => z.2 tp), if_pos ⟨rfl, hG2.2.2⟩]
        unfold tieB
        rw [if_pos hh]
        unfold apX
        exact fit_n2 _ _ _
      have hnewF : ¬ held = true → apX (slM (mI M 34) a (tieG M mc a (nI p) y held) (tieB M a (nI p) y d held) pc) a (nI p) y = d := fun hh => by
        obtain ⟨e2, t6⟩ := hfree hh
        rw [e2]
        unfold apX
        rw [mvS p6 ha hG.1 hp, if_pos ⟨rfl, hG.2.2⟩]
        have ey : mvX (slM (mI M 34) a (grp M mc (nI a) (nI p)) (tieB M a (nI p) y d held) pc) y a = mvX (mI M 34) y a := by
          rcases hy with e | ⟨r, hr, e⟩
          · rw [e, mvX_m, mvX_m]
          · have htr : tgX y = r := by rw [e]; unfold tgX; rw [if_neg (nI_nm1 (by omega)), ntX_nI (by omega)]
            rw [htr] at hyT
            rw [e, mvS p6 ha hG.1 hr, if_neg (fun z => z.2 hyT)]
        rw [ey]
        unfold tieB
        rw [if_neg hh]
        unfold apX
        exact fit_n1 _ _ _
      have hnew : apX (slM (mI M 34) a (tieG M mc a (nI p) y held) (tieB M a (nI p) y d held) pc) a (nI p) y = d := by
        by_cases hh : held = true
        · exact hnewH hh
        · exact hnewF hh
      rcases hP with ⟨z, -⟩ | ⟨-, z, -⟩ | ⟨-, -, hP⟩
      · exact absurd hyT z
      · omega
      · rcases hP with ⟨w0, hv2, hM⟩ | ⟨w0, w6, hv2, hM⟩ | ⟨w0, w6, hv2, hM⟩
        · -- nothing moves
          have hT : ∃ T, GT (tieG M mc a (nI p) y held) T ∧ T 6 = 0 ∧ cls (mI M 63) (mI M 64) (mI M 65) (nI a) mc (onT T) := by
            by_cases hh : held = true
            · obtain ⟨r, hr, e, e2, t6, tp⟩ := hheldT hh
              have hG2 := grp_E P (show r < 6 by omega) (nI a) (maT M mc a p)
              exact ⟨_, by rw [e2]; exact hG2.1, t6, hG2.2.1⟩
            · obtain ⟨e2, t6⟩ := hfree hh
              exact ⟨_, by rw [e2]; exact hG.1, t6, hG.2.1⟩
          obtain ⟨T, t1, t2, t3⟩ := hT
          refine ⟨_, hv2, by rw [hM]; rfl, fun _ => outs M2 T t1 (by rw [hM]; rfl) _ (Or.inl ⟨w0, rfl⟩), key M2 T t1 t2 t3 hnew (by rw [hM]; rfl) (fun t ht => ?_) (fun i hi => ?_) (by rw [hM]; rfl) ?_ ?_ ?_ (fun i hi => ?_)⟩
          · rw [hM]
            unfold maZ
            rw [mI_sI, if_neg (by omega), mI_sI, if_neg (by omega), mI_sI, if_neg (by omega), mI_sI, if_neg (by omega), mI_sI, if_neg (by omega), mI_sI, if_neg (by omega)]
          · rw [hM, ← e1 12 (by decide)]
            show upd (upd (mI M1 12) 0 (nI 0)) 31 (nI (mc + 1)) i = _
            rw [upd_at, if_neg (by omega), upd_at, if_neg (by omega)]
          · rw [hM, ← e1 63 (by decide)]; rfl
          · rw [hM, ← e1 64 (by decide)]; rfl
          · rw [hM, ← e1 65 (by decide)]; rfl
          · rw [hM]
            show mI M1 60 i = _
            rw [e1 60 (by decide), hbz.mpr w0]
            unfold smR
            split
            · exact (Int32.add_zero _).symm
            · rfl
        · -- the other part's group moves
          have hh := ht6.mpr w6
          obtain ⟨r, hr, e, e2, t6, tp⟩ := hheldT hh
          have hnt : ntX y = r := by rw [e, ntX_nI (by omega)]
          rw [hnt] at hv2 hM
          have hG2 := grp_E P (show r < 6 by omega) (nI a) (maT M mc a p)
          have hb : tieB M a (nI p) y d held = -(maY M a p y d) := by unfold tieB; rw [if_pos hh, hB]
          refine ⟨_, hv2, by rw [hM]; rfl, fun _ => outs M2 _ (by rw [e2]; exact hG2.1) (by rw [hM]; rfl) _ (Or.inr ⟨w0, rfl⟩), key M2 _ (by rw [e2]; exact hG2.1) t6 hG2.2.1 hnew (by rw [hM]; rfl) (fun t ht => ?_) (fun i hi => ?_) (by rw [hM]; rfl) ?_ ?_ ?_ (fun i hi => ?_)⟩
          · rw [hM]
            unfold maZ
            rw [mI_sI, if_neg (by omega), mI_sI, if_neg (by omega), mI_sI, if_neg (by omega), mI_sI, if_neg (by omega), mI_sI, if_neg (by omega), mI_sI, if_neg (by omega), mI_sI, if_neg (by omega)]
          · rw [hM, ← e1 12 (by decide)]
            show upd (upd (mI M1 12) 0 (nI 0)) 31 (nI (mc + 1)) i = _
            rw [upd_at, if_neg (by omega), upd_at, if_neg (by omega)]
          · rw [hM, ← e1 63 (by decide)]; rfl
          · rw [hM, ← e1 64 (by decide)]; rfl
          · rw [hM, ← e1 65 (by decide)]; rfl
          · rw [hM, hb]; rfl
        · -- its own group moves
          have hh : ¬ held = true := fun z => ht6.mp z w6
          obtain ⟨e2, t6⟩ := hfree hh
          have hb : tieB M a (nI p) y d held = maY M a p y d := by unfold tieB; rw [if_neg hh, hB]
          refine ⟨_, hv2, by rw [hM]; rfl, fun _ => outs M2 _ (by rw [e2]; exact hG.1) (by rw [hM]; rfl) _ (Or.inr ⟨w0, rfl⟩), key M2 _ (by rw [e2]; exact hG.1) t6 hG.2.1 hnew (by rw [hM]; rfl) (fun t ht => ?_) (fun i hi => ?_) (by rw [hM]; rfl) ?_ ?_ ?_ (fun i hi => ?_)⟩
          · rw [hM]
            unfold maZ
            rw [mI_sI, if_neg (by omega), mI_sI, if_neg (by omega), mI_sI, if_neg (by omega), mI_sI, if_neg (by omega), mI_sI, if_neg (by omega), mI_sI, if_neg (by omega), mI_sI, if_neg (by omega)]
          · rw [hM, ← e1 12 (by decide)]
            show upd (upd (mI M1 12) 0 (nI 0)) 31 (nI (mc + 1)) i = _
            rw [upd_at, if_neg (by omega), upd_at, if_neg (by omega)]
          · rw [hM, ← e1 63 (by decide)]; rfl
          · rw [hM, ← e1 64 (by decide)]; rfl
          · rw [hM, ← e1 65 (by decide)]; rfl
          · rw [hM, hb]; rfl
  · have h1 : ¬ (prX (nI pc) x = true ∧ (prX (nI pc) y = true ∨ y = -1)) := by
      rcases h with ⟨h, -⟩ | ⟨-, -, h⟩ | ⟨-, -, -, h⟩ | ⟨-, -, -, -, h⟩
      · exact h
      · exact absurd h (by decide)
      · exact absurd h (by decide)
      · exact absurd h (by decide)
    have h1' := fun z => h1 (hxy.mpr z)
    subst h3
    refine ⟨1, by decide, h4, 4, _, by decide, c_X10_mate p27 p6 P.2.1.2.1 P.2.1.2.2 hmt, fun v2 M2 hP => ?_⟩
    rw [p27] at hP
    rcases hP with ⟨-, hv2, hM⟩ | ⟨z, -⟩ | ⟨z, -⟩
    · subst hM
      exact ⟨_, hv2, rfl, no1 (by decide), Inv_sm (sm_tr (sm_cd _ _) (sm_cd _ _)) hI⟩
    · exact absurd z h1'
    · exact absurd z h1'
  · have h1 : (prX (nI pc) x = true ∧ (prX (nI pc) y = true ∨ y = -1)) ∧ ¬ (axX ax = true ∧ ¬ x = y ∧ gvn d = true) := by
      rcases h with ⟨-, h⟩ | ⟨h1, h2, h⟩ | ⟨-, -, -, h⟩ | ⟨-, -, -, -, h⟩
      · exact absurd h (by decide)
      · exact ⟨h1, h2⟩
      · exact absurd h (by decide)
      · exact absurd h (by decide)
    have h2' := fun z => h1.2 (hax.mpr z)
    subst h3
    refine ⟨2, by decide, h4, 4, _, by decide, c_X10_mate p27 p6 P.2.1.2.1 P.2.1.2.2 hmt, fun v2 M2 hP => ?_⟩
    rw [p27] at hP
    rcases hP with ⟨z, -⟩ | ⟨-, -, hv2, hM⟩ | ⟨-, z, -⟩
    · exact absurd (hxy.mp h1.1) z
    · subst hM
      exact ⟨_, hv2, rfl, no1 (by decide), Inv_sm (sm_tr (sm_cd _ _) (sm_cd _ _)) hI⟩
    · exact absurd z h2'
  · have h1 : (prX (nI pc) x = true ∧ (prX (nI pc) y = true ∨ y = -1)) ∧ (axX ax = true ∧ ¬ x = y ∧ gvn d = true) ∧ tdX M mc ax x y = true := by
      rcases h with ⟨-, h⟩ | ⟨-, -, h⟩ | ⟨h1, h2, h, -⟩ | ⟨-, -, -, -, h⟩
      · exact absurd h (by decide)
      · exact absurd h (by decide)
      · exact ⟨h1, h2, h⟩
      · exact absurd h (by decide)
    obtain ⟨h1, h2, htd⟩ := h1
    subst h3
    have h1' := hxy.mp h1
    have h2' := hax.mp h2
    obtain ⟨p, hp, rfl⟩ := prX_n p6 h1.1
    obtain ⟨a, ha, rfl⟩ := in2_n h2'.1
    have hy6 : y = -1 ∨ ∃ r, r < 6 ∧ y = nI r := h1.2.elim (fun z => Or.inr (by obtain ⟨r, hr, e⟩ := prX_n p6 z; exact ⟨r, by omega, e⟩)) Or.inl
    have hty := (td_T P (show p < 6 by omega) (nI a) (mI M1 66) hy6).mp htd
    refine ⟨3, by decide, h4, 4, _, by decide, c_X10_mate p27 p6 P.2.1.2.1 P.2.1.2.2 hmt, fun v2 M2 hP => ?_⟩
    rw [p27] at hP
    rcases hP with ⟨z, -⟩ | ⟨-, z, -⟩ | ⟨-, -, p', a', hp', ha', ep, ea, hP⟩
    · exact absurd h1' z
    · exact absurd h2' z
    · have ep := (nI_eq (by omega) (by omega)).mp ep
      have ea := (nI_eq (by omega) (by omega)).mp ea
      subst ep ea
      rcases hP with ⟨-, hv2, hM⟩ | ⟨z, -⟩ | ⟨z, -⟩
      · subst hM
        exact ⟨_, hv2, rfl, no1 (by decide), Inv_sm (sm_tr (sm_cd _ _) (sm_tr (sm_I (by decide) (by decide) _) (sm_cd _ _))) hI⟩
      · exact absurd z hty
      · exact absurd z hty
  · have h1 : (prX (nI pc) x = true ∧ (prX (nI pc) y = true ∨ y = -1)) ∧ (axX ax = true ∧ ¬ x = y ∧ gvn d = true) ∧ tdX M mc ax x y = false ∧ ¬ mc < 12 := by
      rcases h with ⟨-, h⟩ | ⟨-, -, h⟩ | ⟨-, -, -, h⟩ | ⟨h1, h2, h, h6, -⟩
      · exact absurd h (by decide)
      · exact absurd h (by decide)
      · exact absurd h (by decide)
      · exact ⟨h1, h2, h, h6⟩
    obtain ⟨h1, h2, htd, hmc⟩ := h1
    subst h3
    have h1' := hxy.mp h1
    have h2' := hax.mp h2
    obtain ⟨p, hp, rfl⟩ := prX_n p6 h1.1
    obtain ⟨a, ha, rfl⟩ := in2_n h2'.1
    have hy6 : y = -1 ∨ ∃ r, r < 6 ∧ y = nI r := h1.2.elim (fun z => Or.inr (by obtain ⟨r, hr, e⟩ := prX_n p6 z; exact ⟨r, by omega, e⟩)) Or.inl
    have hyT : maT M1 mc a p (tgX y) = 0 := Classical.byContradiction fun z => by
      have := (td_T P (show p < 6 by omega) (nI a) (mI M1 66) hy6).mpr z
      rw [htd] at this; exact absurd this (by decide)
    refine ⟨4, by decide, h4, 4, _, by decide, c_X10_mate p27 p6 P.2.1.2.1 P.2.1.2.2 hmt, fun v2 M2 hP => ?_⟩
    rw [p27] at hP
    rcases hP with ⟨z, -⟩ | ⟨-, z, -⟩ | ⟨-, -, p', a', hp', ha', ep, ea, hP⟩
    · exact absurd h1' z
    · exact absurd h2' z
    · have ep := (nI_eq (by omega) (by omega)).mp ep
      have ea := (nI_eq (by omega) (by omega)).mp ea
      subst ep ea
      rcases hP with ⟨z, -⟩ | ⟨-, -, hv2, hM⟩ | ⟨-, z, -⟩
      · exact absurd hyT z
      · subst hM
        exact ⟨_, hv2, rfl, no1 (by decide), Inv_sm (sm_tr (sm_cd _ _) (sm_tr (sm_I (by decide) (by decide) _) (sm_cd _ _))) hI⟩
      · have := P.2.1.2.2; omega
