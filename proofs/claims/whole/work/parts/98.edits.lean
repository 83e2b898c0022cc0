/-! the cases of the law: changes of the history -/
theorem coc_t {Me M1 : Mm} {bar2 bc : Nat} {fr2 : Nat → Nat} (h : cocP Me bar2 bc fr2 M1) (t : Nat) (ht : ¬ (t = 1 ∨ (28 ≤ t ∧ t ≤ 32))) : mI M1 t = mI Me t := by
  obtain ⟨lo, Mp, -, -, -, -, hLI, rfl⟩ := h
  rw [mI_sI, if_neg (by omega), hLI.1 t (by omega)]
theorem coc_W {Me M1 : Mm} {bar2 bc : Nat} {fr2 : Nat → Nat} (h : cocP Me bar2 bc fr2 M1) : mW M1 2 = mW Me 2 := by
  obtain ⟨lo, Mp, -, -, -, -, hLI, rfl⟩ := h
  exact hLI.2.2.2.2.2.2.2.2.1 2 (by decide)
theorem coM_t {M M1 : Mm} {om ob bar : Nat} {fr : Nat → Nat} (h : coM M om ob bar fr M1) (t : Nat) (ht : ¬ (t = 49 ∨ (54 ≤ t ∧ t ≤ 57) ∨ t = 67)) : mI M1 t = mI M t := by
  obtain ⟨x, wv, M0, -, -, h0, -, hf, -⟩ := h
  rw [hf.2 t (by omega), h0.2.1 t (by omega)]
theorem coM_W {M M1 : Mm} {om ob bar : Nat} {fr : Nat → Nat} (h : coM M om ob bar fr M1) : mW M1 2 = mW M 2 := by
  obtain ⟨x, wv, M0, -, -, h0, -, hf, -⟩ := h
  show M1.2.2.2.1 2 = _
  rw [hf.1, h0.1]
  rfl
/-- an edit's answer: code 0, the value put out, what holds holds again -/
theorem out_ok {M1' M2 M3 : Mm} {S : Nat → Prop} {cnt bar bar2 : Nat} {fr2 : Nat → Nat} {wv : Int64} (hrm : rmP M1' M2 S) (hco : coM M2 cnt bar bar2 fr2 M3) (hw : mW M1' 2 = wv) : mI M3 12 0 = nI 0 ∧ mW M3 2 = wv := by
  refine ⟨?_, ?_⟩
  · rw [coM_t hco 12 (by decide)]; exact hrm.2.2.1.2.2.1
  · rw [coM_W hco]
    show M2.2.2.2.1 2 = _
    rw [hrm.1]; exact hw
theorem MV_W {M : Mm} {g cnt bar : Nat} {fr : Nat → Nat} (h : MV M g cnt bar fr) {M' : Mm} (e : ∀ t, (40 ≤ t ∧ t ≤ 48) ∨ t = 12 → mI M' t = mI M t) : MV M' g cnt bar fr :=
  MV_c h (by rw [e 12 (by omega)]) (by rw [e 12 (by omega)]) (by rw [e 12 (by omega)]) fun t a b => e t (by omega)
theorem EC_I {M : Mm} {t : Nat} (ht : ¬ (t = 1 ∨ t = 5 ∨ (28 ≤ t ∧ t ≤ 38) ∨ 40 ≤ t ∨ t = 12)) (f : Nat → Int32) : EC M (sI M t f) := ⟨fun t' h => by rw [mI_sI, if_neg (fun e => ht (by rw [← e]; exact h))], rfl⟩
theorem EC_tr {A B C : Mm} (h : EC A B) (g : EC B C) : EC A C := ⟨fun t ht => (g.1 t ht).trans (h.1 t ht), g.2.trans h.2⟩
theorem INV_c9 {M : Mm} {g cnt bar : Nat} {fr : Nat → Nat} {pc mc : Nat} (q : INV M g cnt bar fr pc mc) : mI M 1 11 = nI bar ∧ (∀ i j, i < cnt → j < cnt → fr i = fr j → i = j) ∧ (∀ f, f < 40 → vp_nar .boolean (mI M 27 f) = mI M 27 f) := by
  refine ⟨q.2.2.2.2.1.1, q.2.1.2.2.2.2.1, fun f hf => ?_⟩
  rw [q.2.2.1.2.1 f hf]
  exact vpb (q.2.1.2.2.2.2.2.2.2.2.2 f hf)
theorem sp_setBar {l : Launch} {E : Ev} (hl9 : l.stackTraces = false) : Sp_setBar l E Inv := by
  intro M x hI
  obtain ⟨g, cnt, bar, fr, pc, mc, q⟩ := id hI
  have hb := INV_b q
  obtain ⟨hbc, hij, hof⟩ := INV_c9 q
  have hx : (¬ x < 0 ∧ x ≤ nI cnt) ↔ inX x (nI 0) (nI cnt) = true := by
    rw [inX_i]
    exact ⟨fun h => ⟨h.1, Int32.not_lt.mpr h.2⟩, fun h => ⟨h.1, Int32.not_lt.mp h.2⟩⟩
  refine ⟨_, cw_setBar (by decide) (c_X9_setBar hl9 q.1.1 hb.2.1 (INV_row q) q.1.2.2.1 hb.2.2.1 hbc hb.2.2.2 (INV_hk q) hij hof) (fun N M' h => h.2.1) (fun v M' h => by obtain ⟨p, -, -, hv, -⟩ := h; exact ⟨_, hv⟩), fun v M1 hK => ?_⟩
  rcases hK with ⟨w, M', ⟨p, hp, rfl, hv1, hcoc⟩, h4, h5⟩ | ⟨⟨h1, -, h3⟩, h4⟩
  · have hw := vI hv1
    have e1 : ∀ t, ¬ (t = 1 ∨ (28 ≤ t ∧ t ≤ 32) ∨ t = 2) → mI M1 t = mI M t := fun t ht => by
      rw [h5]
      show mI M' t = _
      rw [coc_t hcoc t (by omega), mI_sI, if_neg (by omega)]
    have hMV1 := MV_W (M' := M1) q.2.1 fun t ht => e1 t (by omega)
    refine ⟨0, by decide, h4, 9, _, by decide, c_X10_setBar hMV1, fun v2 M2 hP => ?_⟩
    rcases hP with ⟨z, -⟩ | ⟨-, p2, hp2, ep, hv2, M3, hrm, hMV, hco⟩
    · rw [e1 12 (by decide), q.2.1.2.1.1] at z
      have := hx.mp ⟨nI_pos (by omega), nI_le hp (by omega)⟩
      rw [z] at this; exact absurd this (by decide)
    · have ep := (nI_eq (by omega) (by omega)).mp ep
      subst ep
      obtain ⟨o1, o2⟩ := out_ok hrm hco (wv := w.toInt64) (by rw [h5]; rfl)
      have e2 : ∀ t, ¬ (t = 1 ∨ (28 ≤ t ∧ t ≤ 32) ∨ t = 2 ∨ t = 12 ∨ (50 ≤ t ∧ t ≤ 52)) → mI M3 t = mI M t := fun t ht => by
        rw [hrm.2.1 t (by omega) (fun z => z), e1 t (by omega)]
      refine ⟨_, hv2, o1, fun _ => by rw [o2, hw], ?_⟩
      exact change (g2 := g) (cnt2 := cnt) q (EC_I (by decide) _) (fun f _ => rfl) hcoc h5 hrm (fun t ht => ht.elim) hco ⟨q.1.1, q.1.2.1, rfl, q.1.2.2.2⟩ hMV (IF_c (fun t ht => e2 t (by omega)) q.2.2.1) (IN_c (fun t ht => e2 t (by omega)) q.2.2.2.1) q.2.2.2.2.2.1
  · subst h3
    refine ⟨1, by decide, h4, 9, _, by decide, c_X10_setBar q.2.1, fun v2 M2 hP => ?_⟩
    rcases hP with ⟨-, hv2, hM⟩ | ⟨z, -⟩
    · subst hM
      exact ⟨_, hv2, rfl, no1 (by decide), Inv_sm (sm_tr (sm_cd _ _) (sm_cd _ _)) hI⟩
    · rw [q.2.1.2.1.1] at z
      exact absurd (hx.mpr z) h1
theorem sp_putOff {l : Launch} {E : Ev} (hl9 : l.stackTraces = false) (hnse : NseR l E) : Sp_putOff l E Inv := by
  intro M x b hI
  obtain ⟨g, cnt, bar, fr, pc, mc, q⟩ := id hI
  have hb := INV_b q
  obtain ⟨hbc, hij, hof⟩ := INV_c9 q
  refine ⟨_, cw_putOff (by decide) (c_X9_putOff hl9 hnse q.1.1 hb.2.1 (INV_row q) q.1.2.2.1 hb.2.2.1 hbc hb.2.2.2 (INV_hk q) hij hof) (fun N M' h => h.2.1) (fun v M' h => by obtain ⟨-, f, -, -, hv, -⟩ := h; exact ⟨_, hv⟩), fun v M1 hK => ?_⟩
  rcases hK with ⟨w, M', ⟨h1, f, hf40, rfl, hv1, hcoc⟩, h4, h5⟩ | ⟨⟨h1, -, h3⟩, h4⟩
  · have hw := vI hv1
    have e1 : ∀ t, ¬ (t = 1 ∨ (28 ≤ t ∧ t ≤ 32) ∨ t = 27) → mI M1 t = mI M t := fun t ht => by
      rw [h5]
      show mI M' t = _
      rw [coc_t hcoc t (by omega), mI_sI, if_neg (by omega)]
    have e27 : mI M1 27 = upd (mI M 27) f (bI b) := by
      rw [h5]
      show mI M' 27 = _
      rw [coc_t hcoc 27 (by omega), mI_sI, if_pos rfl]
    have hMV1 := MV_W (M' := M1) q.2.1 fun t ht => e1 t (by omega)
    have hm := (INV_mF q (nI f)).mpr h1
    have hmF : mF M1 (nI f) = true := by
      have : mF M1 (nI f) = mF M (nI f) := by unfold mF; rw [e1 12 (by decide), e1 47 (by decide)]
      rw [this]; exact hm
    refine ⟨0, by decide, h4, 9, _, by decide, c_X10_putOff hMV1, fun v2 M2 hP => ?_⟩
    rcases hP with ⟨z, -⟩ | ⟨-, f2, hf2, ef, hv2, M3, h48, hrm, hMV, hco⟩
    · exact absurd (hmF.symm.trans z) (by decide)
    · have ef := (nI_eq (by omega) (by omega)).mp ef
      subst ef
      rw [e1 48 (by decide)] at h48 hv2
      obtain ⟨o1, o2⟩ := out_ok hrm hco (wv := if w = 0 then 0 else 1) (by rw [h5]; rfl)
      have e2 : ∀ t, ¬ (t = 1 ∨ (28 ≤ t ∧ t ≤ 32) ∨ t = 27 ∨ t = 48 ∨ t = 12 ∨ (50 ≤ t ∧ t ≤ 52)) → mI M3 t = mI M t := fun t ht => by
        rw [hrm.2.1 t (by omega) (by omega), e1 t (by omega)]
      have e227 : mI M3 27 = upd (mI M 27) f (bI b) := by rw [hrm.2.1 27 (by omega) (by omega), e27]
      refine ⟨_, hv2, o1, fun _ => by rw [o2, hw, q.2.2.1.2.1 f hf40], ?_⟩
      refine change (g2 := g) (cnt2 := cnt) q (EC_I (by decide) _) (fun f _ => rfl) hcoc h5 hrm (fun t ht => by omega) hco ⟨q.1.1, q.1.2.1, q.1.2.2.1, q.1.2.2.2⟩ hMV ⟨?_, ?_, ?_⟩ (IN_c (fun t ht => e2 t (by omega)) q.2.2.2.1) q.2.2.2.2.2.1
      · rw [e2 25 (by omega), e2 45 (by omega), e2 26 (by omega), e2 46 (by omega)]
        exact q.2.2.1.1
      · intro f3 hf3
        rw [e227, h48, upd_at, upd_at]
        by_cases e : f3 = f
        · rw [if_pos e, if_pos e]
        · rw [if_neg e, if_neg e]; exact q.2.2.1.2.1 f3 hf3
      · intro f3 hf3 hf4
        rw [h48, upd_at, if_neg (by omega)]
        exact q.2.2.1.2.2 f3 hf3 hf4
  · subst h3
    have hm : mF M1 x = false := Bool.eq_false_iff.mpr fun z => (INV_mF q x).mp z h1
    refine ⟨1, by decide, h4, 9, _, by decide, c_X10_putOff q.2.1, fun v2 M2 hP => ?_⟩
    rcases hP with ⟨-, hv2, hM⟩ | ⟨z, -⟩
    · subst hM
      exact ⟨_, hv2, rfl, no1 (by decide), Inv_sm (sm_cd _ _) hI⟩
    · exact absurd (z.symm.trans hm) (by decide)
theorem isT_m (t : Int32) : isT t = mT t := by
  unfold isT mT gvn nmd
  congr 1
theorem aT_m (a b c : Int32) : aT a b c = mT3 a b c := by
  unfold aT mT3
  rw [isT_m, isT_m, isT_m]
/-- how many dimensions are other numbers -/
theorem sz_ans {M M1 : Mm} {g cnt bar : Nat} {fr : Nat → Nat} {pc mc f : Nat} (q : INV M g cnt bar fr pc mc) (hf2 : f < g) (e43 : mI M1 43 = mI M 43) (e46 : mI M1 46 = mI M 46) {a b c : Int32} (hT : mT3 a b c = true) : pfV M f 0 a + pfV (pfM M f 0 a) f 1 b + pfV (pfM (pfM M f 0 a) f 1 b) f 2 c = mfV M1 f 3 a + mfV M1 f 4 b + mfV M1 f 5 c := by
  have h26 : mI (pfM (pfM (pfM M f 0 a) f 1 b) f 2 c) 26 = upd (upd (upd (mI M 26) (f * 6 + 3) a) (f * 6 + 4) b) (f * 6 + 5) c := rfl
  have hdm := fun w hw => IF_dm q.2.1 (fun n hn => (q.2.2.2.1.1 n hn).2.2.2) q.2.2.1 hf2 (w := w) hw
  have hv3 : ∀ t, mT t = true → valX (mI M 23) t = mTm (mI M 43) t := fun t ht => by
    rw [mTm_v ht]
    unfold valX
    by_cases e : nmd t = true
    · rw [if_pos e, if_pos e]
      have e' := of_decide_eq_true (show decide (¬ t < nI 100 ∧ ¬ nI 108 ≤ t) = true from e)
      obtain ⟨m, h1, h2, h3⟩ := mT_n ht e'.1
      have e9 : nI m - nI 100 = nI (m - 100) := by
        have : nI m = nI (m - 100) + nI 100 := by rw [nI_add, Nat.sub_add_cancel h1]
        rw [this, Int32.add_sub_cancel]
      rw [h3, e9, nI_clamp (by omega)]
      exact (q.2.2.2.1.1 _ (by omega)).2.2.2
    · rw [if_neg e, if_neg e]
  have hT3 : mT a = true ∧ mT b = true ∧ mT c = true := by
    unfold mT3 at hT
    have := Bool.and_eq_true_iff.mp hT
    have t2 := Bool.and_eq_true_iff.mp this.1
    exact ⟨t2.1, t2.2, this.2⟩
  have d1 : ∀ w, dmX M1 f w = dmX M f w := fun w => by rw [dm_same e43 e46]
  have p0 : pfV M f 0 a = mfV M1 f 3 a := by
    unfold mfV
    rw [d1, ← hdm 3 (by decide), e43, ← hv3 a hT3.1]
    have es : szX (pfM M f 0 a) f (3 + 0) = valX (mI M 23) a := by
      show valX (mI M 23) (upd (mI M 26) (f * 6 + 3) a (f * 6 + 3)) = _
      rw [upd_at, if_pos rfl]
    show (if szX (pfM M f 0 a) f (3 + 0) = szX M f (3 + 0) then nI 0 else nI 1) = _
    rw [es]
  have p1 : pfV (pfM M f 0 a) f 1 b = mfV M1 f 4 b := by
    unfold mfV
    rw [d1, ← hdm 4 (by decide), e43, ← hv3 b hT3.2.1]
    have es : szX (pfM (pfM M f 0 a) f 1 b) f (3 + 1) = valX (mI M 23) b := by
      show valX (mI M 23) (upd (upd (mI M 26) (f * 6 + 3) a) (f * 6 + 4) b (f * 6 + 4)) = _
      rw [upd_at, if_pos rfl]
    have eo : szX (pfM M f 0 a) f (3 + 1) = szX M f 4 := by
      show valX (mI M 23) (upd (mI M 26) (f * 6 + 3) a (f * 6 + 4)) = _
      rw [upd_at, if_neg (by omega)]; rfl
    show (if szX (pfM (pfM M f 0 a) f 1 b) f (3 + 1) = szX (pfM M f 0 a) f (3 + 1) then nI 0 else nI 1) = _
    rw [es, eo]
  have p2 : pfV (pfM (pfM M f 0 a) f 1 b) f 2 c = mfV M1 f 5 c := by
    unfold mfV
    rw [d1, ← hdm 5 (by decide), e43, ← hv3 c hT3.2.2]
    have es : szX (pfM (pfM (pfM M f 0 a) f 1 b) f 2 c) f (3 + 2) = valX (mI M 23) c := by
      show valX (mI M 23) (upd (upd (upd (mI M 26) (f * 6 + 3) a) (f * 6 + 4) b) (f * 6 + 5) c (f * 6 + 5)) = _
      rw [upd_at, if_pos rfl]
    have eo : szX (pfM (pfM M f 0 a) f 1 b) f (3 + 2) = szX M f 5 := by
      show valX (mI M 23) (upd (upd (mI M 26) (f * 6 + 3) a) (f * 6 + 4) b (f * 6 + 5)) = _
      rw [upd_at, if_neg (by omega), upd_at, if_neg (by omega)]; rfl
    show (if szX (pfM (pfM (pfM M f 0 a) f 1 b) f 2 c) f (3 + 2) = szX (pfM (pfM M f 0 a) f 1 b) f (3 + 2) then nI 0 else nI 1) = _
    rw [es, eo]
  rw [p0, p1, p2]
theorem sp_setSize {l : Launch} {E : Ev} (hl9 : l.stackTraces = false) (hnse : NseR l E) : Sp_setSize l E Inv := by
  intro M x a b c hI
  obtain ⟨g, cnt, bar, fr, pc, mc, q⟩ := id hI
  have hb := INV_b q
  obtain ⟨hbc, hij, hof⟩ := INV_c9 q
  refine ⟨_, cw_setSize (by decide) (c_X9_setSize hl9 hnse q.1.1 hb.2.1 (INV_row q) q.1.2.2.1 hb.2.2.1 hbc hb.2.2.2 (INV_hk q) hij hof) (fun N M' h => h.1.elim (fun h => Or.inl h.2) fun h => Or.inr h.2.2) (fun v M' h => by obtain ⟨-, -, f, -, -, hv, -⟩ := h; exact ⟨_, hv⟩), fun v M1 hK => ?_⟩
  rcases hK with ⟨w, M', ⟨h1, h2, f, hf40, rfl, hv1, hcoc⟩, h4, h5⟩ | ⟨⟨h, h3⟩, h4⟩ | ⟨⟨h, h3⟩, h4⟩
  · have hw := vI hv1
    have h26 : mI (pfM (pfM (pfM M f 0 a) f 1 b) f 2 c) 26 = upd (upd (upd (mI M 26) (f * 6 + 3) a) (f * 6 + 4) b) (f * 6 + 5) c := rfl
    have e1 : ∀ t, ¬ (t = 1 ∨ (28 ≤ t ∧ t ≤ 32) ∨ t = 26) → mI M1 t = mI M t := fun t ht => by
      rw [h5]
      show mI M' t = _
      rw [coc_t hcoc t (by omega), mI_sI, if_neg (by omega), mI_sI, if_neg (by omega), mI_sI, if_neg (by omega)]
    have e26 : mI M1 26 = upd (upd (upd (mI M 26) (f * 6 + 3) a) (f * 6 + 4) b) (f * 6 + 5) c := by
      rw [h5]
      show mI M' 26 = _
      rw [coc_t hcoc 26 (by omega), h26]
    have hMV1 := MV_W (M' := M1) q.2.1 fun t ht => e1 t (by omega)
    have hm := (INV_mF q (nI f)).mpr h1
    have hmF : mF M1 (nI f) = true := by
      have : mF M1 (nI f) = mF M (nI f) := by unfold mF; rw [e1 12 (by decide), e1 47 (by decide)]
      rw [this]; exact hm
    have hT := h2
    rw [aT_m] at hT
    refine ⟨0, by decide, h4, 9, _, by decide, c_X10_setSize hMV1, fun v2 M2 hP => ?_⟩
    rcases hP with ⟨z, -⟩ | ⟨-, z, -⟩ | ⟨-, -, f2, hf2, ef, hv2, M3, h46, hrm, hMV, hco⟩
    · exact absurd (hmF.symm.trans z) (by decide)
    · exact absurd (hT.symm.trans z) (by decide)
    · have ef := (nI_eq (by omega) (by omega)).mp ef
      subst ef
      rw [e1 46 (by decide)] at h46
      obtain ⟨o1, o2⟩ := out_ok hrm hco (wv := w.toInt64) (by rw [h5]; rfl)
      have e2 : ∀ t, ¬ (t = 1 ∨ (28 ≤ t ∧ t ≤ 32) ∨ t = 26 ∨ t = 46 ∨ t = 12 ∨ (50 ≤ t ∧ t ≤ 52)) → mI M3 t = mI M t := fun t ht => by
        rw [hrm.2.1 t (by omega) (by omega), e1 t (by omega)]
      have e226 : mI M3 26 = upd (upd (upd (mI M 26) (f * 6 + 3) a) (f * 6 + 4) b) (f * 6 + 5) c := by rw [hrm.2.1 26 (by omega) (by omega), e26]
      have hIN3 := IN_c (M := M) (M' := M3) (fun t ht => e2 t (by omega)) q.2.2.2.1
      have hIF3 : IF M3 g := by
        refine ⟨fun f3 hf3 => ?_, ?_, ?_⟩
        · have h := q.2.2.1.1 f3 hf3
          rw [e2 25 (by omega), e2 45 (by omega), e226, h46]
          refine ⟨h.1, h.2.1, fun w hw => ?_⟩
          unfold mset3
          rw [upd_at, upd_at, upd_at, upd_at, upd_at, upd_at, h.2.2 w hw]
          have c5 : (f3 * 6 + w = f * 6 + 5) = (6 * f3 + w = 6 * f + 5) := propext (by omega)
          have c4 : (f3 * 6 + w = f * 6 + 4) = (6 * f3 + w = 6 * f + 4) := propext (by omega)
          have c3 : (f3 * 6 + w = f * 6 + 3) = (6 * f3 + w = 6 * f + 3) := propext (by omega)
          simp only [c5, c4, c3]
        · rw [e2 27 (by omega), e2 48 (by omega)]; exact q.2.2.1.2.1
        · rw [e2 48 (by omega)]; exact q.2.2.1.2.2
      refine ⟨_, hv2, o1, fun _ => ?_, ?_⟩
      · rw [o2, hw]
        exact congrArg Int32.toInt64 (sz_ans q hf2 (e1 43 (by decide)) (e1 46 (by decide)) hT)
      · have eo : ∀ f3, szX (pfM (pfM (pfM M f 0 a) f 1 b) f 2 c) f3 0 = szX M f3 0 := fun f3 => by
          unfold szX
          rw [h26, upd_at, if_neg (by omega), upd_at, if_neg (by omega), upd_at, if_neg (by omega)]
          rfl
        refine change (g2 := g) (cnt2 := cnt) q (EC_tr (EC_I (by decide) _) (EC_tr (EC_I (by decide) _) (EC_I (by decide) _))) (fun f _ => rfl) hcoc h5 hrm (fun t ht => by omega) hco ⟨q.1.1, q.1.2.1, q.1.2.2.1, q.1.2.2.2⟩ hMV hIF3 hIN3 ?_
        have := q.2.2.2.2.2.1
        unfold IO sbN at this
        unfold sbN
        simp only [eo]
        exact this
  · have h1 : fpX cnt (mI M 24) x < 0 := by
      rcases h with ⟨h, -⟩ | ⟨-, -, h⟩
      · exact h
      · exact absurd h (by decide)
    subst h3
    have hm : mF M1 x = false := Bool.eq_false_iff.mpr fun z => (INV_mF q x).mp z h1
    refine ⟨1, by decide, h4, 9, _, by decide, c_X10_setSize q.2.1, fun v2 M2 hP => ?_⟩
    rcases hP with ⟨-, hv2, hM⟩ | ⟨z, -⟩ | ⟨z, -⟩
    · subst hM
      exact ⟨_, hv2, rfl, no1 (by decide), Inv_sm (sm_tr (sm_cd _ _) (sm_cd _ _)) hI⟩
    · exact absurd (z.symm.trans hm) (by decide)
    · exact absurd (z.symm.trans hm) (by decide)
  · have h1 : ¬ fpX cnt (mI M 24) x < 0 ∧ aT a b c = false := by
      rcases h with ⟨-, h⟩ | ⟨h1, h2, -⟩
      · exact absurd h (by decide)
      · exact ⟨h1, h2⟩
    subst h3
    have hm := (INV_mF q x).mpr h1.1
    have hT := h1.2
    rw [aT_m] at hT
    refine ⟨2, by decide, h4, 9, _, by decide, c_X10_setSize q.2.1, fun v2 M2 hP => ?_⟩
    rcases hP with ⟨z, -⟩ | ⟨-, -, hv2, hM⟩ | ⟨-, z, -⟩
    · exact absurd (hm.symm.trans z) (by decide)
    · subst hM
      exact ⟨_, hv2, rfl, no1 (by decide), Inv_sm (sm_tr (sm_cd _ _) (sm_cd _ _)) hI⟩
    · exact absurd (z.symm.trans hT) (by decide)
