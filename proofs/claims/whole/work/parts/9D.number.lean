/-! the case of the law: a formula given -/
theorem sI_same9 {M : Mm} {t : Nat} {f : Nat → Int32} (h : f = mI M t) : sI M t f = M := by
  refine Prod.ext (funext fun u => ?_) rfl
  show (if u = t then f else mI M u) = mI M u
  by_cases e : u = t
  · rw [if_pos e, e, h]
  · rw [if_neg e]
theorem pF9_t {M : Mm} {n : Nat} {a c b : Int32} {t : Nat} (h : ¬ (20 ≤ t ∧ t ≤ 23)) : mI (putF M n a c b) t = mI M t := by
  unfold putF put3
  rw [mI_sI, if_neg (by omega), mI_sI, if_neg (by omega), mI_sI, if_neg (by omega), mI_sI, if_neg (by omega)]
theorem pF9_4 (M : Mm) (n : Nat) (a c b : Int32) : mI (putF M n a c b) 20 = upd (mI M 20) n a ∧ mI (putF M n a c b) 21 = upd (mI M 21) n c ∧ mI (putF M n a c b) 22 = upd (mI M 22) n b ∧ mI (putF M n a c b) 23 = rrX (upd (mI M 20) n a) (upd (mI M 21) n c) (upd (mI M 22) n b) (mI M 23) 8 := by
  unfold putF put3
  refine ⟨?_, ?_, ?_, ?_⟩
  · rw [mI_sI, if_neg (by decide), mI_sI, if_neg (by decide), mI_sI, if_neg (by decide), mI_sI, if_pos rfl]
  · rw [mI_sI, if_neg (by decide), mI_sI, if_neg (by decide), mI_sI, if_pos rfl]
  · rw [mI_sI, if_neg (by decide), mI_sI, if_pos rfl]
  · rw [mI_sI, if_pos rfl]
theorem pF9_back {M : Mm} {n : Nat} {a c b : Int32} (h : ∀ w, (∀ m, 8 ≤ m → w m = mI M 23 m) → rrX (mI M 20) (mI M 21) (mI M 22) w 8 = mI M 23) : putF (putF M n a c b) n (mI M 20 n) (mI M 21 n) (mI M 22 n) = M := by
  obtain ⟨m20, m21, m22, m23⟩ := pF9_4 M n a c b
  have ht := fun t => pF9_t (M := M) (n := n) (a := a) (c := c) (b := b) (t := t)
  have h2 : (putF M n a c b).2 = M.2 := rfl
  generalize putF M n a c b = A at *
  have e := h (mI A 23) fun m hm => by rw [m23]; exact sv_rge hm 8
  unfold putF put3
  rw [m20, m21, m22, upd_back, upd_back, upd_back, e]
  refine Prod.ext (funext fun t => ?_) h2
  show (if t = 23 then mI M 23 else if t = 22 then mI M 22 else if t = 21 then mI M 21 else if t = 20 then mI M 20 else mI A t) = mI M t
  by_cases c1 : t = 23
  · rw [if_pos c1, c1]
  rw [if_neg c1]
  by_cases c2 : t = 22
  · rw [if_pos c2, c2]
  rw [if_neg c2]
  by_cases c3 : t = 21
  · rw [if_pos c3, c3]
  rw [if_neg c3]
  by_cases c4 : t = 20
  · rw [if_pos c4, c4]
  rw [if_neg c4]
  exact ht t (by omega)
set_option maxHeartbeats 1000000 in
theorem sp_setNumber {l : Launch} {E : Ev} (hl9 : l.stackTraces = false) : Sp_setNumber l E Inv := by
  intro M x a c b hI
  obtain ⟨g, cnt, bar, fr, pc, mc, q⟩ := id hI
  have hb := INV_b q
  obtain ⟨hbc, hij, hof⟩ := INV_c9 q
  obtain ⟨hn1, hn2, hn3⟩ := q.2.2.2.1
  have hv7 := q.2.1.2.2.2.2.2.2.1
  have hv8 := q.2.1.2.2.2.2.2.2.2.1
  have hop : ∀ n, n < 8 → vp_nar .char (mI M 21 n) = mI M 21 n := fun n hn => by
    rcases (hn1 n hn).2.1 with e | ⟨e, -⟩
    · rw [e]; exact op_vp (hv8 n hn).2.2
    · rw [e]; decide
  have hcls : (isNm x = true ∧ isOp c = true ∧ isT a = true ∧ isT b = true) ↔ (in7 x = true ∧ mT a = true ∧ mT b = true ∧ isOp c = true) := by
    rw [isNm_7, isT_m, isT_m]
    exact ⟨fun h => ⟨h.1, h.2.2.1, h.2.2.2, h.2.1⟩, fun h => ⟨h.1, h.2.2.2, h.2.1, h.2.2.1⟩⟩
  -- the class's formulas settle to its values
  have hac : acy (mI M 20) (mI M 22) := by
    obtain ⟨ρ, h⟩ := hn3
    refine ⟨ρ, fun n hn m hm e => h n hn m hm ?_⟩
    rw [(hn1 n hn).1, (hn1 n hn).2.2.1] at e; exact e
  have hfx : ∀ n, n < 8 → rdX (mI M 20) (mI M 21) (mI M 22) (mI M 23) 8 n = mI M 23 n := fun n hn => by
    rw [sv_rd (F' := mI M 40) (O' := mI M 42) (S' := mI M 41) (w := mI M 43) (fun n hn => (hn1 n hn).1.symm) (fun n hn => (hn1 n hn).2.2.1.symm) (fun n hn => (hn1 n hn).2.1) (fun n hn => (hn1 n hn).2.2.2) 8 (Nat.le_refl _) n hn, (hn1 n hn).2.2.2]
    exact hn2 n hn
  have hsm43 : ∀ V, V = mI M 43 → sm M (cdM (sI (reM M) 43 V) (nI 2)) := fun V hV => by
    have e43 : mI (reM M) 43 = mI M 43 := re_t (by omega)
    rw [sI_same9 (by rw [hV, e43])]
    exact sm_tr (sm_re M) (sm_cd _ _)
  -- needs
  have hF : ∀ n, n < 8 → ∀ k, k < 8 → ¬ k = n → upd (mI M 40) n a k = mI M 20 k ∧ upd (mI M 41) n b k = mI M 22 k := fun n hn k hk e => by
    rw [upd_at, upd_at, if_neg e, if_neg e]
    exact ⟨(hn1 k hk).1.symm, (hn1 k hk).2.2.1.symm⟩
  have hrn : ∀ n w, n < 8 → rnS (upd (mI M 40) n a) (upd (mI M 41) n b) n w → hasB (ndR (mI M 20) (mI M 22) (needX a ||| needX b) 8) n = w := fun n w hn h =>
    rn_eq hn (hF n hn) (by rw [upd_at, if_pos rfl]) (by rw [upd_at, if_pos rfl]) h
  -- values
  have hval : ∀ n, n < 8 → ∀ k, k < 8 → mI (putF M n a c b) 23 k = fnV (upd (mI M 40) n a) (upd (mI M 42) n c) (upd (mI M 41) n b) (mI M 43) k := fun n hn k hk => by
    rw [(pF9_4 M n a c b).2.2.2]
    refine sv_rr (fun j hj => ?_) (fun j hj => ?_) (fun j hj => ?_) (fun j hj => (hn1 j hj).2.2.2) 8 k hk
    · rw [upd_at, upd_at, (hn1 j hj).1]
    · rw [upd_at, upd_at, (hn1 j hj).2.2.1]
    · rw [upd_at, upd_at]
      by_cases e : j = n
      · rw [if_pos e, if_pos e]; exact Or.inl rfl
      · rw [if_neg e, if_neg e]; exact (hn1 j hj).2.1
  -- the order, behind the change
  have hord : ∀ n, n < 8 → ∀ A : Mm, mI A 44 = mI M 44 → mI A 45 = mI M 45 → mI A 46 = mI M 46 → mI A 47 = mI M 47 → mI A 12 5 = mI M 12 5 → mI A 43 = fnV (upd (mI M 40) n a) (upd (mI M 42) n c) (upd (mI M 41) n b) (mI M 43) → (sbN (putF M n a c b) cnt fr = true ↔ orX A cnt fr = true) := fun n hn A e44 e45 e46 e47 e12 e43 => by
    have hrow := INV_row q
    rw [sb_i hb.2.1 (fun k hk => by rw [pF9_t (by omega)]; exact hrow k hk) hij, or_i hb.2.1 (fun k hk => by rw [e44]; exact ⟨(q.2.1.2.2.2.1 k hk).1, (hrow k hk).2⟩) hij (fun i hi => by
      have : mF A (nI (fr i)) = mF M (nI (fr i)) := by unfold mF; rw [e12, e47]
      rw [this]; exact (MV_mF q.2.1 (hrow i hi).2).mpr ⟨i, hi, rfl⟩)]
    refine ord_c fun k hk => ⟨rfl, ?_, ?_⟩
    · rw [pF9_t (by omega), e45]; exact (INV_dm q hk).1
    · have hfk := INV_fr q hk
      show szX (putF M n a c b) (fr k) 0 = dmX A (fr k) 0
      unfold szX dmX
      have ht := hv7 (6 * fr k + 0) (by omega)
      rw [pF9_t (t := 26) (by omega), e46, e43, mTm_v ht, (q.2.2.1.1 _ hfk.1).2.2 0 (by decide)]
      exact sv_val fun j hj _ => hval n hn j hj
  refine ⟨_, cw_setNumber (by decide) (c_X9_setNumber hl9 q.1.1 hb.2.1 (INV_row q) q.1.2.2.1 hb.2.2.1 hbc hb.2.2.2 (INV_hk q) hij hof hop) (fun N M' h => ?_) (fun v M' h => by obtain ⟨-, n, -, -, -, -, hv, -⟩ := h; exact ⟨_, hv⟩), fun v M1 hK => ?_⟩
  · rcases h with ⟨-, h, -⟩ | ⟨-, n, -, -, -, h, -⟩ | ⟨-, n, -, -, -, -, h, -⟩
    · exact Or.inl h
    · exact Or.inr h
    · exact Or.inr h
  rcases hK with ⟨w, M', ⟨hcl, n, hn, hx, hno, hso, hv1, hcoc⟩, h4, h5⟩ | ⟨h, h4⟩ | ⟨h, h4⟩
  · have hw := vI hv1
    subst hx
    have hcm := hcls.mp hcl
    have e1 : ∀ t, ¬ (t = 1 ∨ (28 ≤ t ∧ t ≤ 32) ∨ (20 ≤ t ∧ t ≤ 23)) → mI M1 t = mI M t := fun t ht => by
      rw [h5]
      show mI M' t = _
      rw [coc_t hcoc t (by omega), pF9_t (by omega)]
    have eP : ∀ t, 20 ≤ t → t ≤ 23 → mI M1 t = mI (putF M n a c b) t := fun t h1 h2 => by
      rw [h5]
      show mI M' t = _
      rw [coc_t hcoc t (by omega)]
    have hMV1 := MV_W (M' := M1) q.2.1 fun t ht => e1 t (by omega)
    have e40 := e1 40 (by decide)
    have e41 := e1 41 (by decide)
    have e42 := e1 42 (by decide)
    have e43 := e1 43 (by decide)
    refine ⟨0, by decide, h4, 9, _, by decide, c_X10_setNumber hMV1, fun v2 M2 hP => ?_⟩
    rw [e40, e41, e42, e43] at hP
    rcases hP with ⟨z, -⟩ | ⟨-, n2, hn8, en, hP⟩
    · exact absurd hcm z
    · have en := (nI_eq (by omega) (by omega)).mp en
      subst en
      have hA : ∀ t, 44 ≤ t ∧ t ≤ 47 → mI (sI (pnM M1 n a c b) 43 (fnV (upd (mI M 40) n a) (upd (mI M 42) n c) (upd (mI M 41) n b) (mI M 43))) t = mI M t := fun t ht => by
        rw [mI_sI, if_neg (by omega), pn_t (by omega), re_t (by omega), e1 t (by omega)]
      have hA12 : mI (sI (pnM M1 n a c b) 43 (fnV (upd (mI M 40) n a) (upd (mI M 42) n c) (upd (mI M 41) n b) (mI M 43))) 12 5 = mI M 12 5 := by
        rw [mI_sI, if_neg (by decide), pn_t (by omega), re_12, upd_at, if_neg (by decide), upd_at, if_neg (by decide), upd_at, if_neg (by decide), e1 12 (by decide)]
      have ho := hord n hn _ (hA 44 (by omega)) (hA 45 (by omega)) (hA 46 (by omega)) (hA 47 (by omega)) hA12 (by rw [mI_sI, if_pos rfl])
      rcases hP with ⟨z, -⟩ | ⟨-, z, -⟩ | ⟨-, -, hv2, hrm, hMV, hco⟩
      · have := hrn n true hn z
        rw [hno] at this; exact absurd this (by decide)
      · exact absurd ((ho.mp hso).symm.trans z) (by decide)
      · obtain ⟨o1, o2⟩ := out_ok hrm hco (wv := w.toInt64) (by rw [h5]; rfl)
        have m40 : mI (sI (pnM M1 n a c b) 43 (fnV (upd (mI M 40) n a) (upd (mI M 42) n c) (upd (mI M 41) n b) (mI M 43))) 40 = upd (mI M 40) n a := by rw [← e40]; rfl
        have m41 : mI (sI (pnM M1 n a c b) 43 (fnV (upd (mI M 40) n a) (upd (mI M 42) n c) (upd (mI M 41) n b) (mI M 43))) 41 = upd (mI M 41) n b := by rw [← e41]; rfl
        have m42 : mI (sI (pnM M1 n a c b) 43 (fnV (upd (mI M 40) n a) (upd (mI M 42) n c) (upd (mI M 41) n b) (mI M 43))) 42 = upd (mI M 42) n c := by rw [← e42]; rfl
        have m43 : mI (sI (pnM M1 n a c b) 43 (fnV (upd (mI M 40) n a) (upd (mI M 42) n c) (upd (mI M 41) n b) (mI M 43))) 43 = fnV (upd (mI M 40) n a) (upd (mI M 42) n c) (upd (mI M 41) n b) (mI M 43) := by rw [mI_sI, if_pos rfl]
        refine ⟨_, hv2, o1, fun _ => by rw [o2, hw, hval n hn n hn], ?_⟩
        generalize sI (pnM M1 n a c b) 43 (fnV (upd (mI M 40) n a) (upd (mI M 42) n c) (upd (mI M 41) n b) (mI M 43)) = A at *
        have e2 : ∀ t, ¬ (t = 1 ∨ (28 ≤ t ∧ t ≤ 32) ∨ (20 ≤ t ∧ t ≤ 23) ∨ (40 ≤ t ∧ t ≤ 43) ∨ t = 12 ∨ (50 ≤ t ∧ t ≤ 52)) → mI A t = mI M t := fun t ht => by
          rw [hrm.2.1 t (by omega) (by omega), e1 t (by omega)]
        have e2P : ∀ t, 20 ≤ t → t ≤ 23 → mI A t = mI (putF M n a c b) t := fun t h1 h2 => by
          rw [hrm.2.1 t (by omega) (by omega), eP t h1 h2]
        obtain ⟨p20, p21, p22, p23⟩ := pF9_4 M n a c b
        have hacy : acy (upd (mI M 40) n a) (upd (mI M 41) n b) := acy_new hn (hF n hn) (by rw [upd_at, if_pos rfl]) (by rw [upd_at, if_pos rfl]) hac hno
        have hIN : IN A := by
          refine ⟨fun k hk => ?_, ?_, ?_⟩
          · rw [e2P 20 (by decide) (by decide), e2P 21 (by decide) (by decide), e2P 22 (by decide) (by decide), e2P 23 (by decide) (by decide), m40, m41, m42, m43, p20, p21, p22]
            refine ⟨?_, ?_, ?_, hval n hn k hk⟩
            · rw [upd_at, upd_at, (hn1 k hk).1]
            · rw [upd_at, upd_at]
              by_cases e : k = n
              · rw [if_pos e, if_pos e]; exact Or.inl rfl
              · rw [if_neg e, if_neg e]; exact (hn1 k hk).2.1
            · rw [upd_at, upd_at, (hn1 k hk).2.2.1]
          · rw [m40, m41, m42, m43]
            exact sv_fix hacy
          · rw [m40, m41]; exact hacy
        refine change (Me := putF M n a c b) (g2 := g) (cnt2 := cnt) q ⟨fun t ht => pF9_t (by omega), rfl⟩ (fun f _ => by rw [pF9_t (by omega)]) hcoc h5 hrm (fun t ht => by omega) hco ?_ hMV (IF_c (fun t ht => e2 t (by omega)) q.2.2.1) hIN hso
        exact IA_c (pF9_t (by omega)) (pF9_t (by omega)) q.1
  · have h1 : ¬ (in7 x = true ∧ mT a = true ∧ mT b = true ∧ isOp c = true) ∧ M1 = M := by
      rcases h with ⟨h, -, h3⟩ | ⟨-, n, -, -, -, h, -⟩ | ⟨-, n, -, -, -, -, h, -⟩
      · exact ⟨fun z => h (hcls.mpr z), h3⟩
      · exact absurd h (by decide)
      · exact absurd h (by decide)
    obtain ⟨h1, h3⟩ := h1
    subst h3
    refine ⟨1, by decide, h4, 9, _, by decide, c_X10_setNumber q.2.1, fun v2 M2 hP => ?_⟩
    rcases hP with ⟨-, hv2, hM⟩ | ⟨z, -⟩
    · subst hM
      exact ⟨_, hv2, rfl, no1 (by decide), Inv_sm (sm_tr (sm_cd _ _) (sm_cd _ _)) hI⟩
    · exact absurd z h1
  · have h1 : (in7 x = true ∧ mT a = true ∧ mT b = true ∧ isOp c = true) ∧ M1 = M ∧ ∃ n, n < 8 ∧ x = nI n ∧ (hasB (ndR (mI M 20) (mI M 22) (needX a ||| needX b) 8) n = true ∨ sbN (putF M n a c b) cnt fr = false) := by
      rcases h with ⟨-, h, -⟩ | ⟨hc, n, hn, hx, h2, -, h3⟩ | ⟨hc, n, hn, hx, -, h2, -, h3⟩
      · exact absurd h (by decide)
      · exact ⟨hcls.mp hc, h3, n, hn, hx, Or.inl h2⟩
      · refine ⟨hcls.mp hc, h3.trans (pF9_back fun w hw => sv_back hac hfx hw), n, hn, hx, Or.inr h2⟩
    obtain ⟨hcm, h3, n, hn, hx, hbad⟩ := h1
    subst h3 hx
    refine ⟨2, by decide, h4, 9, _, by decide, c_X10_setNumber q.2.1, fun v2 M2 hP => ?_⟩
    rcases hP with ⟨z, -⟩ | ⟨-, n2, hn8, en, hP⟩
    · exact absurd hcm z
    · have en := (nI_eq (by omega) (by omega)).mp en
      subst en
      have hA : ∀ t, 44 ≤ t ∧ t ≤ 47 → mI (sI (pnM M1 n a c b) 43 (fnV (upd (mI M1 40) n a) (upd (mI M1 42) n c) (upd (mI M1 41) n b) (mI M1 43))) t = mI M1 t := fun t ht => by
        rw [mI_sI, if_neg (by omega), pn_t (by omega), re_t (by omega)]
      have hA12 : mI (sI (pnM M1 n a c b) 43 (fnV (upd (mI M1 40) n a) (upd (mI M1 42) n c) (upd (mI M1 41) n b) (mI M1 43))) 12 5 = mI M1 12 5 := by
        rw [mI_sI, if_neg (by decide), pn_t (by omega), re_12, upd_at, if_neg (by decide), upd_at, if_neg (by decide), upd_at, if_neg (by decide)]
      have ho := hord n hn _ (hA 44 (by omega)) (hA 45 (by omega)) (hA 46 (by omega)) (hA 47 (by omega)) hA12 (by rw [mI_sI, if_pos rfl])
      have hst : ∀ V, (∀ m, 8 ≤ m → V m = mI M1 43 m) → fnV (mI M1 40) (mI M1 42) (mI M1 41) V = mI M1 43 := fun V hV => sv_back hn3 hn2 hV
      rcases hP with ⟨-, hv2, hM⟩ | ⟨-, -, hv2, hM⟩ | ⟨z1, z2, -⟩
      · subst hM
        exact ⟨_, hv2, rfl, no1 (by decide), Inv_sm (hsm43 _ (hst _ fun _ _ => rfl)) hI⟩
      · subst hM
        exact ⟨_, hv2, rfl, no1 (by decide), Inv_sm (hsm43 _ (hst _ fun m hm => sv_rge hm 8)) hI⟩
      · have h1 := hrn n false hn z1
        have h2 := ho.mpr z2
        rcases hbad with z | z
        · rw [h1] at z; exact absurd z (by decide)
        · rw [h2] at z; exact absurd z (by decide)
