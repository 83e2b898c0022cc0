/-! the cases of the law: features added -/
theorem adN_at {fr : Nat → Nat} {cnt g j : Nat} : adN fr cnt g j = if j = cnt then g else fr j := rfl
theorem adN_i {fr : Nat → Nat} {cnt g : Nat} (hf : ∀ k, k < cnt → fr k < g) (hij : ∀ i j, i < cnt → j < cnt → fr i = fr j → i = j) : ∀ i j, i < cnt + 1 → j < cnt + 1 → adN fr cnt g i = adN fr cnt g j → i = j := by
  intro i j hi hj e
  rw [adN_at, adN_at] at e
  by_cases a : i = cnt
  · rw [if_pos a] at e
    by_cases b : j = cnt
    · omega
    · rw [if_neg b] at e; have := hf j (by omega); omega
  · rw [if_neg a] at e
    by_cases b : j = cnt
    · rw [if_pos b] at e; have := hf i (by omega); omega
    · rw [if_neg b] at e; exact hij i j (by omega) (by omega) e
/-- whether an added feature would stand behind one that needs it is asked alike -/
theorem ad_ord {cnt g : Nat} {fr : Nat → Nat} {kd kd2 d d2 : Nat → Int32} (hg : g < 40) (hf : ∀ k, k < cnt → fr k < g) (ho : ord cnt fr kd d) (hk : ∀ k, k < cnt → kd2 (fr k) = kd (fr k) ∧ d2 (fr k) = d (fr k)) : ord (cnt + 1) (adN fr cnt g) kd2 d2 ↔ ¬ ∃ k, k < cnt ∧ kd (fr k) = nI 101 ∧ d (fr k) = nI g := by
  constructor
  · rintro h ⟨k, hk1, hk2, hk3⟩
    have e : adN fr cnt g k = fr k := by rw [adN_at, if_neg (by omega)]
    have e2 : adN fr cnt g cnt = g := by rw [adN_at, if_pos rfl]
    have := h k (by omega) (by rw [e, (hk k hk1).1]; exact hk2) cnt (by omega) (by rw [e, e2, (hk k hk1).2]; exact hk3.symm)
    omega
  · intro h j hj hkj i hi e
    by_cases a : j = cnt
    · omega
    · have ej : adN fr cnt g j = fr j := by rw [adN_at, if_neg a]
      have hj2 : j < cnt := by omega
      rw [ej, (hk j hj2).1] at hkj
      rw [ej, (hk j hj2).2] at e
      by_cases b : i = cnt
      · rw [b, adN_at, if_pos rfl] at e
        exact absurd ⟨j, hj2, hkj, e.symm⟩ h
      · rw [adN_at, if_neg b] at e
        exact ho j hj2 hkj i (by omega) e
theorem inX_n : ∀ a, a ≤ 40 → ∀ g, g < 40 → (inX (nI g) (nI 0) (nI a - nI 1) = true ↔ g < a) := by decide +kernel
theorem nb_g {M : Mm} {g cnt bar : Nat} {fr : Nat → Nat} {pc mc : Nat} (q : INV M g cnt bar fr pc mc) (hg : g < 40) : nbO M cnt fr (nI g) = true ↔ ∃ k, k < cnt ∧ mI M 25 (fr k) = nI 101 ∧ szX M (fr k) 0 = nI g := by
  rw [nb_i]
  refine ⟨fun ⟨k, a, _, c, d⟩ => ⟨k, a, c, d⟩, fun ⟨k, a, c, d⟩ => ⟨k, a, fun z => ?_, c, d⟩⟩
  have := (INV_fr q a).1
  have := (nI_eq (by omega) (by omega)).mp z
  omega
theorem or_ad {M M1 : Mm} {g cnt bar : Nat} {fr : Nat → Nat} {pc mc : Nat} (q : INV M g cnt bar fr pc mc) (hc : cnt < 12) (hg : g < 40) (e1 : ∀ t, (40 ≤ t ∧ t ≤ 48) ∨ t = 12 → mI M1 t = mI M t) (kd x y z : Int32) : orX (adM M1 g cnt kd x y z) (cnt + 1) (adN fr cnt g) = true ↔ ¬ nbO M cnt fr (nI g) = true := by
  have hij := (INV_c9 q).2.1
  have hMV1 := MV_W (M' := M1) q.2.1 e1
  have hf : ∀ k, k < cnt → fr k < g := fun k hk => (INV_fr q hk).1
  have m44 : mI (adM M1 g cnt kd x y z) 44 = upd (mI M1 44) cnt (nI g) := rfl
  have m45 : mI (adM M1 g cnt kd x y z) 45 = upd (mI M1 45) g kd := rfl
  have m46 : mI (adM M1 g cnt kd x y z) 46 = madd (mI M1 46) g x y z := rfl
  have m47 : mI (adM M1 g cnt kd x y z) 47 = upd (mI M1 47) g (nI 1) := rfl
  have m43 : mI (adM M1 g cnt kd x y z) 43 = mI M1 43 := rfl
  have m5 : mI (adM M1 g cnt kd x y z) 12 5 = nI (g + 1) := rfl
  have hrow : ∀ k, k < cnt + 1 → mI (adM M1 g cnt kd x y z) 44 k = nI (adN fr cnt g k) ∧ adN fr cnt g k < 40 := fun k hk => by
    rw [m44, upd_at, adN_at]
    by_cases c : k = cnt
    · rw [if_pos c, if_pos c]; exact ⟨rfl, hg⟩
    · rw [if_neg c, if_neg c]
      have := hf k (by omega)
      exact ⟨(hMV1.2.2.2.1 k (by omega)).1, by omega⟩
  have hF : ∀ i, i < cnt + 1 → mF (adM M1 g cnt kd x y z) (nI (adN fr cnt g i)) = true := fun i hi => by
    unfold mF
    have h40 := (hrow i hi).2
    rw [m5, m47, ntX_nI (by omega), Bool.and_eq_true, inX_n (g + 1) (by omega) _ h40, decide_eq_true_iff, upd_at, adN_at]
    by_cases c : i = cnt
    · rw [if_pos c, if_pos rfl]; exact ⟨by omega, by decide⟩
    · have := hf i (by omega)
      rw [if_neg c, if_neg (by omega)]
      exact ⟨by omega, (hMV1.2.2.2.2.2.1 _ (by omega)).mpr ⟨i, by omega, rfl⟩⟩
  rw [or_i (by omega) hrow (adN_i hf hij) hF, nb_g q hg]
  refine ad_ord hg hf (INV_ord q) fun k hk => ?_
  have h1 := hf k hk
  have hd := INV_dm q hk
  refine ⟨?_, ?_⟩
  · rw [m45, upd_at, if_neg (by omega), e1 45 (by omega)]; exact hd.1.symm
  · show dmX (adM M1 g cnt kd x y z) (fr k) 0 = szX M (fr k) 0
    rw [hd.2 0 (by decide)]
    unfold dmX
    rw [m43, m46, e1 43 (by omega)]
    unfold madd
    rw [upd_at, upd_at, upd_at, upd_at, upd_at, upd_at, if_neg (by omega), if_neg (by omega), if_neg (by omega), if_neg (by omega), if_neg (by omega), if_neg (by omega), e1 46 (by omega)]
theorem upd_id (f : Nat → Int32) {i : Nat} {v : Int32} (h : f i = v) : upd f i v = f := by
  funext j
  rw [upd_at]
  split
  · rename_i e; rw [e, h]
  · rfl
/-- a refused addition leaves what holds -/
theorem adF_inv {M : Mm} {g cnt bar : Nat} {fr : Nat → Nat} {pc mc : Nat} (q : INV M g cnt bar fr pc mc) (hg : g < 40) (hc : cnt < 12) {kd x y z : Int32} (hT : mT x = true ∧ mT y = true ∧ mT z = true) : INV (adF M g cnt kd x y z) g cnt bar fr pc mc := by
  have m44 : mI (adF M g cnt kd x y z) 44 = upd (mI M 44) cnt (nI g) := rfl
  have m45 : mI (adF M g cnt kd x y z) 45 = upd (mI M 45) g kd := rfl
  have m46 : mI (adF M g cnt kd x y z) 46 = madd (mI M 46) g x y z := rfl
  have m47 : mI (adF M g cnt kd x y z) 47 = upd (upd (mI M 47) g (nI 1)) g (nI 0) := rfl
  have m48 : mI (adF M g cnt kd x y z) 48 = mI M 48 := by
    show upd (mI M 48) g (nI 0) = _
    exact upd_id _ (q.2.2.1.2.2 g (Nat.le_refl _) hg)
  have mt : ∀ t, ¬ ((44 ≤ t ∧ t ≤ 47) ∨ t = 12 ∨ t = 50 ∨ t = 51 ∨ t = 52) → mI (adF M g cnt kd x y z) t = mI M t := fun t ht => by
    by_cases e : t = 48
    · rw [e]; exact m48
    · unfold adF adS
      rw [mI_sI, if_neg (by omega), mI_sI, if_neg (by omega), mI_sI, if_neg (by omega), mI_sI, if_neg (by omega), mI_sI, if_neg (by omega), mI_sI, if_neg (by omega), mI_sI, if_neg (by omega), re_t (by omega)]
  have m12 : ∀ i, i = 7 ∨ i = 27 ∨ i = 31 → mI (adF M g cnt kd x y z) 12 i = mI M 12 i := fun i hi => by
    rcases hi with rfl | rfl | rfl
    · rfl
    · rfl
    · rfl
  have hf : ∀ k, k < cnt → fr k < g := fun k hk => (INV_fr q hk).1
  have md : ∀ k, k < 240 → ¬ (6 * g ≤ k ∧ k < 6 * g + 6) → madd (mI M 46) g x y z k = mI M 46 k := fun k hk h => by
    unfold madd
    rw [upd_at, upd_at, upd_at, upd_at, upd_at, upd_at, if_neg (by omega), if_neg (by omega), if_neg (by omega), if_neg (by omega), if_neg (by omega), if_neg (by omega)]
  obtain ⟨q1, q2, q3, q4, q5, q6, q7⟩ := q
  obtain ⟨v1, v2, v3, v4, v5, v6, v7, v8, v9, v10⟩ := q2
  refine ⟨IA_c (mt 2 (by omega)) (mt 24 (by omega)) q1, ⟨⟨rfl, v1.2⟩, ⟨rfl, v2.2⟩, by rw [m12 7 (by omega)]; exact v3, fun k hk => ?_, v5, fun f hf40 => ?_, fun k hk => ?_, ?_, ?_, by rw [m48]; exact v10⟩, ⟨fun f hfg => ?_, by rw [m48, mt 27 (by omega)]; exact q3.2.1, by rw [m48]; exact q3.2.2⟩, IN_c (fun t ht => mt t (by omega)) q4, IH_c (by rw [mt 1 (by omega)]) (fun t ht => mt t (by omega)) (fun _ _ => rfl) (fun _ _ => rfl) rfl rfl q5, IO_c (fun t ht => mt t (by omega)) q6, IP_c (mt 5 (by omega)) (m12 27 (by omega)) (m12 31 (by omega)) (fun t ht => mt t (by omega)) (fun _ _ => rfl) q7⟩
  · rw [m44, upd_at, if_neg (by omega)]; exact v4 k hk
  · rw [m47, upd_at, upd_at]
    by_cases e : f = g
    · rw [if_pos e]
      refine ⟨fun h => absurd rfl h, fun ⟨k, hk, h⟩ => ?_⟩
      have := hf k hk
      omega
    · rw [if_neg e, if_neg e]; exact v6 f hf40
  · rw [m46]
    by_cases e : 6 * g ≤ k ∧ k < 6 * g + 6
    · unfold madd
      rw [upd_at, upd_at, upd_at, upd_at, upd_at, upd_at]
      have h1 : mT (nI 1) = true := by decide
      split
      · exact h1
      · split
        · exact h1
        · split
          · exact h1
          · split
            · exact hT.2.2
            · split
              · exact hT.2.1
              · split
                · exact hT.1
                · omega
    · rw [md k hk e]; exact v7 k hk
  · rw [mt 40 (by omega), mt 41 (by omega), mt 42 (by omega)]; exact v8
  · rw [mt 43 (by omega)]; exact v9
  · have h := q3.1 f hfg
    rw [mt 25 (by omega), mt 26 (by omega), m45, m46, upd_at, if_neg (by omega)]
    refine ⟨h.1, h.2.1, fun w hw => ?_⟩
    rw [md _ (by omega) (by omega)]; exact h.2.2 w hw
theorem sp_addFeature {l : Launch} {E : Ev} (hl9 : l.stackTraces = false) (hix : IxR l E) : Sp_addFeature l E Inv := by
  intro M kd x y z hI
  obtain ⟨g, cnt, bar, fr, pc, mc, q⟩ := id hI
  have hb := INV_b q
  obtain ⟨hbc, hij, hof⟩ := INV_c9 q
  have hf : ∀ k, k < cnt → fr k < g := fun k hk => (INV_fr q hk).1
  refine ⟨_, cw_addFeature (by decide) (c_X9_addFeature hl9 hix q.1.1 hb.2.1 (INV_row q) q.1.2.2.1 hb.2.2.1 hbc hb.2.2.2 (INV_hk q) hij hof q.1.2.1 hb.1 hf) (fun N M' h => h.1.elim (fun h => Or.inl h.2) fun h => Or.inr (h.elim (fun h => Or.inl h.2.2) fun h => Or.inr h.2.2.2)) (fun v M' h => ⟨_, h.2.2.2.1⟩), fun v M1 hK => ?_⟩
  rcases hK with ⟨w, M', ⟨⟨h7, hT⟩, ⟨hc, hg⟩, hnb, hv1, hcoc⟩, h4, h5⟩ | ⟨⟨h, h3⟩, h4⟩ | ⟨⟨h, h3⟩, h4⟩ | ⟨⟨h, h3⟩, h4⟩
  · have hw := vI hv1
    rw [aT_m] at hT
    have e1 : ∀ t, ¬ (t = 1 ∨ (28 ≤ t ∧ t ≤ 32) ∨ t = 2 ∨ (24 ≤ t ∧ t ≤ 26)) → mI M1 t = mI M t := fun t ht => by
      rw [h5]
      show mI M' t = _
      rw [coc_t hcoc t (by omega)]
      unfold appM app1
      rw [mI_sI, if_neg (by omega), mI_sI, if_neg (by omega), mI_sI, if_neg (by omega), mI_sI, if_neg (by omega)]
    have ec : ∀ t, t = 25 ∨ t = 26 → mI M1 t = mI (appM M g cnt bar kd x y z) t := fun t ht => by
      rw [h5]
      show mI M' t = _
      rw [coc_t hcoc t (by omega)]
    have hMV1 := MV_W (M' := M1) q.2.1 fun t ht => e1 t (by omega)
    have ho := (or_ad q hc hg (fun t ht => e1 t (by omega)) kd x y z).mpr (by rw [hnb]; decide)
    refine ⟨0, by decide, h4, 9, _, by decide, c_X10_addFeature hMV1, fun v2 M2 hP => ?_⟩
    rcases hP with ⟨z, -⟩ | ⟨-, z, -⟩ | ⟨-, -, z, -⟩ | ⟨-, -, -, hv2, hrm, hMV, hco⟩
    · exact absurd ⟨h7, hT⟩ z
    · exact absurd ⟨hc, hg⟩ z
    · exact absurd (ho.symm.trans z) (by decide)
    · generalize hb2 : (if bar = cnt then cnt + 1 else bar) = b2 at *
      obtain ⟨o1, o2⟩ := out_ok hrm hco (wv := w.toInt64) (by rw [h5]; rfl)
      have m45 : mI (adB M1 g cnt b2 kd x y z) 45 = upd (mI M1 45) g kd := rfl
      have m46 : mI (adB M1 g cnt b2 kd x y z) 46 = madd (mI M1 46) g x y z := rfl
      have m48 : mI (adB M1 g cnt b2 kd x y z) 48 = upd (mI M1 48) g (nI 0) := rfl
      have e2 : ∀ t, ¬ (t = 1 ∨ (28 ≤ t ∧ t ≤ 32) ∨ t = 2 ∨ (24 ≤ t ∧ t ≤ 26) ∨ (44 ≤ t ∧ t ≤ 48) ∨ t = 12 ∨ (50 ≤ t ∧ t ≤ 52)) → mI (adB M1 g cnt b2 kd x y z) t = mI M t := fun t ht => by
        rw [hrm.2.1 t (by omega) (by omega), e1 t (by omega)]
      have e225 : mI (adB M1 g cnt b2 kd x y z) 25 = upd (mI M 25) g kd := by
        rw [hrm.2.1 25 (by omega) (by omega), ec 25 (by omega)]; rfl
      have e226 : mI (adB M1 g cnt b2 kd x y z) 26 = fun i => if i = g * 6 then x else if i = g * 6 + 1 then y else if i = g * 6 + 2 then z else if g * 6 + 3 ≤ i ∧ i < g * 6 + 6 then nI 1 else mI M 26 i := by
        rw [hrm.2.1 26 (by omega) (by omega), ec 26 (by omega)]; rfl
      have hIF3 : IF (adB M1 g cnt b2 kd x y z) (g + 1) := by
        refine ⟨fun f hfg => ?_, fun f hf40 => ?_, fun f hfg hf40 => ?_⟩
        · rw [e225, m45, e226, m46, e1 45 (by omega), e1 46 (by omega), upd_at, upd_at]
          by_cases e : f = g
          · rw [if_pos e, if_pos e]
            refine ⟨rfl, h7, fun w hw => ?_⟩
            subst e
            unfold madd
            simp only [upd_at]
            rcases (show w = 0 ∨ w = 1 ∨ w = 2 ∨ w = 3 ∨ w = 4 ∨ w = 5 by omega) with e | e | e | e | e | e <;> subst e <;> simp <;> omega
          · rw [if_neg e, if_neg e]
            have h := q.2.2.1.1 f (by omega)
            refine ⟨h.1, h.2.1, fun w hw => ?_⟩
            unfold madd
            dsimp only
            rw [upd_at, upd_at, upd_at, upd_at, upd_at, upd_at, if_neg (by omega), if_neg (by omega), if_neg (by omega), if_neg (by omega), if_neg (by omega), if_neg (by omega), if_neg (by omega), if_neg (by omega), if_neg (by omega), if_neg (by omega)]
            exact h.2.2 w hw
        · rw [e2 27 (by omega), m48, e1 48 (by omega), upd_id _ (show mI M 48 g = nI 0 from q.2.2.1.2.2 g (Nat.le_refl _) hg)]
          exact q.2.2.1.2.1 f hf40
        · rw [m48, e1 48 (by omega), upd_id _ (show mI M 48 g = nI 0 from q.2.2.1.2.2 g (Nat.le_refl _) hg)]
          exact q.2.2.1.2.2 f (by omega) hf40
      have hIA : IA (appM M g cnt bar kd x y z) (g + 1) (cnt + 1) b2 (adN fr cnt g) := by
        refine ⟨rfl, rfl, ?_, fun k hk => ?_⟩
        · show nI (if bar = cnt then cnt + 1 else bar) = _
          rw [hb2]
        · show upd (mI M 24) cnt (nI g) k = _
          rw [upd_at, adN_at]
          by_cases c : k = cnt
          · rw [if_pos c, if_pos c]
          · rw [if_neg c, if_neg c]; exact (INV_row q k (by omega)).1
      refine ⟨_, hv2, o1, fun _ => by rw [o2, hw], ?_⟩
      refine change (Me := appM M g cnt bar kd x y z) q ⟨fun t ht => ?_, rfl⟩ (fun f hfg => ?_) hcoc h5 hrm (fun t ht => by have ht : 44 ≤ t ∧ t ≤ 48 := ht; omega) hco hIA hMV hIF3 (IN_c (fun t ht => e2 t (by omega)) q.2.2.2.1) ?_
      · unfold appM app1
        rw [mI_sI, if_neg (by omega), mI_sI, if_neg (by omega), mI_sI, if_neg (by omega), mI_sI, if_neg (by omega)]
      · show upd (mI M 25) g kd f = _
        rw [upd_at, if_neg (by omega)]
      · rw [sb_i (by omega) (fun k hk => ⟨hIA.2.2.2 k hk, by
          rw [adN_at]
          by_cases c : k = cnt
          · rw [if_pos c]; exact hg
          · rw [if_neg c]; exact (INV_fr q (by omega)).2⟩) (adN_i hf hij)]
        refine (ad_ord hg hf (INV_ord q) fun k hk => ?_).mpr fun z => ?_
        · have h1 := hf k hk
          refine ⟨?_, ?_⟩
          · show upd (mI M 25) g kd (fr k) = _
            rw [upd_at, if_neg (by omega)]
          · show valX (mI M 23) ((fun i => if i = g * 6 then x else if i = g * 6 + 1 then y else if i = g * 6 + 2 then z else if g * 6 + 3 ≤ i ∧ i < g * 6 + 6 then nI 1 else mI M 26 i) (fr k * 6 + 0)) = szX M (fr k) 0
            dsimp only
            rw [if_neg (by omega), if_neg (by omega), if_neg (by omega), if_neg (by omega)]
            rfl
        · have := (nb_g q hg).mpr z
          rw [hnb] at this; exact absurd this (by decide)
  · have h1 : ¬ (seven kd ∧ aT x y z = true) := by
      rcases h with ⟨h, -⟩ | ⟨-, -, h⟩ | ⟨-, -, -, h⟩
      · exact h
      · exact absurd h (by decide)
      · exact absurd h (by decide)
    rw [aT_m] at h1
    subst h3
    refine ⟨1, by decide, h4, 9, _, by decide, c_X10_addFeature q.2.1, fun v2 M2 hP => ?_⟩
    rcases hP with ⟨-, hv2, hM⟩ | ⟨z, -⟩ | ⟨z, -⟩ | ⟨z, -⟩
    · subst hM
      exact ⟨_, hv2, rfl, no1 (by decide), Inv_sm (sm_tr (sm_cd _ _) (sm_cd _ _)) hI⟩
    · exact absurd z h1
    · exact absurd z h1
    · exact absurd z h1
  · have h1 : (seven kd ∧ aT x y z = true) ∧ ¬ (cnt < 12 ∧ g < 40) := by
      rcases h with ⟨-, h⟩ | ⟨h1, h2, -⟩ | ⟨-, -, -, h⟩
      · exact absurd h (by decide)
      · exact ⟨h1, h2⟩
      · exact absurd h (by decide)
    rw [aT_m] at h1
    subst h3
    refine ⟨2, by decide, h4, 9, _, by decide, c_X10_addFeature q.2.1, fun v2 M2 hP => ?_⟩
    rcases hP with ⟨z, -⟩ | ⟨-, -, hv2, hM⟩ | ⟨-, z, -⟩ | ⟨-, z, -⟩
    · exact absurd h1.1 z
    · subst hM
      exact ⟨_, hv2, rfl, no1 (by decide), Inv_sm (sm_tr (sm_cd _ _) (sm_cd _ _)) hI⟩
    · exact absurd z h1.2
    · exact absurd z h1.2
  · have h1 : (seven kd ∧ aT x y z = true) ∧ (cnt < 12 ∧ g < 40) ∧ nbO M cnt fr (nI g) = true := by
      rcases h with ⟨-, h⟩ | ⟨-, -, h⟩ | ⟨h1, h2, h5, -⟩
      · exact absurd h (by decide)
      · exact absurd h (by decide)
      · exact ⟨h1, h2, h5⟩
    rw [aT_m] at h1
    subst h3
    obtain ⟨h7, hcg, hnb⟩ := h1
    refine ⟨3, by decide, h4, 9, _, by decide, c_X10_addFeature q.2.1, fun v2 M2 hP => ?_⟩
    rcases hP with ⟨z, -⟩ | ⟨-, z, -⟩ | ⟨-, -, -, hv2, hM⟩ | ⟨-, -, ho, -⟩
    · exact absurd h7 z
    · exact absurd hcg z
    · subst hM
      have hT3 : mT x = true ∧ mT y = true ∧ mT z = true := by
        have h8 := h7.2
        unfold mT3 at h8
        have := Bool.and_eq_true_iff.mp h8
        have t2 := Bool.and_eq_true_iff.mp this.1
        exact ⟨t2.1, t2.2, this.2⟩
      exact ⟨_, hv2, rfl, no1 (by decide), Inv_sm (sm_cd _ _) ⟨g, cnt, bar, fr, pc, mc, adF_inv q hcg.2 hcg.1 hT3⟩⟩
    · exact absurd hnb ((or_ad q hcg.1 hcg.2 (fun t _ => rfl) kd x y z).mp ho)
