/-! the cases of the law, first: questions -/
theorem rgX (x : Int32) {n : Nat} (hn : n + 1 < 2 ^ 31) : decide (¬ x < 0 ∧ ¬ nI (n + 1) ≤ x) = inX x (nI 0) (nI n) := by
  unfold inX
  apply decide_eq_decide.mpr
  have e0 : (0 : Int32).toInt = 0 := by decide
  rw [Int32.lt_iff_toInt_lt, Int32.le_iff_toInt_le, Int32.lt_iff_toInt_lt, Int32.lt_iff_toInt_lt, nI_toInt hn, nI_toInt (show n < 2 ^ 31 by omega), nI_toInt (show 0 < 2 ^ 31 by decide), e0]
  omega
theorem isNm_7 (x : Int32) : isNm x = in7 x := rgX x (n := 7) (by decide)
theorem sdX_5 (x : Int32) : sdX x = in5 x := rgX x (n := 5) (by decide)
theorem axX_2 (x : Int32) : axX x = in2 x := rgX x (n := 2) (by decide)
theorem prX_i (x : Int32) {c : Nat} (hc : c ≤ 6) : prX (nI c) x = inX x (nI 0) (nI c - nI 1) := by
  unfold prX inX
  apply decide_eq_decide.mpr
  have e0 : (0 : Int32).toInt = 0 := by decide
  have e1 : (nI c - nI 1).toInt = (c : Int) - 1 := by
    rw [fb_subI (by rw [nI_toInt (by omega), nI_toInt (by decide)]; omega) (by rw [nI_toInt (by omega), nI_toInt (by decide)]; omega), nI_toInt (by omega), nI_toInt (by decide)]; rfl
  rw [Int32.lt_iff_toInt_lt, Int32.lt_iff_toInt_lt, Int32.lt_iff_toInt_lt, Int32.lt_iff_toInt_lt, nI_toInt (by omega), nI_toInt (by decide), e0, e1]
  omega
theorem prX_n {x : Int32} {c : Nat} (hc : c ≤ 6) (h : prX (nI c) x = true) : ∃ p, p < c ∧ x = nI p := by
  have h := of_decide_eq_true h
  exact nn_lt (by omega) h.1 (fun q => absurd h.2 (Int32.not_lt.mpr q))
theorem ins_f {x y z : Int32} (h : insd x y z = false) : clX x y z = -1 := by
  unfold clX
  refine if_neg fun q => ?_
  rw [in7_e, in7_e, in7_e, ← insd_e, h] at q
  exact absurd q (by decide)
theorem ins_n {x y z : Int32} (h : insd x y z = true) : ∃ n, n < 512 ∧ x = nI (alN n 0) ∧ y = nI (alN n 1) ∧ z = nI (alN n 2) ∧ clX x y z = nI n := by
  have g := (insd_e x y z).mp h
  obtain ⟨a, ha, rfl⟩ := i8 (b := 8) (by decide) (show 0 ≤ x.toInt ∧ x.toInt < (8 : Nat) by omega)
  obtain ⟨b, hb, rfl⟩ := i8 (b := 8) (by decide) (show 0 ≤ y.toInt ∧ y.toInt < (8 : Nat) by omega)
  obtain ⟨c, hc, rfl⟩ := i8 (b := 8) (by decide) (show 0 ≤ z.toInt ∧ z.toInt < (8 : Nat) by omega)
  have hn : 64 * a + 8 * b + c < 512 := by omega
  have e0 : alN (64 * a + 8 * b + c) 0 = a := by rw [al_0]; omega
  have e1 : alN (64 * a + 8 * b + c) 1 = b := by rw [al_1]; omega
  have e2 : alN (64 * a + 8 * b + c) 2 = c := by rw [al_2]; omega
  refine ⟨_, hn, by rw [e0], by rw [e1], by rw [e2], (clX_at hn).mpr ?_⟩
  rw [e0, e1, e2]
  exact ⟨nI_toInt (by omega), nI_toInt (by omega), nI_toInt (by omega)⟩
theorem cel_n (F : Nat → Int64) {n : Nat} (hn : n < 512) : cel F (nI (alN n 0)) (nI (alN n 1)) (nI (alN n 2)) = cb F n := by
  unfold cel
  rw [insd_n (alN_lt hn 0) (alN_lt hn 1) (alN_lt hn 2), Bool.true_and, cl8 (alN_lt hn 0), cl8 (alN_lt hn 1), cl8 (alN_lt hn 2)]
  rfl
theorem vI {a b : Int32} (h : some (Value.int a) = some (.int b)) : a = b := Value.int.inj (Option.some.inj h)
theorem fp_c {cnt : Nat} {r s : Nat → Int32} (h : ∀ k, k < cnt → r k = s k) (x : Int32) : fpX cnt r x = fpX cnt s x := by
  by_cases e : ∃ k, k < cnt ∧ s k = x
  · obtain ⟨k, hk, h1, h2⟩ := fb_first e
    rw [fpX_t hk (fun j hj q => h2 j hj (by rw [← h j (by omega)]; exact q)) (by rw [h k hk]; exact h1), fpX_t hk h2 h1]
  · rw [fpX_f (fun j hj q => e ⟨j, hj, by rw [← h j hj]; exact q⟩), fpX_f (fun j hj q => e ⟨j, hj, q⟩)]
theorem INV_row {M : Mm} {g cnt bar : Nat} {fr : Nat → Nat} {pc mc : Nat} (q : INV M g cnt bar fr pc mc) : ∀ k, k < cnt → mI M 24 k = nI (fr k) ∧ fr k < 40 := fun k hk => ⟨q.1.2.2.2 k hk, (INV_fr q hk).2⟩
theorem INV_fp {M : Mm} {g cnt bar : Nat} {fr : Nat → Nat} {pc mc : Nat} (q : INV M g cnt bar fr pc mc) (x : Int32) : fpX cnt (mI M 24) x = fpX cnt (mI M 44) x := fp_c (fun k hk => by rw [(INV_row q k hk).1, (q.2.1.2.2.2.1 k hk).1]) x
theorem INV_mF {M : Mm} {g cnt bar : Nat} {fr : Nat → Nat} {pc mc : Nat} (q : INV M g cnt bar fr pc mc) (x : Int32) : mF M x = true ↔ ¬ fpX cnt (mI M 24) x < 0 := by
  have hb := INV_b q
  constructor
  · intro h
    obtain ⟨p, hp, h1, h2⟩ := MV_pl q.2.1 x h
    rw [INV_fp q, fpX_t hp h2 h1]
    exact nI_pos (by omega)
  · intro h
    obtain ⟨k, hk, -, h2⟩ := fp_n h
    rw [(INV_row q k hk).1] at h2
    rw [← h2]
    exact (MV_mF q.2.1 (INV_row q k hk).2).mpr ⟨k, hk, rfl⟩
theorem INV_hk {M : Mm} {g cnt bar : Nat} {fr : Nat → Nat} {pc mc : Nat} (q : INV M g cnt bar fr pc mc) : ∀ k, k < cnt → seven (mI M 25 (fr k)) := fun k hk => by
  have h := q.2.2.1.1 (fr k) (INV_fr q hk).1
  rw [h.1]; exact h.2.1
theorem fch_n {x : Int32} (h : fch x) : narrow .char (.int x) = .int x := by
  rcases h with rfl | rfl | rfl | rfl | rfl
  · rfl
  · rfl
  · rfl
  · rfl
  · rfl
/-- bodies from nothing have the same cells -/
theorem INV_an {M : Mm} {g cnt bar : Nat} {fr : Nat → Nat} {pc mc : Nat} (q : INV M g cnt bar fr pc mc) {G J : Nat → Int64} (h : SR M fr bar G J) : ∀ n, n < 512 → cb G n = cb (mL M bar) n := by
  have hb := INV_b q
  obtain ⟨B, N, r1, r2⟩ := SR_eq (M := M) (Mc := M) (F := fun k => mL M k) (K := fun k => mK M k) (fl := fun k => mI M 28 (fr k)) (n := bar) (fr := fr) q.2.2.2.2.1.2.2.1.1.1 q.2.2.2.2.1.2.2.1.2 (fun k hk => by
    have hf := INV_fr q (show k < cnt by omega)
    exact ⟨hf.2, (q.2.2.1.1 _ hf.1).1, fun w hw => IF_dm q.2.1 (fun n hn => (q.2.2.2.1.1 n hn).2.2.2) q.2.2.1 hf.1 hw, MV_ft q.2.1 q.2.2.1 hf.1⟩) bar (Nat.le_refl _) G J h
  exact fun n hn => (r2.2.1 n hn).trans (r1.2.1 n hn).symm
theorem bf_sm {M M1 : Mm} (h : bfF M M1) : sm M M1 :=
  ⟨fun t ht => h.1 t (fun e => ht (Or.inr (Or.inl e))), fun i _ => by rw [h.1 12 (by decide)], h.2.2.1, h.2.2.2, by show M1.2.2.2.1 0 = _; rw [h.2.1], by show M1.2.2.2.1 1 = _; rw [h.2.1]⟩
theorem fr_sm {M M1 : Mm} {S : Nat → Prop} (h : mFr M M1 S) (hS : ∀ t, S t → scr t ∧ ¬ t = 12) : sm M M1 :=
  ⟨fun t ht => h.2 t fun z => ht (hS t z).1, fun i _ => by rw [h.2 12 (fun z => (hS 12 z).2 rfl)], fun c _ => by show M1.2.1 c = _; rw [h.1], fun c _ => by show M1.2.2.1 c = _; rw [h.1], by show M1.2.2.2.1 0 = _; rw [h.1], by show M1.2.2.2.1 1 = _; rw [h.1]⟩
abbrev no1 {P : Prop} {a : Nat} (h : ¬ a = 0) : a = 0 → P := fun q => absurd q h
theorem sp_number {l : Launch} {E : Ev} (hl9 : l.stackTraces = false) : Sp_number l E Inv := by
  intro M x hI
  refine ⟨_, cw_number (by decide) (c_X9_number hl9) (fun N M' h => h.2.1) (fun v M' h => ⟨_, h.2.1⟩), fun v M1 hK => ?_⟩
  obtain ⟨g, cnt, bar, fr, pc, mc, q⟩ := id hI
  rcases hK with ⟨w, M', ⟨h1, h2, h3⟩, h4, h5⟩ | ⟨⟨h1, -, h3⟩, h4⟩
  · subst h3 h5
    have hw := vI h2
    rw [isNm_7] at h1
    refine ⟨0, by decide, h4, 2, _, by decide, c_X10_number, fun v2 M2 hP => ?_⟩
    obtain ⟨hv, hM⟩ := hP
    rw [show inX x (nI 0) (nI 7) = true from h1, if_pos rfl] at hv hM
    subst hM
    obtain ⟨k, hk, rfl⟩ := in7_n h1
    refine ⟨_, hv, rfl, fun _ => ?_, Inv_sm (sm_tr (sm_W _ _) (sm_cd _ _)) hI⟩
    show w.toInt64 = (mI M' 43 (ntX (nI k))).toInt64
    rw [hw, ntX_nI (by omega), (q.2.2.2.1.1 k hk).2.2.2]
  · subst h3
    rw [isNm_7] at h1
    refine ⟨1, by decide, h4, 2, _, by decide, c_X10_number, fun v2 M2 hP => ?_⟩
    obtain ⟨hv, hM⟩ := hP
    rw [show inX x (nI 0) (nI 7) = false from h1] at hM
    subst hM
    exact ⟨_, hv, rfl, no1 (by decide), Inv_sm (sm_tr (sm_cd _ _) (sm_cd _ _)) hI⟩
theorem sp_place {l : Launch} {E : Ev} (hl9 : l.stackTraces = false) (hnse : NseR l E) : Sp_place l E Inv := by
  intro M x hI
  obtain ⟨g, cnt, bar, fr, pc, mc, q⟩ := id hI
  have hb := INV_b q
  refine ⟨_, cw_place (by decide) (c_X9_place hl9 hnse q.1.1 hb.2.1) (fun N M' h => h.2.1) (fun v M' h => ⟨_, h.2.1⟩), fun v M1 hK => ?_⟩
  rcases hK with ⟨w, M', ⟨h1, h2, h3⟩, h4, h5⟩ | ⟨⟨h1, -, h3⟩, h4⟩
  · subst h3 h5
    have hw := vI h2
    have hm := (INV_mF q x).mpr (Int32.not_lt.mpr h1)
    have q' := INV_sm (sm_W M' w.toInt64) q
    refine ⟨0, by decide, h4, 3, _, by decide, c_X10_place q'.2.1.1.1 hb.1 hb.2.1 (MV_pl q'.2.1), fun v2 M2 hP => ?_⟩
    rcases hP with ⟨z, -⟩ | ⟨-, hv, hM⟩
    · exact absurd (hm.symm.trans z) (by decide)
    · subst hM
      refine ⟨_, hv, rfl, fun _ => ?_, Inv_sm (sm_tr (sm_W _ _) (sm_cd _ _)) hI⟩
      show w.toInt64 = (fpX cnt (mI M' 44) x).toInt64
      rw [hw, INV_fp q]
  · subst h3
    have hm : mF M1 x = false := Bool.eq_false_iff.mpr fun z => (INV_mF q x).mp z h1
    refine ⟨1, by decide, h4, 3, _, by decide, c_X10_place q.2.1.1.1 hb.1 hb.2.1 (MV_pl q.2.1), fun v2 M2 hP => ?_⟩
    rcases hP with ⟨-, hv, hM⟩ | ⟨z, -⟩
    · subst hM
      exact ⟨_, hv, rfl, no1 (by decide), Inv_sm (sm_tr (sm_cd _ _) (sm_cd _ _)) hI⟩
    · exact absurd (z.symm.trans hm) (by decide)
