/-! filled and centre: no NaNs; the sums of both ways -/
theorem fl_ok : ∀ n, n < 513 → (FP.fdiv (FP.i2f (nI n)) 1140850688 &&& 0x7fffffff ≤ 0x7f800000) ∧ (FP.f2d (FP.fdiv (FP.i2f (nI n)) 1140850688) &&& 0x7fffffffffffffff ≤ 0x7ff0000000000000) := by decide +kernel
/-- a finite double's significand -/
def fpc (x : UInt64) : Option Nat := match FP.Core.decode FP.Core.b64 x.toNat with
  | .fin _ c _ => some c
  | _ => none
theorem fp_num0 : (List.range 60).all (fun i => (List.range 60).all (fun j => (fpc (FP.i2d (nI (60 * i + j)))).isSome)) = true := by decide +kernel
theorem fp_num (n : Nat) (h : n < 3585) : (fpc (FP.i2d (nI n))).isSome = true := by
  have h1 := List.all_eq_true.mp fp_num0 (n / 60) (List.mem_range.mpr (by omega))
  have h2 := List.all_eq_true.mp h1 (n % 60) (List.mem_range.mpr (by omega))
  rw [show 60 * (n / 60) + n % 60 = n by omega] at h2
  exact h2
theorem fp_den : ∀ n, n < 513 → 0 < n → fpc (FP.i2d (nI n)) ≠ some 0 := by decide +kernel
def fgd : FP.Core.Datum → Prop
  | .nan => False
  | .inf _ => True
  | .fin _ c q => c < 2 ^ 53 ∧ q ≤ 971
theorem fgd_b {s : Bool} {c : Nat} {q : Int} (hc : c < 2 ^ 53) : fgd (FP.Core.bound FP.Core.b64 s c q) := by
  unfold FP.Core.bound
  split
  · rename_i h
    have e : FP.Core.b64.qmax = 971 := by decide
    rw [e] at h
    exact ⟨hc, h⟩
  · trivial
theorem fgd_r (s : Bool) (a b : Nat) (e : Int) : fgd (FP.Core.roundRatio FP.Core.b64 s a b e) := by
  unfold FP.Core.roundRatio
  split
  · exact ⟨by decide, by decide⟩
  · unfold FP.Core.roundAt FP.Core.settle
    split
    · rename_i h
      exact fgd_b h
    · exact fgd_b (by decide)
theorem vf_of {n : Nat} (e t : Nat) (s : Bool) (he : e ≤ 2046) (ht : t < 2 ^ 52) (h : n = (s.toNat * 2 ^ 11 + e) * 2 ^ 52 + t) : vf_n64 (UInt64.ofNat n) := by
  unfold vf_n64
  rw [UInt64.le_iff_toNat_le, UInt64.toNat_and]
  have e1 : (0x7fffffffffffffff : UInt64).toNat = 2 ^ 63 - 1 := by decide
  have e2 : (0x7ff0000000000000 : UInt64).toNat = 2047 * 2 ^ 52 := by decide
  rw [e1, e2, Nat.and_two_pow_sub_one_eq_mod]
  have e3 : (UInt64.ofNat n).toNat = n % 2 ^ 64 := rfl
  rw [e3, h]
  cases s with
  | false => simp only [Bool.toNat_false]; omega
  | true => simp only [Bool.toNat_true]; omega
theorem vf_g {d : FP.Core.Datum} (h : fgd d) : vf_n64 (UInt64.ofNat (FP.Core.encode FP.Core.b64 d)) := by
  have et : FP.Core.b64.tails = 2 ^ 52 := by decide
  have ee : FP.Core.b64.exps = 2 ^ 11 := by decide
  have eq : FP.Core.b64.qmin = -1074 := by decide
  cases d with
  | nan => exact h.elim
  | inf s =>
    unfold vf_n64
    cases s with
    | false => decide +kernel
    | true => decide +kernel
  | fin s c q =>
    unfold FP.Core.encode FP.Core.assemble
    dsimp only
    rw [et, ee, eq]
    have h1 := h.1
    have h2 := h.2
    split
    · exact vf_of 0 c s (by omega) (by assumption) rfl
    · exact vf_of ((q - -1074).toNat + 1) (c - 2 ^ 52) s (by omega) (by omega) rfl
theorem ct_ok {a b : Nat} (ha : a < 3585) (hb : b < 513) (h0 : 0 < b) : vf_n64 (FP.ddiv (FP.i2d (nI a)) (FP.i2d (nI b))) := by
  have h1 := fp_num a ha
  have h2 := fp_num b (by omega)
  have h3 := fp_den b hb h0
  show vf_n64 (UInt64.ofNat (FP.Core.encode FP.Core.b64 (FP.Core.quotient FP.Core.b64 (FP.Core.decode FP.Core.b64 (FP.i2d (nI a)).toNat) (FP.Core.decode FP.Core.b64 (FP.i2d (nI b)).toNat))))
  refine vf_g ?_
  unfold fpc at h1 h2 h3
  cases e1 : FP.Core.decode FP.Core.b64 (FP.i2d (nI a)).toNat with
  | nan => rw [e1] at h1; exact absurd h1 (by decide)
  | inf s => rw [e1] at h1; exact absurd h1 (show ¬ (none : Option Nat).isSome = true by decide)
  | fin s c q =>
    cases e2 : FP.Core.decode FP.Core.b64 (FP.i2d (nI b)).toNat with
    | nan => rw [e2] at h2; exact absurd h2 (by decide)
    | inf t => rw [e2] at h2; exact absurd h2 (show ¬ (none : Option Nat).isSome = true by decide)
    | fin t d r =>
      rw [e2] at h3
      have hd : ¬ d = 0 := fun z => h3 (by rw [z])
      unfold FP.Core.quotient
      dsimp only
      rw [if_neg hd]
      exact fgd_r _ _ _ _
/-! the sums -/
theorem sm_xyz (g : Nat → Nat) : fb_sm (fun z => fb_sm (fun y => fb_sm (fun x => g (64 * x + 8 * y + z)) 8) 8) 8 = fb_sm g 512 := by
  rw [sm_ix g]
  refine fb_sm_cong fun z hz => ?_
  refine Eq.symm ((sm_mul (fun k => g (ix z k)) 8 8).trans (fb_sm_cong fun y hy => fb_sm_cong fun x hx => ?_))
  show g (ix z (y * 8 + x)) = _
  congr 1
  unfold ix
  omega
theorem saX_s (f : Nat → Int64) (a z y : Nat) (n : Int32) (x : Nat) : saX f a z y n (x + 1) = sa1 f a z y (saX f a z y n x) x := by rw [saX]
theorem saY_s' (f : Nat → Int64) (a z : Nat) (n : Int32) (y : Nat) : saY f a z n (y + 1) = saX f a z y (saY f a z n y) 8 := by rw [saY]
theorem saZ_s' (f : Nat → Int64) (a z : Nat) : saZ f a (z + 1) = saY f a z (saZ f a z) 8 := by rw [saZ]
/-- what a cell adds -/
def sac (f : Nat → Int64) (a n : Nat) : Nat := if cb f n = true then alN n a else 0
theorem sa1_n (f : Nat → Int64) {a z y x : Nat} (hz : z < 8) (hy : y < 8) (hx : x < 8) (m : Nat) : sa1 f a z y (nI m) x = nI (m + sac f a (64 * x + 8 * y + z)) := by
  have hn : 64 * x + 8 * y + z < 512 := by omega
  have e0 : alN (64 * x + 8 * y + z) 0 = x := by rw [al_0]; omega
  have e1 : alN (64 * x + 8 * y + z) 1 = y := by rw [al_1]; omega
  have e2 : alN (64 * x + 8 * y + z) 2 = z := by rw [al_2]; omega
  have ec := cel_n f hn
  rw [e0, e1, e2] at ec
  unfold sa1 sac
  rw [ec]
  cases h : cb f (64 * x + 8 * y + z) with
  | false => rw [if_neg (by decide), if_neg (by decide)]; rfl
  | true =>
    rw [if_pos rfl, if_pos rfl, nI_add]
    congr 2
    by_cases q0 : a = 0
    · subst q0; rw [e0]; rfl
    · by_cases q1 : a = 1
      · subst q1; rw [e1]; rfl
      · rw [if_neg q0, if_neg q1, show alN (64 * x + 8 * y + z) a = alN (64 * x + 8 * y + z) 2 by unfold alN; rw [if_neg q0, if_neg q1]; rfl, e2]
theorem saZ_n (f : Nat → Int64) (a : Nat) : saZ f a 8 = nI (fb_sm (sac f a) 512) := by
  have hx : ∀ z y m, z < 8 → y < 8 → ∀ x, x ≤ 8 → saX f a z y (nI m) x = nI (m + fb_sm (fun x => sac f a (64 * x + 8 * y + z)) x) := fun z y m hz hy x => by
    induction x with
    | zero => intro _; rfl
    | succ x ih => intro h; rw [saX_s, ih (by omega), sa1_n f hz hy (by omega), fb_sm_succ, Nat.add_assoc]
  have hy : ∀ z m, z < 8 → ∀ y, y ≤ 8 → saY f a z (nI m) y = nI (m + fb_sm (fun y => fb_sm (fun x => sac f a (64 * x + 8 * y + z)) 8) y) := fun z m hz y => by
    induction y with
    | zero => intro _; rfl
    | succ y ih => intro h; rw [saY_s', ih (by omega), hx z y _ hz (by omega) 8 (Nat.le_refl _), fb_sm_succ _ y, Nat.add_assoc]
  have hz : ∀ z, z ≤ 8 → saZ f a z = nI (fb_sm (fun z => fb_sm (fun y => fb_sm (fun x => sac f a (64 * x + 8 * y + z)) 8) 8) z) := fun z => by
    induction z with
    | zero => intro _; rfl
    | succ z ih => intro h; rw [saZ_s', ih (by omega), hy z _ (by omega) 8 (Nat.le_refl _), fb_sm_succ _ z]
  rw [hz 8 (Nat.le_refl _), sm_xyz]
theorem smC_n {M : Mm} {F : Nat → Int64} (h : ∀ n, n < 512 → cb F n = rb (mI M 54) n) (a : Nat) : ∀ i, i ≤ 512 → smC M a i = nI (fb_sm (sac F a) i) := by
  intro i
  induction i with
  | zero => intro _; rfl
  | succ i ih =>
    intro hi
    show smC M a i + (if mI M 54 i = 0 then nI 0 else nI (alN i a)) = _
    rw [ih (by omega), fb_sm_succ]
    unfold sac
    rw [h i (by omega)]
    unfold rb
    by_cases e : mI M 54 i = 0
    · rw [if_pos e, decide_eq_false (fun z => z e), if_neg (by decide), nI_add]
    · rw [if_neg e, decide_eq_true e, if_pos rfl, nI_add]
theorem smC_c {M M' : Mm} (h : mI M' 54 = mI M 54) (a : Nat) : ∀ i, smC M' a i = smC M a i := by
  intro i
  induction i with
  | zero => rfl
  | succ i ih =>
    show smC M' a i + (if mI M' 54 i = 0 then nI 0 else nI (alN i a)) = smC M a i + (if mI M 54 i = 0 then nI 0 else nI (alN i a))
    rw [ih, h]
theorem sac_b (F : Nat → Int64) (a : Nat) : fb_sm (sac F a) 512 < 3585 := by
  have : fb_sm (sac F a) 512 ≤ 512 * 7 := fb_sm_bound fun k hk => by
    unfold sac
    split
    · have := alN_lt hk a; omega
    · omega
  omega
theorem vol_n {F K : Nat → Int64} {B N : Nat → Int32} (h : RB F K B N) : smI (fun z => bcl (F z)) 8 = nI (fb_ct (rb B) 512) := smI_set (p := rb B) h.2.1
theorem sp_filled {l : Launch} {E : Ev} : Sp_filled l E Inv := by
  intro M hI
  obtain ⟨g, cnt, bar, fr, pc, mc, q⟩ := id hI
  have hv := vol_n (INV_RB q)
  have h5 := fb_ct_le (rb (mI M 54)) 512
  have hok := fl_ok (fb_ct (rb (mI M 54)) 512) (by omega)
  refine ⟨5, _, by decide, c_X9_filled q.1.2.2.1 (INV_b q).2.2.2 (by rw [hv]; exact hok.1), fun v M1 hP => ?_⟩
  obtain ⟨h, hM⟩ := hP
  subst hM
  refine ⟨_, h, by rw [hv]; exact hok.2, 2, _, by decide, c_X10_filled (by rw [← vol_eq (INV_RB q), hv]; exact hok.1), fun v2 M2 hP2 => ?_⟩
  obtain ⟨h1, h2⟩ := hP2
  subst h2
  exact ⟨by rw [h1, vol_eq (INV_RB q)], Inv_sm (sm_cd _ _) hI⟩
theorem sp_centre {l : Launch} {E : Ev} (hl9 : l.stackTraces = false) : Sp_centre l E Inv := by
  intro M x hI
  obtain ⟨g, cnt, bar, fr, pc, mc, q⟩ := id hI
  have hv := vol_n (INV_RB q)
  have h7 := fb_ct_le (rb (mI M 54)) 512
  have hve := vol_eq (INV_RB q)
  have hnv : ∀ a, a < 3585 → ¬ nI (fb_ct (rb (mI M 54)) 512) = 0 → vf_n64 (FP.ddiv (FP.i2d (nI a)) (FP.i2d (nI (fb_ct (rb (mI M 54)) 512)))) := fun a ha h0 => ct_ok ha (by omega) (Nat.pos_of_ne_zero fun z => h0 (by rw [z]; rfl))
  have hsz : ∀ a, saZ (mL M bar) a 8 = smC M a 512 := fun a => by rw [saZ_n, smC_n (INV_RB q).2.1 a 512 (Nat.le_refl _)]
  have hc : ¬ (smI (fun z => bcl (mL M bar z)) 8) = 0 → vf_n64 (FP.ddiv (FP.i2d (saZ (mL M bar) (ntX x) 8)) (FP.i2d (smI (fun z => bcl (mL M bar z)) 8))) := fun h0 => by
    rw [saZ_n, hv]; exact hnv _ (sac_b _ _) (by rw [← hv]; exact h0)
  have hm : ¬ (ctK (fun i => mI M 54 i = 0) 512) = 0 → vf_n64 (FP.ddiv (FP.i2d (smC M (ntX x) 512)) (FP.i2d (ctK (fun i => mI M 54 i = 0) 512))) := fun h0 => by
    rw [← hsz, ← hve]; exact hc (by rw [hve]; exact h0)
  refine ⟨_, cw_centre (by decide) (c_X9_centre hl9 q.1.2.2.1 (INV_b q).2.2.2 hc) (fun N M' h => h.1.elim (fun h => Or.inl h.2) fun h => Or.inr h.2.2) (fun v M' h => ⟨_, h.2.2.1⟩), fun v M1 hK => ?_⟩
  rcases hK with ⟨w, M', ⟨h1, h2, hv1, hM1⟩, h4, h5⟩ | ⟨⟨h, h3⟩, h4⟩ | ⟨⟨h, h3⟩, h4⟩
  · subst hM1 h5
    have hw := Value.double.inj (Option.some.inj hv1)
    rw [axX_2] at h1
    have e54 := smC_c (M := M') (M' := sD M' w) rfl (ntX x)
    refine ⟨0, by decide, h4, 2, _, by decide, c_X10_centre (M := sD M' w) (fun h0 => by rw [e54]; exact hm h0), fun v2 M2 hP => ?_⟩
    rw [e54] at hP
    rcases hP with ⟨z, -⟩ | ⟨-, z, -⟩ | ⟨-, -, hv2, hM⟩
    · exact absurd (h1.symm.trans z) (by decide)
    · exact absurd (hve.trans z) h2
    · subst hM
      refine ⟨_, hv2, rfl, fun _ => ?_, Inv_sm (sm_tr (sm_D _ _) (sm_cd _ _)) hI⟩
      show w = FP.ddiv (FP.i2d (smC M' (ntX x) 512)) (FP.i2d (ctK (fun i => mI M' 54 i = 0) 512))
      rw [hw, hsz, hve]
  · have h2 : axX x = false := by
      rcases h with ⟨h, -⟩ | ⟨-, -, h⟩
      · exact h
      · exact absurd h (by decide)
    rw [axX_2] at h2
    subst h3
    refine ⟨1, by decide, h4, 2, _, by decide, c_X10_centre hm, fun v2 M2 hP => ?_⟩
    rcases hP with ⟨-, hv2, hM⟩ | ⟨z, -⟩ | ⟨z, -⟩
    · subst hM
      exact ⟨_, hv2, rfl, no1 (by decide), Inv_sm (sm_cd _ _) hI⟩
    · exact absurd (z.symm.trans h2) (by decide)
    · exact absurd (z.symm.trans h2) (by decide)
  · have h2 : axX x = true ∧ (smI (fun z => bcl (mL M bar z)) 8) = 0 := by
      rcases h with ⟨-, h⟩ | ⟨h1, h, -⟩
      · exact absurd h (by decide)
      · exact ⟨h1, h⟩
    rw [axX_2] at h2
    subst h3
    refine ⟨2, by decide, h4, 2, _, by decide, c_X10_centre hm, fun v2 M2 hP => ?_⟩
    rcases hP with ⟨z, -⟩ | ⟨-, -, hv2, hM⟩ | ⟨-, z, -⟩
    · exact absurd (h2.1.symm.trans z) (by decide)
    · subst hM
      exact ⟨_, hv2, rfl, no1 (by decide), Inv_sm (sm_cd _ _) hI⟩
    · exact absurd (hve.symm.trans h2.2) z
