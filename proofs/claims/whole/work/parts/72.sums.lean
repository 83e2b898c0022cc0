/-! sums over cells in either order -/
theorem sm_mul (f : Nat → Nat) (b : Nat) : ∀ a, fb_sm f (a * b) = fb_sm (fun i => fb_sm (fun j => f (i * b + j)) b) a := by
  intro a
  induction a with
  | zero => rw [Nat.zero_mul]; rfl
  | succ a ih => rw [Nat.succ_mul, fb_sm_split, ih, fb_sm_succ]
theorem sm_swap (g : Nat → Nat → Nat) (b : Nat) : ∀ a, fb_sm (fun i => fb_sm (fun j => g i j) b) a = fb_sm (fun j => fb_sm (fun i => g i j) a) b := by
  intro a
  induction a with
  | zero => exact (fb_sm_const 0 b).symm
  | succ a ih =>
    rw [fb_sm_succ, ih, ← fb_sm_add]
    exact fb_sm_cong fun k _ => (fb_sm_succ (fun i => g i k) a).symm
/-- by cells, by layers -/
theorem sm_ix (g : Nat → Nat) : fb_sm g 512 = fb_sm (fun z => fb_sm (fun k => g (ix z k)) 64) 8 := by
  have h1 : fb_sm g 512 = fb_sm (fun x => fb_sm (fun y => fb_sm (fun z => g (x * 64 + (y * 8 + z))) 8) 8) 8 := by
    rw [show (512 : Nat) = 8 * 64 from rfl, sm_mul g 64 8]
    exact fb_sm_cong fun x _ => sm_mul (fun j => g (x * 64 + j)) 8 8
  have h2 : fb_sm (fun z => fb_sm (fun k => g (ix z k)) 64) 8 = fb_sm (fun z => fb_sm (fun y => fb_sm (fun x => g (x * 64 + (y * 8 + z))) 8) 8) 8 := by
    refine fb_sm_cong fun z hz => ?_
    refine (sm_mul (fun k => g (ix z k)) 8 8).trans (fb_sm_cong fun y hy => fb_sm_cong fun x hx => ?_)
    show g (ix z (y * 8 + x)) = _
    congr 1
    unfold ix
    omega
  rw [h1, h2, sm_swap (fun x y => fb_sm (fun z => g (x * 64 + (y * 8 + z))) 8) 8 8]
  have h3 : ∀ y, fb_sm (fun x => fb_sm (fun z => g (x * 64 + (y * 8 + z))) 8) 8 = fb_sm (fun z => fb_sm (fun x => g (x * 64 + (y * 8 + z))) 8) 8 := fun y => sm_swap (fun x z => g (x * 64 + (y * 8 + z))) 8 8
  rw [fb_sm_cong (fun y _ => h3 y)]
  exact sm_swap (fun y z => fb_sm (fun x => g (x * 64 + (y * 8 + z))) 8) 8 8
theorem ct_cells (p : Nat → Bool) (w : Nat → Nat → Bool) (h : ∀ z, z < 8 → ∀ k, k < 64 → w z k = p (ix z k)) : fb_sm (fun z => fb_ct (w z) 64) 8 = fb_ct p 512 := by
  rw [ct_b01, sm_ix]
  refine fb_sm_cong fun z hz => ?_
  rw [ct_b01]
  exact fb_sm_cong fun k hk => by unfold b01; rw [h z hz k hk]
theorem smI_n {g : Nat → Int32} {w : Nat → Nat} : ∀ {n : Nat}, (∀ z, z < n → g z = nI (w z)) → smI g n = nI (fb_sm w n) := by
  intro n
  induction n with
  | zero => intro _; rfl
  | succ n ih => intro h; rw [smI, ih (fun z hz => h z (by omega)), h n (by omega), fb_sm_succ, nI_add]
theorem ctK_n {P : Nat → Prop} [∀ i, Decidable (P i)] : ∀ n, ctK P n = nI (fb_ct (fun i => !decide (P i)) n) := by
  intro n
  induction n with
  | zero => rw [ctK_0]; rfl
  | succ n ih =>
    rw [fb_ct_succ]
    by_cases h : P n
    · rw [ctK_t h, ih, decide_eq_true h, nI_add]; rfl
    · rw [ctK_f h, ih, decide_eq_false h, nI_add]; rfl
/-- a set's cells counted by layers -/
theorem smI_bcl (f : Nat → Int64) : smI (fun z => bcl (f z)) 8 = nI (fb_ct (cb f) 512) := by
  rw [smI_n (w := fun z => fb_ct (bw (f z)) 64) (fun z _ => bcl_ct _), ct_cells (cb f) (fun z => bw (f z)) fun z hz k hk => (cb_ix f hz hk).symm]
/-- a set of places given by its layers' bits -/
theorem smI_set {f : Nat → Int64} {p : Nat → Bool} (h : ∀ n, n < 512 → bw (f (n % 8)) (po n) = p n) : smI (fun z => bcl (f z)) 8 = nI (fb_ct p 512) := by
  rw [smI_bcl]
  exact congrArg nI (fb_ct_cong fun n hn => h n hn)
theorem ct_six (p : Nat → Nat → Bool) : fb_ct (fun q => p (q / 6) (q % 6)) 3072 = fb_sm (fun s => fb_ct (fun n => p n s) 512) 6 := by
  rw [ct_b01, show (3072 : Nat) = 512 * 6 from rfl, sm_mul _ 6 512]
  have h : ∀ s, fb_ct (fun n => p n s) 512 = fb_sm (fun n => b01 (fun n => p n s) n) 512 := fun s => ct_b01 _ _
  rw [fb_sm_cong (fun s _ => h s), ← sm_swap (fun n s => b01 (fun n => p n s) n) 6 512]
  refine fb_sm_cong fun n _ => fb_sm_cong fun s hs => ?_
  have e1 : (n * 6 + s) / 6 = n := by omega
  have e2 : (n * 6 + s) % 6 = s := by omega
  simp only [b01, e1, e2]
/-- what ties class and model: layers and makers against rows of cells and names -/
def RB (F K : Nat → Int64) (B N : Nat → Int32) : Prop := bz5 B ∧ (∀ n, n < 512 → cb F n = rb B n) ∧ (∀ n, n < 512 → ∀ s, s < 6 → N (6 * n + s) = if sqB (cb F) n s = true then nI (mkn K s (n % 8) (po n) 6) else -1) ∧ ∀ n, n < 512 → ∀ s, s < 6 → sqB (cb F) n s = true → mkn K s (n % 8) (po n) 6 < 40
theorem RB_q {F K : Nat → Int64} {B N : Nat → Int32} (h : RB F K B N) {q : Nat} (hq : q < 3072) : N q = if sqB (cb F) (q / 6) (q % 6) = true then nI (mkn K (q % 6) (q / 6 % 8) (po (q / 6)) 6) else -1 := by
  have e := h.2.2.1 (q / 6) (by omega) (q % 6) (by omega)
  rw [show 6 * (q / 6) + q % 6 = q by omega] at e
  exact e
theorem RB_m {F K : Nat → Int64} {B N : Nat → Int32} (h : RB F K B N) {n s : Nat} (hn : n < 512) (hs : s < 6) : (N (6 * n + s) = -1 ↔ sqB (cb F) n s = false) ∧ (∀ g, g < 40 → (N (6 * n + s) = nI g ↔ sqB (cb F) n s = true ∧ mkn K s (n % 8) (po n) 6 = g)) := by
  rw [h.2.2.1 n hn s hs]
  cases e : sqB (cb F) n s with
  | false =>
    rw [if_neg (by decide)]
    exact ⟨⟨fun _ => rfl, fun _ => rfl⟩, fun g hg => ⟨fun q => absurd q.symm (nI_nm1 (by omega)), fun q => absurd q.1 (by decide)⟩⟩
  | true =>
    have h9 := h.2.2.2 n hn s hs e
    rw [if_pos rfl]
    exact ⟨⟨fun q => absurd q (nI_nm1 (by omega)), fun q => absurd q (by decide)⟩, fun g hg => ⟨fun q => ⟨rfl, (nI_eq (by omega) (by omega)).mp q⟩, fun q => by rw [q.2]⟩⟩
theorem mkr_n (F K : Nat → Int64) {n s : Nat} (hn : n < 512) (hs : s < 6) : mkr F K (n / 64) (n / 8 % 8) (n % 8) s = if sqB (cb F) n s = true then nI (mkn K s (n % 8) (po n) 6) else -1 := by
  unfold mkr
  rw [show n / 8 % 8 * 8 + n / 64 = po n from rfl, cb_sqa F hn hs, mko_n K s (n % 8) (po n) 6 (by decide)]
/-- volume -/
theorem vol_eq {F K : Nat → Int64} {B N : Nat → Int32} (h : RB F K B N) : smI (fun z => bcl (F z)) 8 = ctK (fun i => B i = 0) 512 := by
  rw [smI_set (p := rb B) h.2.1, ctK_n]
  exact congrArg nI (fb_ct_cong fun n _ => by unfold rb; by_cases q : B n = 0 <;> simp [q])
/-- area -/
theorem area_eq {F K : Nat → Int64} {B N : Nat → Int32} (h : RB F K B N) : smI (fun s => smI (fun z => bcl (sqa F s z)) 8) 6 = ctK (fun i => N i = -1) 3072 := by
  rw [smI_n (w := fun s => fb_ct (fun n => sqB (cb F) n s) 512) (fun s hs => smI_set (f := sqa F s) fun n hn => cb_sqa F hn hs), ctK_n, ← ct_six (fun n s => sqB (cb F) n s)]
  refine congrArg nI (fb_ct_cong fun q hq => ?_)
  have e := (RB_m h (show q / 6 < 512 by omega) (show q % 6 < 6 by omega)).1
  rw [show 6 * (q / 6) + q % 6 = q by omega] at e
  cases g : sqB (cb F) (q / 6) (q % 6) with
  | false => rw [decide_eq_true (e.mpr g)]; rfl
  | true => rw [decide_eq_false (fun z => by rw [e.mp z] at g; exact absurd g (by decide))]; rfl
/-- the squares of a name, as cells -/
theorem cb_chk (F K : Nat → Int64) (g : Nat) {n s : Nat} (hn : n < 512) (hs : s < 6) (k : Nat) : bw (chk F K g s (n % 8) k) (po n) = (sqB (cb F) n s && (List.range k).all (fun j => decide (bw (K ((s * 6 + j) * 8 + n % 8)) (po n) = g.testBit j))) := by
  induction k with
  | zero => show bw (sqa F s (n % 8)) (po n) = (_ && true); rw [cb_sqa F hn hs, Bool.and_true]
  | succ k ih =>
    show bw (chk F K g s (n % 8) k &&& _) (po n) = _
    rw [bw_and, ih, List.range_succ, List.all_append, List.all_cons, List.all_nil, Bool.and_true, Bool.and_assoc]
    congr 2
    by_cases e : g.testBit k = true
    · rw [if_pos e, e]; cases bw (K ((s * 6 + k) * 8 + n % 8)) (po n) <;> rfl
    · rw [if_neg e, bw_not _ (po_lt hn), Bool.eq_false_iff.mpr e]; cases bw (K ((s * 6 + k) * 8 + n % 8)) (po n) <;> rfl
theorem all6 {K : Nat → Int64} {n s g : Nat} (hg : g < 64) : (List.range 6).all (fun j => decide (bw (K ((s * 6 + j) * 8 + n % 8)) (po n) = g.testBit j)) = decide (mkn K s (n % 8) (po n) 6 = g) := by
  by_cases e : mkn K s (n % 8) (po n) 6 = g
  · rw [decide_eq_true e]
    exact List.all_eq_true.mpr fun j hj => decide_eq_true ((mkn_eq hg).mp e j (List.mem_range.mp hj))
  · rw [decide_eq_false e]
    refine Bool.eq_false_iff.mpr fun h => e ((mkn_eq hg).mpr fun j hj => ?_)
    exact of_decide_eq_true (List.all_eq_true.mp h j (List.mem_range.mpr hj))
theorem ch_set {F K : Nat → Int64} {B N : Nat → Int32} (h : RB F K B N) (x : Int32) {n s : Nat} (hn : n < 512) (hs : s < 6) : bw (chA F K x (nI s) (n % 8)) (po n) = (sqB (cb F) n s && decide (N (6 * n + s) = x)) := by
  unfold chA
  by_cases hx : x < 0 ∨ nI 40 ≤ x
  · rw [if_pos hx, bw_0]
    symm
    cases g : sqB (cb F) n s with
    | false => rfl
    | true =>
      rw [Bool.true_and]
      refine decide_eq_false fun q => ?_
      have h9 := h.2.2.2 n hn s hs g
      have e := ((RB_m h hn hs).2 _ h9).mpr ⟨g, rfl⟩
      rw [← q, e] at hx
      rcases hx with hx | hx
      · exact nI_pos (by omega) hx
      · exact absurd ((nI_leI (by decide) (by omega)).mp hx) (by omega)
  · rw [if_neg hx]
    obtain ⟨g, hg, rfl⟩ := nn_lt (n := 40) (by decide) (fun q => hx (Or.inl q)) (fun q => hx (Or.inr q))
    rw [ntX_nI (by omega), ntX_nI (by omega), cb_chk F K g hn hs 6, all6 (by omega)]
    cases e : sqB (cb F) n s with
    | false => rfl
    | true =>
      rw [Bool.true_and, Bool.true_and]
      refine decide_eq_decide.mpr ⟨fun q => ((RB_m h hn hs).2 g hg).mpr ⟨e, q⟩, fun q => (((RB_m h hn hs).2 g hg).mp q).2⟩
/-- squares -/
theorem sqs_eq {F K : Nat → Int64} {B N : Nat → Int32} (h : RB F K B N) {x : Int32} (hx : ¬ x = -1) {s : Nat} (hs : s < 6) : smI (fun z => bcl (chA F K x (nI s) z)) 8 = ctK (fun i => ¬ N (6 * i + s) = x) 512 := by
  rw [smI_set (p := fun n => sqB (cb F) n s && decide (N (6 * n + s) = x)) fun n hn => ch_set h x hn hs, ctK_n]
  refine congrArg nI (fb_ct_cong fun n hn => ?_)
  by_cases q : N (6 * n + s) = x
  · rw [decide_eq_true q, decide_eq_false (fun z => z q)]
    cases g : sqB (cb F) n s with
    | false => exact absurd (((RB_m h hn hs).1.mpr g).symm.trans q).symm hx
    | true => rfl
  · rw [decide_eq_false q, decide_eq_true q, Bool.and_false]; rfl
