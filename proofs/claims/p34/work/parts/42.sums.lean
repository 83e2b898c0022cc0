/-! sums over layers -/
theorem sm_mul (f : Nat → Nat) (b : Nat) : ∀ a, fb_sm f (a * b) = fb_sm (fun i => fb_sm (fun j => f (i * b + j)) b) a := by
  intro a
  induction a with
  | zero => rw [Nat.zero_mul]; rfl
  | succ a ih => rw [Nat.succ_mul, fb_sm_split, ih, fb_sm_succ]
theorem sm_swap (g : Nat → Nat → Nat) (b : Nat) : ∀ a, fb_sm (fun i => fb_sm (fun j => g i j) b) a = fb_sm (fun j => fb_sm (fun i => g i j) a) b := by
  intro a
  induction a with
  | zero => exact (fb_sm_const 0 b).symm
  | succ a ih =>
    rw [fb_sm_succ, ih, ← fb_sm_add]
    exact fb_sm_cong fun k _ => (fb_sm_succ (fun i => g i k) a).symm
/-- by cells, by layers -/
theorem sm_ix (g : Nat → Nat) : fb_sm g 512 = fb_sm (fun z => fb_sm (fun k => g (ix z k)) 64) 8 := by
  have h1 : fb_sm g 512 = fb_sm (fun x => fb_sm (fun y => fb_sm (fun z => g (x * 64 + (y * 8 + z))) 8) 8) 8 := by
    rw [show (512 : Nat) = 8 * 64 from rfl, sm_mul g 64 8]
    exact fb_sm_cong fun x _ => sm_mul (fun j => g (x * 64 + j)) 8 8
  have h2 : fb_sm (fun z => fb_sm (fun k => g (ix z k)) 64) 8 = fb_sm (fun z => fb_sm (fun y => fb_sm (fun x => g (x * 64 + (y * 8 + z))) 8) 8) 8 := by
    refine fb_sm_cong fun z hz => ?_
    refine (sm_mul (fun k => g (ix z k)) 8 8).trans (fb_sm_cong fun y hy => fb_sm_cong fun x hx => ?_)
    show g (ix z (y * 8 + x)) = _
    congr 1
    unfold ix
    omega
  rw [h1, h2, sm_swap (fun x y => fb_sm (fun z => g (x * 64 + (y * 8 + z))) 8) 8 8]
  have h3 : ∀ y, fb_sm (fun x => fb_sm (fun z => g (x * 64 + (y * 8 + z))) 8) 8 = fb_sm (fun z => fb_sm (fun x => g (x * 64 + (y * 8 + z))) 8) 8 := fun y => sm_swap (fun x z => g (x * 64 + (y * 8 + z))) 8 8
  rw [fb_sm_cong (fun y _ => h3 y)]
  exact sm_swap (fun y z => fb_sm (fun x => g (x * 64 + (y * 8 + z))) 8) 8 8
theorem ct_cells (p : Nat → Bool) (w : Nat → Nat → Bool) (h : ∀ z, z < 8 → ∀ k, k < 64 → w z k = p (ix z k)) : fb_sm (fun z => fb_ct (w z) 64) 8 = fb_ct p 512 := by
  rw [ct_b01, sm_ix]
  refine fb_sm_cong fun z hz => ?_
  rw [ct_b01]
  exact fb_sm_cong fun k hk => by unfold b01; rw [h z hz k hk]
theorem smI_n {g : Nat → Int32} {w : Nat → Nat} : ∀ {n : Nat}, (∀ z, z < n → g z = nI (w z)) → smI g n = nI (fb_sm w n) := by
  intro n
  induction n with
  | zero => intro _; rfl
  | succ n ih => intro h; rw [smI, ih (fun z hz => h z (by omega)), h n (by omega), fb_sm_succ, nI_add]
/-- a set's cells counted by layers -/
theorem smI_bcl (f : Nat → Int64) : smI (fun z => bcl (f z)) 8 = nI (fb_ct (cb f) 512) := by
  rw [smI_n (w := fun z => fb_ct (bw (f z)) 64) (fun z _ => bcl_ct _), ct_cells (cb f) (fun z => bw (f z)) fun z hz k hk => (cb_ix f hz hk).symm]
/-- a set of places given by its layers' bits -/
theorem smI_set {f : Nat → Int64} {p : Nat → Bool} (h : ∀ n, n < 512 → bw (f (n % 8)) (po n) = p n) : smI (fun z => bcl (f z)) 8 = nI (fb_ct p 512) := by
  rw [smI_bcl]
  exact congrArg nI (fb_ct_cong fun n hn => h n hn)
theorem ct_six (p : Nat → Nat → Bool) : fb_ct (fun q => p (q / 6) (q % 6)) 3072 = fb_sm (fun s => fb_ct (fun n => p n s) 512) 6 := by
  rw [ct_b01, show (3072 : Nat) = 512 * 6 from rfl, sm_mul _ 6 512]
  have h : ∀ s, fb_ct (fun n => p n s) 512 = fb_sm (fun n => b01 (fun n => p n s) n) 512 := fun s => ct_b01 _ _
  rw [fb_sm_cong (fun s _ => h s), ← sm_swap (fun n s => b01 (fun n => p n s) n) 6 512]
  refine fb_sm_cong fun n _ => fb_sm_cong fun s hs => ?_
  have e1 : (n * 6 + s) / 6 = n := by omega
  have e2 : (n * 6 + s) % 6 = s := by omega
  simp only [b01, e1, e2]
/-- the squares of a name, as cells -/
theorem cb_chk (F K : Nat → Int64) (g : Nat) {n s : Nat} (hn : n < 512) (hs : s < 6) (k : Nat) : bw (chk F K g s (n % 8) k) (po n) = (sqB (cb F) n s && (List.range k).all (fun j => decide (bw (K ((s * 6 + j) * 8 + n % 8)) (po n) = g.testBit j))) := by
  induction k with
  | zero => show bw (sqa F s (n % 8)) (po n) = (_ && true); rw [cb_sqa F hn hs, Bool.and_true]
  | succ k ih =>
    show bw (chk F K g s (n % 8) k &&& _) (po n) = _
    rw [bw_and, ih, List.range_succ, List.all_append, List.all_cons, List.all_nil, Bool.and_true, Bool.and_assoc]
    congr 2
    by_cases e : g.testBit k = true
    · rw [if_pos e, e]; cases bw (K ((s * 6 + k) * 8 + n % 8)) (po n) <;> rfl
    · rw [if_neg e, bw_not _ (po_lt hn), Bool.eq_false_iff.mpr e]; cases bw (K ((s * 6 + k) * 8 + n % 8)) (po n) <;> rfl
theorem all6 {K : Nat → Int64} {n s g : Nat} (hg : g < 64) : (List.range 6).all (fun j => decide (bw (K ((s * 6 + j) * 8 + n % 8)) (po n) = g.testBit j)) = decide (mkn K s (n % 8) (po n) 6 = g) := by
  by_cases e : mkn K s (n % 8) (po n) 6 = g
  · rw [decide_eq_true e]
    exact List.all_eq_true.mpr fun j hj => decide_eq_true ((mkn_eq hg).mp e j (List.mem_range.mp hj))
  · rw [decide_eq_false e]
    refine Bool.eq_false_iff.mpr fun h => e ((mkn_eq hg).mpr fun j hj => ?_)
    exact of_decide_eq_true (List.all_eq_true.mp h j (List.mem_range.mpr hj))
theorem bal_d (b : Nat → Bool) {s d : Nat} (hd : d ≤ 512) (p0 : ∀ n, n < d → nbN n s = none) (p1 : ∀ n, n < 512 - d → (nbN (d + n) s = some n ∧ nbN n (s + 1) = some (d + n)) ∨ (nbN (d + n) s = none ∧ nbN n (s + 1) = none)) (p2 : ∀ n, n < d → nbN (512 - d + n) (s + 1) = none) : fb_ct (fun n => sqB b n s) 512 = fb_ct (fun n => sqB b n (s + 1)) 512 := by
  have hs : ∀ t, fb_ct (fun n => sqB b n t) 512 + fb_ct (fun n => b n && (nbN n t).elim false b) 512 = fb_ct b 512 := fun t => by
    rw [← fb_ct_or (fun k hk => by
      show ¬ (sqB b k t = true ∧ (b k && (nbN k t).elim false b) = true)
      unfold sqB
      cases b k <;> cases (nbN k t).elim false b <;> decide)]
    refine fb_ct_cong fun k hk => ?_
    show (sqB b k t || (b k && (nbN k t).elim false b)) = b k
    unfold sqB
    cases b k <;> cases (nbN k t).elim false b <;> rfl
  have e : fb_ct (fun n => b n && (nbN n s).elim false b) 512 = fb_ct (fun n => b n && (nbN n (s + 1)).elim false b) 512 := by
    have a0 := fb_ct_split (fun n => b n && (nbN n s).elim false b) d (512 - d)
    have a1 := fb_ct_split (fun n => b n && (nbN n (s + 1)).elim false b) (512 - d) d
    have z0 : fb_ct (fun n => b n && (nbN n s).elim false b) d = 0 := fb_ct_zero.mpr (fun k hk => by rw [p0 k hk]; exact Bool.and_false _)
    have z1 : fb_ct (fun n => b (512 - d + n) && (nbN (512 - d + n) (s + 1)).elim false b) d = 0 := fb_ct_zero.mpr (fun k hk => by rw [p2 k hk]; exact Bool.and_false _)
    rw [show d + (512 - d) = 512 by omega, z0] at a0
    rw [show 512 - d + d = 512 by omega, z1] at a1
    rw [a0, a1, Nat.zero_add, Nat.add_zero]
    refine fb_ct_cong fun k hk => ?_
    rcases p1 k hk with h | h
    · rw [h.1, h.2]; exact Bool.and_comm _ _
    · rw [h.1, h.2]
      show (b (d + k) && false) = (b k && false)
      rw [Bool.and_false, Bool.and_false]
  have h1 := hs s
  have h2 := hs (s + 1)
  omega
theorem sqn_n (f : Nat → Int64) {s : Nat} (hs : s < 6) : sqn f s = nI (fb_ct (fun n => sqB (cb f) n s) 512) := smI_set (f := sqa f s) fun n hn => cb_sqa f hn hs
theorem bal_0 (b : Nat → Bool) : fb_ct (fun n => sqB b n 0) 512 = fb_ct (fun n => sqB b n 1) 512 := by
  refine bal_d b (s := 0) (d := 64) (by decide) (fun n hn => ?_) (fun n hn => ?_) (fun n hn => ?_)
  · rw [nbN_0, if_pos (by omega)]
  · refine Or.inl ⟨?_, ?_⟩
    · rw [nbN_0, if_neg (by omega)]; congr 1; omega
    · rw [nbN_1, if_neg (by omega)]; congr 1; omega
  · rw [nbN_1, if_pos (by omega)]
theorem bal_1 (b : Nat → Bool) : fb_ct (fun n => sqB b n 2) 512 = fb_ct (fun n => sqB b n 3) 512 := by
  refine bal_d b (s := 2) (d := 8) (by decide) (fun n hn => ?_) (fun n hn => ?_) (fun n hn => ?_)
  · rw [nbN_2, if_pos (by omega)]
  · by_cases h : n / 8 % 8 = 7
    · exact Or.inr ⟨by rw [nbN_2, if_pos (by omega)], by rw [nbN_3, if_pos h]⟩
    · refine Or.inl ⟨?_, ?_⟩
      · rw [nbN_2, if_neg (by omega)]; congr 1; omega
      · rw [nbN_3, if_neg h]; congr 1; omega
  · rw [nbN_3, if_pos (by omega)]
theorem bal_2 (b : Nat → Bool) : fb_ct (fun n => sqB b n 4) 512 = fb_ct (fun n => sqB b n 5) 512 := by
  refine bal_d b (s := 4) (d := 1) (by decide) (fun n hn => ?_) (fun n hn => ?_) (fun n hn => ?_)
  · rw [nbN_4, if_pos (by omega)]
  · by_cases h : n % 8 = 7
    · exact Or.inr ⟨by rw [nbN_4, if_pos (by omega)], by rw [nbN_5, if_pos h]⟩
    · refine Or.inl ⟨?_, ?_⟩
      · rw [nbN_4, if_neg (by omega)]; congr 1; omega
      · rw [nbN_5, if_neg h]; congr 1; omega
  · rw [nbN_5, if_pos (by omega)]
/-- each set of cells has as many squares to one side as to the other -/
theorem balN_all (f : Nat → Int64) : balN f = true := by
  unfold balN
  refine List.all_eq_true.mpr fun a ha => decide_eq_true ?_
  have ha := List.mem_range.mp ha
  rw [sqn_n f (by omega), sqn_n f (by omega)]
  rcases (show a = 0 ∨ a = 1 ∨ a = 2 by omega) with e | e | e
  · subst e; exact congrArg nI (bal_0 _)
  · subst e; exact congrArg nI (bal_1 _)
  · subst e; exact congrArg nI (bal_2 _)
