/-! soundness, depths, lines -/
theorem bal_d (b : Nat → Bool) {s d : Nat} (hd : d ≤ 512) (p0 : ∀ n, n < d → nbN n s = none) (p1 : ∀ n, n < 512 - d → (nbN (d + n) s = some n ∧ nbN n (s + 1) = some (d + n)) ∨ (nbN (d + n) s = none ∧ nbN n (s + 1) = none)) (p2 : ∀ n, n < d → nbN (512 - d + n) (s + 1) = none) : fb_ct (fun n => sqB b n s) 512 = fb_ct (fun n => sqB b n (s + 1)) 512 := by
  have hs : ∀ t, fb_ct (fun n => sqB b n t) 512 + fb_ct (fun n => b n && (nbN n t).elim false b) 512 = fb_ct b 512 := fun t => by
    rw [← fb_ct_or (fun k hk => by
      show ¬ (sqB b k t = true ∧ (b k && (nbN k t).elim false b) = true)
      unfold sqB
      cases b k <;> cases (nbN k t).elim false b <;> decide)]
    refine fb_ct_cong fun k hk => ?_
    show (sqB b k t || (b k && (nbN k t).elim false b)) = b k
    unfold sqB
    cases b k <;> cases (nbN k t).elim false b <;> rfl
  have e : fb_ct (fun n => b n && (nbN n s).elim false b) 512 = fb_ct (fun n => b n && (nbN n (s + 1)).elim false b) 512 := by
    have a0 := fb_ct_split (fun n => b n && (nbN n s).elim false b) d (512 - d)
    have a1 := fb_ct_split (fun n => b n && (nbN n (s + 1)).elim false b) (512 - d) d
    have z0 : fb_ct (fun n => b n && (nbN n s).elim false b) d = 0 := fb_ct_zero.mpr (fun k hk => by rw [p0 k hk]; exact Bool.and_false _)
    have z1 : fb_ct (fun n => b (512 - d + n) && (nbN (512 - d + n) (s + 1)).elim false b) d = 0 := fb_ct_zero.mpr (fun k hk => by rw [p2 k hk]; exact Bool.and_false _)
    rw [show d + (512 - d) = 512 by omega, z0] at a0
    rw [show 512 - d + d = 512 by omega, z1] at a1
    rw [a0, a1, Nat.zero_add, Nat.add_zero]
    refine fb_ct_cong fun k hk => ?_
    rcases p1 k hk with h | h
    · rw [h.1, h.2]; exact Bool.and_comm _ _
    · rw [h.1, h.2]
      show (b (d + k) && false) = (b k && false)
      rw [Bool.and_false, Bool.and_false]
  have h1 := hs s
  have h2 := hs (s + 1)
  omega
theorem sqn_n (f : Nat → Int64) {s : Nat} (hs : s < 6) : sqn f s = nI (fb_ct (fun n => sqB (cb f) n s) 512) := smI_set (f := sqa f s) fun n hn => cb_sqa f hn hs
theorem bal_0 (b : Nat → Bool) : fb_ct (fun n => sqB b n 0) 512 = fb_ct (fun n => sqB b n 1) 512 := by
  refine bal_d b (s := 0) (d := 64) (by decide) (fun n hn => ?_) (fun n hn => ?_) (fun n hn => ?_)
  · rw [nbN_0, if_pos (by omega)]
  · refine Or.inl ⟨?_, ?_⟩
    · rw [nbN_0, if_neg (by omega)]; congr 1; omega
    · rw [nbN_1, if_neg (by omega)]; congr 1; omega
  · rw [nbN_1, if_pos (by omega)]
theorem bal_1 (b : Nat → Bool) : fb_ct (fun n => sqB b n 2) 512 = fb_ct (fun n => sqB b n 3) 512 := by
  refine bal_d b (s := 2) (d := 8) (by decide) (fun n hn => ?_) (fun n hn => ?_) (fun n hn => ?_)
  · rw [nbN_2, if_pos (by omega)]
  · by_cases h : n / 8 % 8 = 7
    · exact Or.inr ⟨by rw [nbN_2, if_pos (by omega)], by rw [nbN_3, if_pos h]⟩
    · refine Or.inl ⟨?_, ?_⟩
      · rw [nbN_2, if_neg (by omega)]; congr 1; omega
      · rw [nbN_3, if_neg h]; congr 1; omega
  · rw [nbN_3, if_pos (by omega)]
theorem bal_2 (b : Nat → Bool) : fb_ct (fun n => sqB b n 4) 512 = fb_ct (fun n => sqB b n 5) 512 := by
  refine bal_d b (s := 4) (d := 1) (by decide) (fun n hn => ?_) (fun n hn => ?_) (fun n hn => ?_)
  · rw [nbN_4, if_pos (by omega)]
  · by_cases h : n % 8 = 7
    · exact Or.inr ⟨by rw [nbN_4, if_pos (by omega)], by rw [nbN_5, if_pos h]⟩
    · refine Or.inl ⟨?_, ?_⟩
      · rw [nbN_4, if_neg (by omega)]; congr 1; omega
      · rw [nbN_5, if_neg h]; congr 1; omega
  · rw [nbN_5, if_pos (by omega)]
/-- each set of cells has as many squares to one side as to the other -/
theorem balN_all (f : Nat → Int64) : balN f = true := by
  unfold balN
  refine List.all_eq_true.mpr fun a ha => decide_eq_true ?_
  have ha := List.mem_range.mp ha
  rw [sqn_n f (by omega), sqn_n f (by omega)]
  rcases (show a = 0 ∨ a = 1 ∨ a = 2 by omega) with e | e | e
  · subst e; exact congrArg nI (bal_0 _)
  · subst e; exact congrArg nI (bal_1 _)
  · subst e; exact congrArg nI (bal_2 _)
theorem INV_mt {M : Mm} {g cnt bar : Nat} {fr : Nat → Nat} {pc mc : Nat} (q : INV M g cnt bar fr pc mc) : ∀ k, k < mc → (∃ a, a < 3 ∧ mI M 35 k = nI a) ∧ isPt (mI M 36 k) ∧ isPt (mI M 37 k) := fun k hk => by
  obtain ⟨p1, p2, p3, p4, p5, p6, p7⟩ := q.2.2.2.2.2.2
  obtain ⟨e1, e2, e3, ⟨a, ha, e4⟩, ⟨p, hp, e5⟩, e6⟩ := p6 k hk
  refine ⟨⟨a, ha, by rw [e1, e4]⟩, Or.inr ⟨p, by omega, by rw [e2, e5]⟩, ?_⟩
  rw [e3]
  rcases e6 with e6 | ⟨r, hr, e6⟩
  · exact Or.inl e6
  · exact Or.inr ⟨r, by omega, e6⟩
theorem sp_isSound {l : Launch} {E : Ev} : Sp_isSound l E Inv := by
  intro M hI
  obtain ⟨g, cnt, bar, fr, pc, mc, q⟩ := id hI
  have hb := INV_b q
  have p := q.2.2.2.2.2.2
  refine ⟨7, _, by decide, c_X9_isSound q.1.1 q.1.2.2.1 hb.2.2.1 hb.2.1 (INV_row q) (INV_hk q) p.2.1.1 p.2.1.2.2 (INV_mt q), fun v M1 hP => ?_⟩
  obtain ⟨hbf, hsr, hv⟩ := hP
  have hs := bf_sm hbf
  have q1 := INV_sm hs q
  refine ⟨_, hv, 1, _, by decide, c_X10_isSound, fun v2 M2 hP2 => ?_⟩
  obtain ⟨h1, h2⟩ := hP2
  subst h2
  refine ⟨?_, Inv_sm (sm_tr hs (sm_cd _ _)) hI⟩
  have e : sameL (mL M1 bar) (mL M1 13) = true := by
    unfold sameL
    refine List.all_eq_true.mpr fun z hz => decide_eq_true ?_
    have hz := List.mem_range.mp hz
    refine (cb_ext (fun n hn => ?_) z hz).symm
    rw [INV_an q hsr n hn, hs.2.2.1 bar (by omega)]
  rw [h1, e, balN_all, q1.2.2.2.2.2.1, q1.2.2.2.2.2.2.2.2.2.2.2.2]; rfl
/-! depths -/
theorem fst8_c {p r : Nat → Bool} (h : ∀ k, k < 8 → p k = r k) : fst8 p = fst8 r := by
  unfold fst8
  have e : List.range 8 = [0, 1, 2, 3, 4, 5, 6, 7] := rfl
  rw [e]
  simp only [List.find?, h 0 (by decide), h 1 (by decide), h 2 (by decide), h 3 (by decide), h 4 (by decide), h 5 (by decide), h 6 (by decide), h 7 (by decide)]
theorem fst8_none {p : Nat → Bool} (h : ∀ k, k < 8 → p k = false) : fst8 p = 8 := by
  rw [fst8_c (r := fun _ => false) h]; rfl
theorem dpc_n {M : Mm} {F : Nat → Int64} (h : ∀ n, n < 512 → cb F n = rb (mI M 54) n) {a k u v : Nat} (ha : a < 3) (hk : k < 8) (hu : u < 8) (hv : v < 8) (up : Bool) : dpc F a up (nI u) (nI v) k = dmp M a up u v k := by
  have hkk : (if up = true then k else 7 - k) < 8 := by split <;> omega
  unfold dpc dmp
  generalize (if up = true then k else 7 - k) = j at hkk
  have hd := daI_lt (a := a) hkk hu hv
  have hc := cel_n F hd
  rw [h _ hd] at hc
  rw [show decide (¬ mI M 54 (daI a j u v) = 0) = rb (mI M 54) (daI a j u v) from rfl, ← hc, al_0, al_1, al_2]
  unfold daI
  rcases (show a = 0 ∨ a = 1 ∨ a = 2 by omega) with e | e | e
  · subst e
    show cel F (nI j) (nI u) (nI v) = cel F (nI ((64 * j + 8 * u + v) / 64)) (nI ((64 * j + 8 * u + v) / 8 % 8)) (nI ((64 * j + 8 * u + v) % 8))
    rw [show (64 * j + 8 * u + v) / 64 = j by omega, show (64 * j + 8 * u + v) / 8 % 8 = u by omega, show (64 * j + 8 * u + v) % 8 = v by omega]
  · subst e
    show cel F (nI u) (nI j) (nI v) = cel F (nI ((64 * u + 8 * j + v) / 64)) (nI ((64 * u + 8 * j + v) / 8 % 8)) (nI ((64 * u + 8 * j + v) % 8))
    rw [show (64 * u + 8 * j + v) / 64 = u by omega, show (64 * u + 8 * j + v) / 8 % 8 = j by omega, show (64 * u + 8 * j + v) % 8 = v by omega]
  · subst e
    show cel F (nI u) (nI v) (nI j) = cel F (nI ((64 * u + 8 * v + j) / 64)) (nI ((64 * u + 8 * v + j) / 8 % 8)) (nI ((64 * u + 8 * v + j) % 8))
    rw [show (64 * u + 8 * v + j) / 64 = u by omega, show (64 * u + 8 * v + j) / 8 % 8 = v by omega, show (64 * u + 8 * v + j) % 8 = j by omega]
theorem dpn_n {M : Mm} {F : Nat → Int64} (h : ∀ n, n < 512 → cb F n = rb (mI M 54) n) {a u v : Nat} (ha : a < 3) (hu : u < 8) (hv : v < 8) (up : Bool) : dpn F a up (nI u) (nI v) = dmD M a up u v := fst8_c fun k hk => dpc_n h ha hk hu hv up
theorem sp_depth {l : Launch} {E : Ev} (hl9 : l.stackTraces = false) : Sp_depth l E Inv := by
  intro M x up u w9 hI
  obtain ⟨g, cnt, bar, fr, pc, mc, q⟩ := id hI
  have hb := INV_b q
  have hi : insd u w9 0 = true ↔ in7 u = true ∧ in7 w9 = true := by
    rw [insd_e, in7_e, in7_e]
    have e0 : (0 : Int32).toInt = 0 := by decide
    rw [e0]
    exact ⟨fun h => ⟨h.1, h.2.1⟩, fun h => ⟨h.1, h.2, by decide⟩⟩
  refine ⟨_, cw_depth (by decide) (c_X9_depth hl9 q.1.2.2.1 hb.2.2.2) (fun N M' h => h.1.elim (fun h => Or.inl h.2) fun h => Or.inr h.2.2) (fun v M' h => ⟨_, h.2.2.1⟩), fun v M1 hK => ?_⟩
  rcases hK with ⟨w, M', ⟨h1, h2, hv1, hM1⟩, h4, h5⟩ | ⟨⟨h, h3⟩, h4⟩ | ⟨⟨h, h3⟩, h4⟩
  · subst hM1 h5
    have hw := vI hv1
    rw [axX_2] at h1
    have h2' := hi.mp h2
    obtain ⟨a, ha, rfl⟩ := in2_n h1
    obtain ⟨u1, hu1, rfl⟩ := in7_n h2'.1
    obtain ⟨v1, hv1', rfl⟩ := in7_n h2'.2
    refine ⟨0, by decide, h4, 4, _, by decide, c_X10_depth, fun v2 M2 hP => ?_⟩
    rcases hP with ⟨z, -⟩ | ⟨-, z, -⟩ | ⟨-, -, -, hv2, hM⟩
    · exact absurd (h1.symm.trans z) (by decide)
    · exact absurd h2' z
    · subst hM
      refine ⟨_, hv2, rfl, fun _ => ?_, Inv_sm (sm_tr (sm_W _ _) (sm_cd _ _)) hI⟩
      show w.toInt64 = (nI (fst8 (dmp M' (ntX (nI a)) up (ntX (nI u1)) (ntX (nI v1))))).toInt64
      rw [hw, ntX_nI (by omega), ntX_nI (by omega), ntX_nI (by omega), fst8_c (fun k hk => dpc_n (INV_RB q).2.1 ha hk hu1 hv1' up)]
  · have h2 : axX x = false := by
      rcases h with ⟨h, -⟩ | ⟨-, -, h⟩
      · exact h
      · exact absurd h (by decide)
    rw [axX_2] at h2
    subst h3
    refine ⟨1, by decide, h4, 4, _, by decide, c_X10_depth, fun v2 M2 hP => ?_⟩
    rcases hP with ⟨-, hv2, hM⟩ | ⟨z, -⟩ | ⟨z, -⟩
    · subst hM
      exact ⟨_, hv2, rfl, no1 (by decide), Inv_sm (sm_tr (sm_cd _ _) (sm_cd _ _)) hI⟩
    · exact absurd (z.symm.trans h2) (by decide)
    · exact absurd (z.symm.trans h2) (by decide)
  · have h2 : axX x = true ∧ insd u w9 0 = false := by
      rcases h with ⟨-, h⟩ | ⟨h1, h, -⟩
      · exact absurd h (by decide)
      · exact ⟨h1, h⟩
    rw [axX_2] at h2
    have hn : ¬ (in7 u = true ∧ in7 w9 = true) := fun z => absurd ((hi.mpr z).symm.trans h2.2) (by decide)
    subst h3
    refine ⟨2, by decide, h4, 4, _, by decide, c_X10_depth, fun v2 M2 hP => ?_⟩
    rcases hP with ⟨z, -⟩ | ⟨-, -, hv2, hM⟩ | ⟨-, z1, z2, -⟩
    · exact absurd (h2.1.symm.trans z) (by decide)
    · subst hM
      exact ⟨_, hv2, rfl, no1 (by decide), Inv_sm (sm_tr (sm_cd _ _) (sm_cd _ _)) hI⟩
    · exact absurd ⟨z1, z2⟩ hn
