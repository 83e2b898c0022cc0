/-! lines -/
theorem cel_out (F : Nat → Int64) {x y z : Int32} (h : in7 x = false ∨ in7 y = false ∨ in7 z = false) : cel F x y z = false := by
  have e : insd x y z = false := Bool.eq_false_iff.mpr fun q => by
    rw [insd_e, ← in7_e, ← in7_e, ← in7_e] at q
    rcases h with h | h | h
    · exact absurd (q.1.symm.trans h) (by decide)
    · exact absurd (q.2.1.symm.trans h) (by decide)
    · exact absurd (q.2.2.symm.trans h) (by decide)
  unfold cel
  rw [e, Bool.false_and]
theorem dpn_out (F : Nat → Int64) {a : Nat} (ha : a < 3) (up : Bool) {u v : Int32} (h : in7 u = false ∨ in7 v = false) : dpn F a up u v = 8 := by
  refine fst8_none fun k _ => ?_
  unfold dpc
  rcases (show a = 0 ∨ a = 1 ∨ a = 2 by omega) with e | e | e
  · subst e
    exact cel_out F (h.elim (fun h => Or.inr (Or.inl h)) fun h => Or.inr (Or.inr h))
  · subst e
    exact cel_out F (h.elim (fun h => Or.inl h) fun h => Or.inr (Or.inr h))
  · subst e
    exact cel_out F (h.elim (fun h => Or.inl h) fun h => Or.inr (Or.inl h))
def gx (D : Nat → Nat → Nat) (u v : Nat) : Nat := if u < 8 ∧ v < 8 then D u v else 8
def ne1 (a b : Nat) : Nat := if a = b then 0 else 1
def aU (D : Nat → Nat → Nat) (u v : Nat) : Nat := ne1 (gx D u v) (if u = 0 then 8 else gx D (u - 1) v)
def aV (D : Nat → Nat → Nat) (u v : Nat) : Nat := ne1 (gx D u v) (if v = 0 then 8 else gx D u (v - 1))
theorem pr1 (u : Nat) : nI (u + 1) - nI 1 = nI u := by rw [← nI_add, Int32.add_sub_cancel]
theorem in7_o : in7 (nI 8) = false ∧ in7 (nI 0 - nI 1) = false := by decide
theorem dpn_g {M : Mm} {F : Nat → Int64} (h : ∀ n, n < 512 → cb F n = rb (mI M 54) n) {a u v : Nat} (ha : a < 3) (hu : u < 9) (hv : v < 9) (up : Bool) : dpn F a up (nI u) (nI v) = gx (dmD M a up) u v := by
  unfold gx
  by_cases e : u < 8 ∧ v < 8
  · rw [if_pos e]; exact dpn_n h ha e.1 e.2 up
  · rw [if_neg e]
    refine dpn_out F ha up ?_
    by_cases q : u < 8
    · rw [show v = 8 by omega]; exact Or.inr in7_o.1
    · rw [show u = 8 by omega]; exact Or.inl in7_o.1
theorem dpn_u {M : Mm} {F : Nat → Int64} (h : ∀ n, n < 512 → cb F n = rb (mI M 54) n) {a u v : Nat} (ha : a < 3) (hu : u < 9) (hv : v < 9) (up : Bool) : dpn F a up (nI u - nI 1) (nI v) = (if u = 0 then 8 else gx (dmD M a up) (u - 1) v) := by
  cases u with
  | zero => rw [if_pos rfl]; exact dpn_out F ha up (Or.inl in7_o.2)
  | succ u => rw [if_neg (by omega), pr1]; exact dpn_g h ha (by omega) hv up
theorem dpn_v {M : Mm} {F : Nat → Int64} (h : ∀ n, n < 512 → cb F n = rb (mI M 54) n) {a u v : Nat} (ha : a < 3) (hu : u < 9) (hv : v < 9) (up : Bool) : dpn F a up (nI u) (nI v - nI 1) = (if v = 0 then 8 else gx (dmD M a up) u (v - 1)) := by
  cases v with
  | zero => rw [if_pos rfl]; exact dpn_out F ha up (Or.inr in7_o.2)
  | succ v => rw [if_neg (by omega), pr1]; exact dpn_g h ha hu (by omega) up
theorem ne_n {a b : Nat} (ha : a ≤ 8) (hb : b ≤ 8) : (if nI a = nI b then nI 0 else nI 1) = nI (ne1 a b) := by
  unfold ne1
  by_cases e : a = b
  · rw [if_pos e, e, if_pos rfl]
  · rw [if_neg e, if_neg fun q => e ((nI_eq (by omega) (by omega)).mp q)]
theorem ln1_n {M : Mm} {F : Nat → Int64} (h : ∀ n, n < 512 → cb F n = rb (mI M 54) n) {a u v : Nat} (ha : a < 3) (hu : u < 9) (hv : v < 9) (up : Bool) (m : Nat) : ln1 F a up u (nI m) v = nI (m + (aU (dmD M a up) u v + aV (dmD M a up) u v)) := by
  have e1 := ne_n (fst8_le (dpc F a up (nI u) (nI v))) (fst8_le (dpc F a up (nI u - nI 1) (nI v)))
  have e2 := ne_n (fst8_le (dpc F a up (nI u) (nI v))) (fst8_le (dpc F a up (nI u) (nI v - nI 1)))
  have d0 := dpn_g h ha hu hv up
  have d1 := dpn_u h ha hu hv up
  have d2 := dpn_v h ha hu hv up
  unfold ln1
  unfold dpn at *
  rw [e1, e2, nI_add, nI_add, d0, d1, d2, Nat.add_assoc]
  rfl
theorem lnV_s' (f : Nat → Int64) (a : Nat) (up : Bool) (u : Nat) (n : Int32) (v : Nat) : lnV f a up u n (v + 1) = ln1 f a up u (lnV f a up u n v) v := by rw [lnV]
theorem lnU_s' (f : Nat → Int64) (a : Nat) (up : Bool) (u : Nat) : lnU f a up (u + 1) = lnV f a up u (lnU f a up u) 9 := by rw [lnU]
theorem lnV_n {M : Mm} {F : Nat → Int64} (h : ∀ n, n < 512 → cb F n = rb (mI M 54) n) {a u : Nat} (ha : a < 3) (hu : u < 9) (up : Bool) (m : Nat) : ∀ v, v ≤ 9 → lnV F a up u (nI m) v = nI (m + fb_sm (fun v => aU (dmD M a up) u v + aV (dmD M a up) u v) v) := by
  intro v
  induction v with
  | zero => intro _; rfl
  | succ v ih => intro hv; rw [lnV_s', ih (by omega), ln1_n h ha hu (by omega), fb_sm_succ, Nat.add_assoc]
theorem lnU_n {M : Mm} {F : Nat → Int64} (h : ∀ n, n < 512 → cb F n = rb (mI M 54) n) {a : Nat} (ha : a < 3) (up : Bool) : ∀ u, u ≤ 9 → lnU F a up u = nI (fb_sm (fun u => fb_sm (fun v => aU (dmD M a up) u v + aV (dmD M a up) u v) 9) u) := by
  intro u
  induction u with
  | zero => intro _; rfl
  | succ u ih => intro hu; rw [lnU_s', ih (by omega), lnV_n h ha (by omega) up _ 9 (Nat.le_refl _), fb_sm_succ _ u]
theorem lcV_n (D : Nat → Nat → Nat) (u : Nat) : ∀ v, lcV D u v = fb_sm (fun v => lcN D u v) v := by
  intro v
  induction v with
  | zero => exact lcV_0 D u
  | succ v ih => rw [lcV_s, ih, fb_sm_succ]
theorem lcU_n (D : Nat → Nat → Nat) : ∀ u, lcU D u = fb_sm (fun u => fb_sm (fun v => lcN D u v) 8) u := by
  intro u
  induction u with
  | zero => exact lcU_0 D
  | succ u ih => rw [lcU_s, ih, fb_sm_succ, lcV_n]
/-- one row of columns -/
def pL (f : Nat → Nat) (u : Nat) : Nat := (if u < 7 ∧ ¬ f u = f (u + 1) then 1 else 0) + (if f u < 8 then (if u = 0 then 1 else 0) + (if u = 7 then 1 else 0) else 0)
def gL (f : Nat → Nat) (u : Nat) : Nat := if u < 8 then f u else 8
def aL (f : Nat → Nat) (u : Nat) : Nat := ne1 (gL f u) (if u = 0 then 8 else gL f (u - 1))
theorem row_l (f : Nat → Nat) (hf : ∀ u, f u ≤ 8) : fb_sm (aL f) 9 = fb_sm (pL f) 8 := by
  have h0 : aL f 0 = if f 0 < 8 then 1 else 0 := by
    have := hf 0
    show (if f 0 = 8 then 0 else 1) = _
    split <;> split <;> omega
  have h8 : aL f 8 = if f 7 < 8 then 1 else 0 := by
    have := hf 7
    show (if 8 = f 7 then 0 else 1) = _
    split <;> split <;> omega
  have hs : ∀ u, u < 7 → aL f (u + 1) = if ¬ f u = f (u + 1) then 1 else 0 := fun u hu => by
    unfold aL gL ne1
    rw [if_pos (show u + 1 < 8 by omega), if_neg (show ¬ u + 1 = 0 by omega), show u + 1 - 1 = u by omega, if_pos (show u < 8 by omega)]
    split <;> split <;> omega
  have e1 : fb_sm (aL f) 9 = aL f 0 + aL f 1 + aL f 2 + aL f 3 + aL f 4 + aL f 5 + aL f 6 + aL f 7 + aL f 8 := by
    simp only [fb_sm_succ]
    show 0 + _ + _ + _ + _ + _ + _ + _ + _ + _ = _
    rw [Nat.zero_add]
  have e2 : fb_sm (pL f) 8 = pL f 0 + pL f 1 + pL f 2 + pL f 3 + pL f 4 + pL f 5 + pL f 6 + pL f 7 := by
    simp only [fb_sm_succ]
    show 0 + _ + _ + _ + _ + _ + _ + _ + _ = _
    rw [Nat.zero_add]
  have p0 : pL f 0 = aL f 1 + aL f 0 := by
    rw [hs 0 (by decide), h0]
    unfold pL
    simp
  have p7 : pL f 7 = aL f 8 := by
    rw [h8]
    unfold pL
    simp
  have ps : ∀ u, 0 < u → u < 7 → pL f u = aL f (u + 1) := fun u h1 h2 => by
    rw [hs u h2]
    unfold pL
    rw [if_neg (show ¬ u = 0 by omega), if_neg (show ¬ u = 7 by omega)]
    simp [h2]
  rw [e1, e2, p0, p7, show pL f 1 = aL f 2 from ps 1 (by decide) (by decide), show pL f 2 = aL f 3 from ps 2 (by decide) (by decide), show pL f 3 = aL f 4 from ps 3 (by decide) (by decide), show pL f 4 = aL f 5 from ps 4 (by decide) (by decide), show pL f 5 = aL f 6 from ps 5 (by decide) (by decide), show pL f 6 = aL f 7 from ps 6 (by decide) (by decide)]
  omega
theorem aU_l (D : Nat → Nat → Nat) {v : Nat} (hv : v < 8) (u : Nat) : aU D u v = aL (fun u => D u v) u := by
  unfold aU aL gx gL
  simp only [hv, and_true]
theorem aV_l (D : Nat → Nat → Nat) {u : Nat} (hu : u < 8) (v : Nat) : aV D u v = aL (fun v => D u v) v := by
  unfold aV aL gx gL
  simp only [hu, true_and]
theorem aU_8 (D : Nat → Nat → Nat) (u : Nat) : aU D u 8 = 0 := by
  unfold aU gx ne1
  simp
theorem aV_8 (D : Nat → Nat → Nat) (v : Nat) : aV D 8 v = 0 := by
  unfold aV gx ne1
  simp
theorem lcN_p (D : Nat → Nat → Nat) (u v : Nat) : lcN D u v = pL (fun u => D u v) u + pL (fun v => D u v) v := by
  unfold lcN pL rmN
  dsimp only
  by_cases e : D u v < 8
  · simp only [if_pos e]; omega
  · simp only [if_neg e]; omega
theorem lines_eq (D : Nat → Nat → Nat) (hD : ∀ u v, D u v ≤ 8) : fb_sm (fun u => fb_sm (fun v => aU D u v + aV D u v) 9) 9 = fb_sm (fun u => fb_sm (fun v => lcN D u v) 8) 8 := by
  have l1 : fb_sm (fun u => fb_sm (fun v => aU D u v) 9) 9 = fb_sm (fun v => fb_sm (pL (fun u => D u v)) 8) 8 := by
    rw [sm_swap (fun u v => aU D u v) 9 9, fb_sm_succ, show fb_sm (fun u => aU D u 8) 9 = 0 from (fb_sm_cong fun u _ => aU_8 D u).trans (fb_sm_const 0 9), Nat.add_zero]
    refine fb_sm_cong fun v hv => ?_
    rw [fb_sm_cong (fun u _ => aU_l D hv u)]
    exact row_l _ (fun u => hD u v)
  have l2 : fb_sm (fun u => fb_sm (fun v => aV D u v) 9) 9 = fb_sm (fun u => fb_sm (pL (fun v => D u v)) 8) 8 := by
    rw [fb_sm_succ, show fb_sm (fun v => aV D 8 v) 9 = 0 from (fb_sm_cong fun v _ => aV_8 D v).trans (fb_sm_const 0 9), Nat.add_zero]
    refine fb_sm_cong fun u hu => ?_
    rw [fb_sm_cong (fun v _ => aV_l D hu v)]
    exact row_l _ (fun v => hD u v)
  have r1 : fb_sm (fun u => fb_sm (fun v => lcN D u v) 8) 8 = fb_sm (fun u => fb_sm (fun v => pL (fun u => D u v) u) 8) 8 + fb_sm (fun u => fb_sm (pL (fun v => D u v)) 8) 8 := by
    rw [← fb_sm_add]
    refine fb_sm_cong fun u _ => ?_
    rw [← fb_sm_add]
    exact fb_sm_cong fun v _ => lcN_p D u v
  have r2 : fb_sm (fun u => fb_sm (fun v => aU D u v + aV D u v) 9) 9 = fb_sm (fun u => fb_sm (fun v => aU D u v) 9) 9 + fb_sm (fun u => fb_sm (fun v => aV D u v) 9) 9 := by
    rw [← fb_sm_add]
    refine fb_sm_cong fun u _ => ?_
    rw [← fb_sm_add]
  rw [r1, r2, l1, l2, sm_swap (fun u v => pL (fun u => D u v) u) 8 8]
theorem sp_lines {l : Launch} {E : Ev} (hl9 : l.stackTraces = false) : Sp_lines l E Inv := by
  intro M x up hI
  obtain ⟨g, cnt, bar, fr, pc, mc, q⟩ := id hI
  have hb := INV_b q
  refine ⟨_, cw_lines (by decide) (c_X9_lines hl9 q.1.2.2.1 hb.2.2.2) (fun N M' h => h.2.1) (fun v M' h => ⟨_, h.2.1⟩), fun v M1 hK => ?_⟩
  rcases hK with ⟨w, M', ⟨h1, hv1, hM1⟩, h4, h5⟩ | ⟨⟨h, -, h3⟩, h4⟩
  · subst hM1 h5
    have hw := vI hv1
    rw [axX_2] at h1
    obtain ⟨a, ha, rfl⟩ := in2_n h1
    refine ⟨0, by decide, h4, 4, _, by decide, c_X10_lines, fun v2 M2 hP => ?_⟩
    rcases hP with ⟨z, -⟩ | ⟨-, hv2, hM⟩
    · exact absurd (h1.symm.trans z) (by decide)
    · subst hM
      refine ⟨_, hv2, rfl, fun _ => ?_, Inv_sm (sm_tr (sm_W _ _) (sm_cd _ _)) hI⟩
      show w.toInt64 = (nI (lcU (dmD M' (ntX (nI a)) up) 8)).toInt64
      rw [hw, ntX_nI (by omega), lnU_n (INV_RB q).2.1 ha up 9 (Nat.le_refl _), lcU_n, lines_eq (dmD M' a up) fun u v => fst8_le _]
  · rw [axX_2] at h
    subst h3
    refine ⟨1, by decide, h4, 4, _, by decide, c_X10_lines, fun v2 M2 hP => ?_⟩
    rcases hP with ⟨-, hv2, hM⟩ | ⟨z, -⟩
    · subst hM
      exact ⟨_, hv2, rfl, no1 (by decide), Inv_sm (sm_tr (sm_cd _ _) (sm_cd _ _)) hI⟩
    · exact absurd (z.symm.trans h) (by decide)
