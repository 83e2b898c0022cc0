/-! what the law's sound counts -/
theorem ct_one {f g : Nat → Bool} {m : Nat} : ∀ {n : Nat}, m < n → (∀ j, j < n → ¬ j = m → f j = g j) → f m = true → g m = false → fb_ct f n = fb_ct g n + 1 := by
  intro n
  induction n with
  | zero => intro h; omega
  | succ n ih =>
    intro hm h h1 h2
    rw [fb_ct_succ, fb_ct_succ]
    by_cases e : m = n
    · subst e
      rw [h1, h2, fb_ct_cong (fun j hj => h j (by omega) (by omega))]; simp
    · rw [ih (by omega) (fun j hj => h j (by omega)) h1 h2, h n (by omega) (fun q => e q.symm)]; omega
/-- a piece less -/
theorem ct_eq1 (m : Nat) : ∀ g, fb_ct (fun f => decide (m = f)) g = if m < g then 1 else 0 := by
  intro g
  induction g with
  | zero => rfl
  | succ g ih =>
    rw [fb_ct_succ, ih]
    by_cases c : m = g
    · rw [if_neg (show ¬ m < g by omega), if_pos (show decide (m = g) = true from decide_eq_true c), if_pos (show m < g + 1 by omega)]
    · rw [if_neg (show ¬ decide (m = g) = true from fun z => c (of_decide_eq_true z))]
      by_cases d : m < g
      · rw [if_pos d, if_pos (show m < g + 1 by omega)]
      · rw [if_neg d, if_neg (show ¬ m < g + 1 by omega)]
theorem sm_names (p : Nat → Bool) (m : Nat → Nat) {N g : Nat} (h : ∀ n, n < N → p n = true → m n < g) : fb_sm (fun f => fb_ct (fun n => p n && decide (m n = f)) N) g = fb_ct p N := by
  rw [show (fun f => fb_ct (fun n => p n && decide (m n = f)) N) = fun f => fb_sm (fun n => b01 (fun n => p n && decide (m n = f)) n) N from funext fun f => ct_b01 _ _, sm_swap (fun f n => b01 (fun n => p n && decide (m n = f)) n) N g, ct_b01]
  refine fb_sm_cong fun n hn => ?_
  show fb_sm (b01 (fun f => p n && decide (m n = f))) g = b01 p n
  rw [← ct_b01]
  unfold b01
  cases e : p n with
  | false => rw [if_neg (by decide)]; exact fb_ct_zero.mpr fun k _ => rfl
  | true =>
    rw [if_pos rfl]
    have := ct_eq1 (m n) g
    rw [if_pos (h n hn e)] at this
    exact this
theorem ct_row {fr : Nat → Nat} {g : Nat} : ∀ c, (∀ k, k < c → fr k < g) → (∀ i j, i < c → j < c → fr i = fr j → i = j) → fb_ct (fun f => (List.range c).any fun j => decide (fr j = f)) g = c := by
  intro c
  induction c with
  | zero => intro _ _; exact fb_ct_zero.mpr fun k _ => rfl
  | succ c ih =>
    intro h1 h2
    have a1 : ∀ j, j < g → ¬ j = fr c → ((List.range (c + 1)).any fun i => decide (fr i = j)) = ((List.range c).any fun i => decide (fr i = j)) := fun j hj hne => by
      rw [List.range_succ, List.any_append, List.any_cons, List.any_nil, Bool.or_false, decide_eq_false (fun e => hne e.symm), Bool.or_false]
    have a2 : ((List.range (c + 1)).any fun i => decide (fr i = fr c)) = true := List.any_eq_true.mpr ⟨c, List.mem_range.mpr (by omega), decide_eq_true rfl⟩
    have a3 : ((List.range c).any fun i => decide (fr i = fr c)) = false := by
      refine Bool.eq_false_iff.mpr fun e => ?_
      obtain ⟨j, hj, e⟩ := List.any_eq_true.mp e
      have hj := List.mem_range.mp hj
      have := h2 j c (by omega) (by omega) (of_decide_eq_true e)
      omega
    rw [ct_one (m := fr c) (f := fun f => (List.range (c + 1)).any fun j => decide (fr j = f)) (g := fun f => (List.range c).any fun j => decide (fr j = f)) (h1 c (by omega)) a1 a2 a3, ih (fun k hk => h1 k (by omega)) (fun i j hi hj e => h2 i j (by omega) (by omega) e)]
/-- what the law's own rows and questions don't change -/
def bfX (M M' : Mm) : Prop := (∀ t, ¬ (t = 29 ∨ t = 14 ∨ t = 15) → mI M' t = mI M t) ∧ M'.2.2.2 = M.2.2.2 ∧ (∀ c, ¬ (13 ≤ c ∧ c ≤ 18) → mL M' c = mL M c) ∧ ∀ c, ¬ (13 ≤ c ∧ c ≤ 14) → mK M' c = mK M c
theorem bx_of {M M' : Mm} (h : bfF M M') : bfX M M' := ⟨fun t ht => h.1 t (by omega), h.2⟩
theorem bx_tr {A B C : Mm} (h : bfX A B) (g : bfX B C) : bfX A C := ⟨fun t ht => (g.1 t ht).trans (h.1 t ht), g.2.1.trans h.2.1, fun c hc => (g.2.2.1 c hc).trans (h.2.2.1 c hc), fun c hc => (g.2.2.2 c hc).trans (h.2.2.2 c hc)⟩
theorem bx_I {M M' : Mm} (h : bfX M M') {t : Nat} (ht : t = 14 ∨ t = 15) (f : Nat → Int32) : bfX M (sI M' t f) := ⟨fun u hu => by rw [mI_sI, if_neg (by omega)]; exact h.1 u hu, h.2⟩
theorem bx_zz (M : Mm) : bfX M (zzT M) := bx_I (bx_I (bx_of (bf_rf M)) (Or.inl rfl) _) (Or.inr rfl) _
theorem bx_rs {M M' : Mm} (h : bfX M M') : bfF M (rsT M M') := by
  refine ⟨fun t ht => ?_, h.2.1, h.2.2.1, h.2.2.2⟩
  unfold rsT
  rw [mI_sI]
  by_cases c : t = 15
  · rw [if_pos c, c]
  · rw [if_neg c, mI_sI]
    by_cases d : t = 14
    · rw [if_pos d, d]
    · rw [if_neg d]; exact h.1 t (by omega)
section BX
variable {M M' : Mm} {g cnt bar : Nat} {fr : Nat → Nat} {pc mc : Nat}
theorem CI_bx (h : bfX M M') (q : CI M g cnt bar fr pc mc) : CI M' g cnt bar fr pc mc := by
  obtain ⟨h1, h2, h3, h4⟩ := h
  obtain ⟨q1, q2, q3, q4, q5, q6, q7⟩ := q
  have hb : bar ≤ 12 := Nat.le_trans q2.2.2.1 q2.2.1
  exact ⟨IA_c (h1 2 (by decide)) (h1 24 (by decide)) q1, q2, CC_c (h1 25 (by decide)) (h1 27 (by decide)) q3, CN_c (fun t ht => h1 t (by omega)) q4, CH_c (by rw [h1 1 (by decide)]) (fun t ht => h1 t (by omega)) (fun c hc => h3 c (by omega)) (fun c hc => h4 c (by omega)) q5, (sb_c (fun t ht => h1 t (by omega))).trans q6, CP_c (h1 5 (by decide)) (fun t ht => h1 t (by omega)) q7⟩
theorem plX_bx (h : bfX M M') (cnt : Nat) (x : Int32) : plX M' cnt x = plX M cnt x := by
  unfold plX
  rw [h.1 24 (by decide)]
theorem stX9_bx (h : bfX M M') (cnt bar : Nat) (x : Int32) : stX9 M' cnt bar x = stX9 M cnt bar x := by
  unfold stX9
  rw [h.1 24 (by decide), h.1 27 (by decide), h.1 28 (by decide)]
theorem sqX_bx (h : bfX M M') (hb : bar ≤ 12) (f s : Nat) : sqX M' bar f s = sqX M bar f s := by
  unfold sqX
  rw [h.2.2.1 bar (by omega), h.2.2.2 bar (by omega)]
/-! squares by names -/
def sqN (M : Mm) (bar s f : Nat) : Nat := fb_ct (fun n => sqB (cb (mL M bar)) n s && decide (mkn (mK M bar) s (n % 8) (po n) 6 = f)) 512
def asN (M : Mm) (bar s : Nat) : Nat := fb_ct (fun n => sqB (cb (mL M bar)) n s) 512
theorem sqX_n {f s : Nat} (hf : f < 40) (hs : s < 6) : sqX M bar f s = nI (sqN M bar s f) := by
  refine smI_set (f := fun z => chA (mL M bar) (mK M bar) (nI f) (nI s) z) fun n hn => ?_
  show bw (chA (mL M bar) (mK M bar) (nI f) (nI s) (n % 8)) (po n) = _
  unfold chA
  have h := nI_rg hf (show 40 < 2 ^ 31 by decide)
  rw [if_neg (fun z => z.elim h.1 h.2), ntX_nI (by omega), ntX_nI (by omega), cb_chk _ _ f hn hs 6, all6 (by omega)]
theorem CI_mk (q : CI M g cnt bar fr pc mc) {n s : Nat} (hn : n < 512) (hs : s < 6) (h : sqB (cb (mL M bar)) n s = true) : mkn (mK M bar) s (n % 8) (po n) 6 < g := by
  obtain ⟨b1, b2, b3, b4, b5⟩ := id q.2.1
  exact mkn_st (M := M) (fr := fr) (F := fun k => mL M k) (K := fun k => mK M k) (fl := fun k => mI M 28 (fr k)) (n := bar) b1 (fun k hk => b4 k (by omega)) q.2.2.2.2.1.2.2.1.1.1 q.2.2.2.2.1.2.2.1.2 bar (Nat.le_refl _) n hn s hs h
theorem sum_sq (q : CI M g cnt bar fr pc mc) {s : Nat} (hs : s < 6) : fb_sm (sqN M bar s) g = asN M bar s :=
  sm_names (fun n => sqB (cb (mL M bar)) n s) (fun n => mkn (mK M bar) s (n % 8) (po n) 6) fun _ hn h => CI_mk q hn hs h
theorem arX_n : arX M bar = nI (fb_sm (asN M bar) 6) := smI_n fun s hs => sqn_n (mL M bar) hs
theorem asN_2 : asN M bar 0 = asN M bar 1 ∧ asN M bar 2 = asN M bar 3 ∧ asN M bar 4 = asN M bar 5 := ⟨bal_0 _, bal_1 _, bal_2 _⟩
theorem asN_le (s : Nat) : asN M bar s ≤ 512 := fb_ct_le _ _
/-! places -/
theorem plX_in (q : CI M g cnt bar fr pc mc) {j : Nat} (hj : j < cnt) : plX M cnt (nI (fr j)) = nI j := by
  obtain ⟨b1, b2, b3, b4, b5⟩ := id q.2.1
  have h := fp_at (CI_row q) b5 hj (CI_row q j hj).1
  unfold plX
  rw [h, if_neg (nI_pos (by omega))]
theorem plX_out (q : CI M g cnt bar fr pc mc) {f : Nat} (hf : f < 40) (h : ∀ j, j < cnt → ¬ fr j = f) : plX M cnt (nI f) = -1005 ∧ stX9 M cnt bar (nI f) = -1005 := by
  have h : fpX cnt (mI M 24) (nI f) = -1 := fpX_f fun j hj e => by
    have hr := CI_row q j hj
    rw [hr.1] at e
    exact h j hj ((nI_eq (by omega) (by omega)).mp e)
  unfold plX stX9
  rw [h]
  exact ⟨by decide, if_pos (by decide)⟩
theorem row_or (f : Nat) : (∃ j, j < cnt ∧ fr j = f) ∨ ∀ j, j < cnt → ¬ fr j = f := by
  by_cases h : ∃ j, j < cnt ∧ fr j = f
  · exact Or.inl h
  · exact Or.inr fun j hj e => h ⟨j, hj, e⟩
/-- how many of the first features stand at a place, or in the row -/
def atN (M : Mm) (cnt i k : Nat) : Nat := fb_ct (fun f => decide (plX M cnt (nI f) = nI k)) i
def inN (M : Mm) (cnt i : Nat) : Nat := fb_ct (fun f => decide (¬ plX M cnt (nI f) < 0)) i
theorem at_1 (q : CI M g cnt bar fr pc mc) {k : Nat} (hk : k < cnt) : atN M cnt g k = 1 := by
  obtain ⟨b1, b2, b3, b4, b5⟩ := id q.2.1
  have h := ct_eq1 (fr k) g
  rw [if_pos (b4 k hk)] at h
  rw [← h]
  refine fb_ct_cong fun f hf => decide_eq_decide.mpr ?_
  rcases row_or (cnt := cnt) (fr := fr) f with ⟨j, hj, rfl⟩ | h
  · rw [plX_in q hj, nI_eq (by omega) (by omega)]
    exact ⟨fun e => by rw [e], fun e => (b5 k j hk hj e).symm⟩
  · rw [(plX_out q (by omega) h).1]
    exact ⟨fun e => absurd (show (-1005 : Int32) < 0 by decide) (by rw [e]; exact nI_pos (by omega)), fun e => absurd e (h k hk)⟩
theorem in_c (q : CI M g cnt bar fr pc mc) : inN M cnt g = cnt := by
  obtain ⟨b1, b2, b3, b4, b5⟩ := id q.2.1
  have h := ct_row (fr := fr) (g := g) cnt b4 b5
  rw [← h]
  unfold inN
  rw [h]
  refine Eq.trans (fb_ct_cong fun f hf => ?_) h
  rcases row_or (cnt := cnt) (fr := fr) f with ⟨j, hj, rfl⟩ | h
  · rw [plX_in q hj, decide_eq_true (nI_pos (by omega))]
    exact (List.any_eq_true.mpr ⟨j, List.mem_range.mpr hj, decide_eq_true rfl⟩).symm
  · rw [(plX_out q (by omega) h).1, show decide (¬ (-1005 : Int32) < 0) = false from rfl]
    refine (Bool.eq_false_iff.mpr fun e => ?_).symm
    obtain ⟨j, hj, e⟩ := List.any_eq_true.mp e
    exact h j (List.mem_range.mp hj) (of_decide_eq_true e)
/-! volume and bodies -/
theorem voX_n : voX M bar = nI (fb_ct (cb (mL M bar)) 512) := smI_bcl _
theorem pcN_le {W : Nat} : ∀ n R, pcN W n R ≤ n := by
  intro n
  induction n with
  | zero => intro R; rw [pcN_0]; exact Nat.le_refl _
  | succ n ih =>
    intro R
    cases e : sdz R with
    | none => rw [pcN_n e]; omega
    | some z => rw [pcN_s e]; have := ih (fun y => R y &&& (grw R W (sdP R z) y ^^^ -1)); omega
theorem pcX_le (R : Nat → Int64) : pcX R ≤ 512 := pcN_le 512 R
theorem pc_vol (R : Nat → Int64) : pcX R = 0 ↔ fb_ct (cb R) 512 = 0 := by
  rw [fb_ct_zero]
  have h : pcX R = 0 ↔ sdz R = none := by
    unfold pcX
    cases e : sdz R with
    | none => rw [pcN_n (n := 511) e]; exact ⟨fun _ => rfl, fun _ => rfl⟩
    | some z => rw [pcN_s (n := 511) e]; exact ⟨fun h => absurd h (Nat.succ_ne_zero _), fun h => absurd h (by simp)⟩
  rw [h]
  constructor
  · intro e n hn
    unfold cb
    rw [sdz_no e (n % 8) (by omega), bw_0]
  · intro e
    refine sdz_n fun z hz => ?_
    have h2 : ∀ n, n < 512 → cb R n = cb (fun _ => 0) n := fun n hn => by
      rw [e n hn]
      unfold cb
      rw [bw_0]
    exact cb_ext h2 z hz
/-- all is sound -/
theorem snd_ok {M1 : Mm} (q : CI M g cnt bar fr pc mc) (hb : bfF M M1) (hs : SR M fr bar (mL M1 13) (mK M1 13)) : (sameL (mL M1 bar) (mL M1 13) && balN (mL M1 bar) && sbN M1 cnt fr && fitX M1 mc) = true := by
  have q1 := CI_bf hb q
  obtain ⟨b1, b2, b3, b4, b5⟩ := id q.2.1
  have h := SR_u (M := M) (fr := fr) (F := fun k => mL M k) (K := fun k => mK M k) (fl := fun k => mI M 28 (fr k)) (n := bar) q.2.2.2.2.1.2.2.1.1.1 q.2.2.2.2.1.2.2.1.1.2 (fun k hk => CI_kd q k (by omega)) q.2.2.2.2.1.2.2.1.2 bar (Nat.le_refl _) _ _ hs
  have e : sameL (mL M1 bar) (mL M1 13) = true := sameL_t fun z hz => by
    rw [hb.2.2.1 bar (by omega)]; exact h.1 z hz
  rw [e, balN_all, q1.2.2.2.2.2.1, q1.2.2.2.2.2.2.2.2.2]; rfl
end BX
