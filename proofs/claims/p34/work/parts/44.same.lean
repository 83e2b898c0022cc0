/-! what is carried out is the same for layers that agree within the space -/
def e8 (F G : Nat → Int64) : Prop := ∀ z, z < 8 → F z = G z
def eK (K J : Nat → Int64) : Prop := ∀ i, i < 288 → K i = J i
theorem e8_bsd {F G : Nat → Int64} (h : e8 F G) {s z : Nat} (hz : z < 8) : bsd F s z = bsd G s z := by
  unfold bsd
  rw [h z hz, h (z - 1) (by omega)]
  by_cases c : z + 1 < 8
  · rw [h (z + 1) c]
  · rw [if_neg c, if_neg c]
theorem e8_sqa {F G : Nat → Int64} (h : e8 F G) {s z : Nat} (hz : z < 8) : sqa F s z = sqa G s z := by
  unfold sqa
  rw [h z hz, e8_bsd h hz]
theorem e8_inr {F G : Nat → Int64} (h : e8 F G) {z : Nat} (hz : z < 8) : ∀ k, inr F z k = inr G z k := by
  intro k
  induction k with
  | zero => exact h z hz
  | succ k ih => rw [inr, inr, ih, e8_bsd h hz]
theorem e8_nbr {F G : Nat → Int64} (h : e8 F G) {z : Nat} (hz : z < 8) : ∀ k, nbr F z k = nbr G z k := by
  intro k
  induction k with
  | zero => exact h z hz
  | succ k ih => rw [nbr, nbr, ih, e8_bsd h hz]
theorem e8_gwr {F G B C : Nat → Int64} (h : e8 F G) (hb : e8 B C) : ∀ i, e8 (gwr F B i) (gwr G C i) := by
  intro i
  induction i with
  | zero => exact h
  | succ i ih =>
    intro z hz
    rw [gwr, gwr]
    show (if z = i then nbr (gwr F B i) i 6 &&& B i else gwr F B i z) = (if z = i then nbr (gwr G C i) i 6 &&& C i else gwr G C i z)
    by_cases c : z = i
    · subst c
      rw [if_pos rfl, if_pos rfl, e8_nbr ih hz, hb z hz]
    · rw [if_neg c, if_neg c]; exact ih z hz
theorem e8_gwf {F G B C : Nat → Int64} (h : e8 F G) (hb : e8 B C) : ∀ i, i ≤ 8 → gwf F B i = gwf G C i := by
  intro i
  induction i with
  | zero => intro _; rfl
  | succ i ih =>
    intro hi
    rw [gwf, gwf, ih (by omega), e8_nbr (e8_gwr h hb i) (show i < 8 by omega), hb i (by omega), e8_gwr h hb i i (by omega)]
theorem e8_grw {B C : Nat → Int64} (hb : e8 B C) : ∀ n P Q, e8 P Q → e8 (grw B n P) (grw C n Q) := by
  intro n
  induction n with
  | zero => intro P Q h; rw [grw_0, grw_0]; exact h
  | succ n ih =>
    intro P Q h
    rw [grw_s, grw_s, e8_gwf h hb 8 (Nat.le_refl _)]
    by_cases c : gwf Q C 8 = true
    · rw [if_pos c, if_pos c]; exact ih _ _ (e8_gwr h hb 8)
    · rw [if_neg c, if_neg c]; exact e8_gwr h hb 8
theorem e8_sdz {F G : Nat → Int64} (h : e8 F G) : sdz F = sdz G := by
  unfold sdz
  rw [show List.range 8 = [0, 1, 2, 3, 4, 5, 6, 7] from rfl]
  simp only [List.find?, h 0 (by decide), h 1 (by decide), h 2 (by decide), h 3 (by decide), h 4 (by decide), h 5 (by decide), h 6 (by decide), h 7 (by decide)]
theorem sdz_lt {F : Nat → Int64} {z : Nat} (h : sdz F = some z) : z < 8 ∧ ¬ F z = 0 := by
  unfold sdz at h
  have h2 : decide (¬ F z = 0) = true := List.find?_some (p := fun z => decide (¬ F z = 0)) h
  exact ⟨List.mem_range.mp (List.mem_of_find?_eq_some h), of_decide_eq_true h2⟩
theorem sdz_no {F : Nat → Int64} (h : sdz F = none) : ∀ z, z < 8 → F z = 0 := by
  intro z hz
  unfold sdz at h
  have := List.find?_eq_none.mp h z (List.mem_range.mpr hz)
  exact Classical.byContradiction fun q => this (decide_eq_true q)
theorem e8_pcN {W : Nat} : ∀ n R S, e8 R S → pcN W n R = pcN W n S := by
  intro n
  induction n with
  | zero => intro R S _; rw [pcN_0, pcN_0]
  | succ n ih =>
    intro R S h
    have hz := e8_sdz h
    cases e : sdz S with
    | none => rw [pcN_n e, pcN_n (hz.trans e)]
    | some z =>
      rw [pcN_s e, pcN_s (hz.trans e)]
      congr 1
      refine ih _ _ fun y hy => ?_
      have hl := (sdz_lt e).1
      have hP : e8 (sdP R z) (sdP S z) := fun w _ => by unfold sdP; rw [h z hl]
      show R y &&& _ = S y &&& _
      rw [h y hy, e8_grw h W _ _ hP y hy]
theorem e8_pcX {R S : Nat → Int64} (h : e8 R S) : pcX R = pcX S := e8_pcN 512 R S h
theorem e8_chk {F G K J : Nat → Int64} (h : e8 F G) (hk : eK K J) {f s z : Nat} (hs : s < 6) (hz : z < 8) : ∀ j, j ≤ 6 → chk F K f s z j = chk G J f s z j := by
  intro j
  induction j with
  | zero => intro _; exact e8_sqa h hz
  | succ j ih => intro hj; rw [chk, chk, ih (by omega), hk _ (by omega)]
theorem e8_chA {F G K J : Nat → Int64} (h : e8 F G) (hk : eK K J) (x : Int32) {s : Nat} (hs : s < 6) : e8 (chA F K x (nI s)) (chA G J x (nI s)) := by
  intro z hz
  unfold chA
  by_cases c : x < 0 ∨ nI 40 ≤ x
  · rw [if_pos c, if_pos c]
  · rw [if_neg c, if_neg c]
    exact e8_chk h hk (by rw [ntX_nI (by omega)]; exact hs) hz 6 (Nat.le_refl _)
theorem un_c {kd : Int32} {a b : Nat → Int32} (h : ∀ w, w < 6 → a w = b w) : unX kd a = unX kd b := by
  unfold unX
  rw [h 0 (by decide), h 1 (by decide), h 2 (by decide), h 3 (by decide), h 4 (by decide), h 5 (by decide)]
theorem e8_ftX {kd : Int32} {a b : Nat → Int32} {F G K J : Nat → Int64} (hw : ∀ w, w < 6 → a w = b w) (h : e8 F G) (hk : eK K J) : ftX kd a F K = ftX kd b G J := by
  unfold ftX
  rw [un_c hw]
  by_cases c : unX kd b = true
  · rw [if_pos c, if_pos c]
  · rw [if_neg c, if_neg c]
    by_cases d : kd = nI 101
    · obtain ⟨s, hs, e⟩ := un_e (Bool.eq_false_iff.mpr c) d
      rw [if_pos d, if_pos d, hw 0 (by decide), hw 1 (by decide), e, e8_pcX (e8_chA h hk (b 0) hs)]
    · rw [if_neg d, if_neg d]
theorem in_cl {x y z : Int32} (h : insd x y z = true) : z.toNatClampNeg < 8 := by
  have h := of_decide_eq_true h
  obtain ⟨w, hw, rfl⟩ := nn_lt (n := 8) (by decide) h.2.2.2.2.1 h.2.2.2.2.2
  rw [nI_clamp (by omega)]; exact hw
theorem e8_cel {F G : Nat → Int64} (h : e8 F G) (x y z : Int32) : cel F x y z = cel G x y z := by
  unfold cel
  cases e : insd x y z with
  | false => rfl
  | true => rw [h _ (in_cl e)]
theorem e8_ptf {F G : Nat → Int64} (h : e8 F G) (x y z : Int32) : e8 (ptf F x y z) (ptf G x y z) := by
  intro w hw
  unfold ptf
  by_cases c : insd x y z = true
  · rw [if_pos c, if_pos c]
    show (if w = z.toNatClampNeg then _ else F w) = (if w = z.toNatClampNeg then _ else G w)
    rw [h _ (in_cl c), h w hw]
  · rw [if_neg c, if_neg c]; exact h w hw
theorem e8_mrK {A B F G : Nat → Int64} (ha : e8 A B) (h : e8 F G) (ax s : Int32) : ∀ k, e8 (mrK A ax s F k) (mrK B ax s G k) := by
  intro k
  induction k with
  | zero => rw [mrK_0, mrK_0]; exact h
  | succ k ih =>
    rw [mrK_s, mrK_s]
    unfold mrS
    rw [e8_cel ha]
    split
    · exact e8_ptf ih _ _ _
    · exact ih
theorem e8_sldz {A B F G : Nat → Int64} (ha : e8 A B) (h : e8 F G) (x y w : Int32) {z : Nat} (hz : z < 8) : sldz F A x y w z = sldz G B x y w z := by
  unfold sldz
  rw [h z hz]
  by_cases c : 0 ≤ nI z - w ∧ ¬ nI 8 ≤ nI z - w
  · obtain ⟨v, hv, e⟩ := nn_lt (n := 8) (by decide) (Int32.not_lt.mpr c.1) c.2
    rw [if_pos c, if_pos c, e, nI_clamp (by omega), ha v hv]
  · rw [if_neg c, if_neg c]
theorem e8_rpK {A B F G : Nat → Int64} (ha : e8 A B) (h : e8 F G) (u : Int32) (x y w : Nat → Int32) : ∀ k, e8 (rpK A u x y w F k) (rpK B u x y w G k) := by
  intro k
  induction k with
  | zero => rw [rpK_0, rpK_0]; exact h
  | succ k ih =>
    rw [rpK_s, rpK_s]
    by_cases c : u < nI (k + 1)
    · rw [if_pos c, if_pos c]; exact ih
    · rw [if_neg c, if_neg c]
      exact fun z hz => e8_sldz ha ih _ _ _ hz
theorem e8_box {a b : Nat → Int32} (hw : ∀ w, w < 6 → a w = b w) {B C : Nat → Int64} (h : boxOK a B) (g : boxOK b C) : e8 B C := by
  intro z hz
  refine bw_ext fun k hk => ?_
  have h1 := h (k % 8) (k / 8) z (by omega) (by omega) hz
  have h2 := g (k % 8) (k / 8) z (by omega) (by omega) hz
  rw [show k / 8 * 8 + k % 8 = k by omega] at h1 h2
  rw [h1, h2]
  unfold Bx
  rw [hw 0 (by decide), hw 1 (by decide), hw 2 (by decide), hw 3 (by decide), hw 4 (by decide), hw 5 (by decide)]
theorem e8_reF {kd : Int32} {a b : Nat → Int32} {B C F G H I : Nat → Int64} (hw : ∀ w, w < 6 → a w = b w) (hs : seven kd) (hB : bxK kd → e8 B C) (h : e8 F G) (hH : kd = nI 101 → e8 H I) : e8 (reF kd a B F F H) (reF kd b C G G I) := by
  unfold reF
  rw [hw 0 (by decide), hw 1 (by decide), hw 2 (by decide), hw 3 (by decide)]
  by_cases c1 : kd = nI 98
  · rw [if_pos c1, if_pos c1]; intro z hz; show F z ||| B z = G z ||| C z; rw [h z hz, hB (Or.inl c1) z hz]
  rw [if_neg c1, if_neg c1]
  by_cases c2 : kd = nI 99
  · rw [if_pos c2, if_pos c2]; intro z hz; show F z &&& (B z ^^^ -1) = G z &&& (C z ^^^ -1); rw [h z hz, hB (Or.inr (Or.inl c2)) z hz]
  rw [if_neg c2, if_neg c2]
  by_cases c3 : kd = nI 105
  · rw [if_pos c3, if_pos c3]; intro z hz; show F z &&& B z = G z &&& C z; rw [h z hz, hB (Or.inr (Or.inr c3)) z hz]
  rw [if_neg c3, if_neg c3]
  by_cases c4 : kd = nI 109
  · rw [if_pos c4, if_pos c4]; exact e8_mrK h h _ _ 512
  rw [if_neg c4, if_neg c4]
  by_cases c5 : kd = nI 112
  · rw [if_pos c5, if_pos c5]; exact e8_rpK h h _ _ _ _ 7
  rw [if_neg c5, if_neg c5]
  by_cases c6 : kd = nI 104
  · rw [if_pos c6, if_pos c6]; intro z hz; show F z &&& (inr F z 6 ^^^ -1) = G z &&& (inr G z 6 ^^^ -1); rw [h z hz, e8_inr h hz]
  rw [if_neg c6, if_neg c6]
  have c7 : kd = nI 101 := by
    rcases hs with q | q | q | q | q | q | q
    · exact absurd q c1
    · exact absurd q c2
    · exact absurd q c3
    · exact absurd q c4
    · exact absurd q c5
    · exact absurd q c6
    · exact q
  exact e8_rpK (hH c7) h _ _ _ _ 7
theorem e8_nmq {F G F0 G0 K J : Nat → Int64} (h : e8 F G) (h0 : e8 F0 G0) (hk : eK K J) (g : Nat) : eK (nmq F F0 K g) (nmq G G0 J g) := by
  intro i hi
  unfold nmq
  rw [hk i hi, e8_sqa h (show i % 8 < 8 by omega), e8_sqa h0 (show i % 8 < 8 by omega)]
/-- one step: what is made is the same -/
theorem coR_u {a b : Nat → Int32} {kd : Int32} {F0 K0 G0 J0 F K G J : Nat → Int64} {g : Nat} (hs : seven kd) (hw : ∀ w, w < 6 → a w = b w) (h0 : e8 F0 G0) (k0 : eK K0 J0) (hc : coR a kd F0 K0 g F K) (hd : coR b kd G0 J0 g G J) : e8 F G ∧ eK K J := by
  have hft : ftX kd a F0 K0 = ftX kd b G0 J0 := e8_ftX hw h0 k0
  by_cases c : ftX kd a F0 K0 = nI 45
  · obtain ⟨B, H, b1, b2, rfl, rfl⟩ := hc.1 c
    obtain ⟨C, I, d1, d2, rfl, rfl⟩ := hd.1 (hft ▸ c)
    have hE : e8 (reF kd a B F0 F0 H) (reF kd b C G0 G0 I) := e8_reF hw hs (fun q => e8_box hw (b1 q) (d1 q)) h0 (fun q => by
      obtain ⟨s, h1, h2⟩ := un_e (ft_un c) q
      rw [b2 q, d2 q, ← hw 0 (by decide), ← hw 1 (by decide), h2]
      exact e8_chA h0 k0 _ h1)
    exact ⟨hE, e8_nmq hE h0 k0 g⟩
  · obtain ⟨rfl, rfl⟩ := hc.2 c
    obtain ⟨rfl, rfl⟩ := hd.2 (fun q => c (hft.trans q))
    exact ⟨h0, k0⟩
/-- bodies from nothing are the stages -/
theorem SR_u {M : Mm} {fr : Nat → Nat} {F K : Nat → Nat → Int64} {fl : Nat → Int32} {n : Nat} (h0 : ∀ z, z < 8 → F 0 z = 0) (k0 : ∀ i, i < 288 → K 0 i = 0) (hs : ∀ k, k < n → seven (mI M 25 (fr k))) (hcl : ∀ k, k < n → stR M (fr k) (F k) (K k) (F (k + 1)) (K (k + 1)) (fl k)) :
    ∀ k, k ≤ n → ∀ G J, SR M fr k G J → e8 (F k) G ∧ eK (K k) J := by
  intro k
  induction k with
  | zero => intro _ G J h; exact ⟨fun z hz => (h0 z hz).trans (h.1 z hz).symm, fun i hi => (k0 i hi).trans (h.2 i hi).symm⟩
  | succ k ih =>
    intro hk G J h
    obtain ⟨G0, J0, flt, h1, h2⟩ := h
    obtain ⟨r1, r2⟩ := ih (by omega) G0 J0 h1
    have hc := hcl k hk
    by_cases e : mI M 27 (fr k) = 0
    · obtain ⟨a, a1, a2, -⟩ := hc.1 e
      obtain ⟨b, b1, b2, -⟩ := h2.1 e
      exact coR_u (hs k hk) (fun w hw => by rw [a1 w hw, b1 w hw]) r1 r2 a2 b2
    · obtain ⟨c1, c2⟩ := hc.2 e
      obtain ⟨d1, d2⟩ := h2.2 e
      rw [c1, c2, d1, d2]; exact ⟨r1, r2⟩
/-- names of squares: the numbers of features -/
theorem mkn_new {F F0 K0 K : Nat → Int64} {g : Nat} (hg : g < 40) (hK : ∀ i, i < 288 → K i = nmq F F0 K0 g i) {n s : Nat} (hn : n < 512) (hs : s < 6) (hq : sqB (cb F) n s = true) : mkn K s (n % 8) (po n) 6 = if sqB (cb F0) n s = true then mkn K0 s (n % 8) (po n) 6 else g := by
  have e : ∀ j, j < 6 → bw (K ((s * 6 + j) * 8 + n % 8)) (po n) = if sqB (cb F0) n s = true then bw (K0 ((s * 6 + j) * 8 + n % 8)) (po n) else g.testBit j := fun j hj => by
    rw [hK _ (by omega)]
    unfold nmq
    rw [show ((s * 6 + j) * 8 + n % 8) / 48 = s by omega, show ((s * 6 + j) * 8 + n % 8) % 8 = n % 8 by omega, show ((s * 6 + j) * 8 + n % 8) / 8 % 6 = j by omega, bw_or, bw_and, bw_and, cb_sqa F0 hn hs, cb_sqa F hn hs, hq, Bool.and_true]
    cases e0 : sqB (cb F0) n s with
    | true =>
      rw [if_pos rfl, Bool.and_true]
      by_cases t : g.testBit j = true
      · rw [if_pos t, bw_and, bw_not _ (po_lt hn), cb_sqa F0 hn hs, e0, Bool.not_true, Bool.and_false, Bool.or_false]
      · rw [if_neg t, bw_0, Bool.or_false]
    | false =>
      rw [show (if false = true then bw (K0 ((s * 6 + j) * 8 + n % 8)) (po n) else g.testBit j) = g.testBit j from rfl, Bool.and_false, Bool.false_or]
      by_cases t : g.testBit j = true
      · rw [if_pos t, bw_and, bw_not _ (po_lt hn), cb_sqa F0 hn hs, cb_sqa F hn hs, e0, hq, t]; rfl
      · rw [if_neg t, bw_0, Bool.eq_false_iff.mpr t]
  have hlt : (if sqB (cb F0) n s = true then mkn K0 s (n % 8) (po n) 6 else g) < 64 := by
    split
    · exact mkn_lt K0 s (n % 8) (po n) 6
    · omega
  refine (mkn_eq hlt).mpr fun j hj => ?_
  rw [e j hj]
  by_cases q : sqB (cb F0) n s = true
  · rw [if_pos q, if_pos q]; exact (mkn_bit K0 s (n % 8) (po n) 6 j hj).symm
  · rw [if_neg q, if_neg q]
theorem mkn_st {M : Mm} {fr : Nat → Nat} {F K : Nat → Nat → Int64} {fl : Nat → Int32} {n g : Nat} (hg : g ≤ 40) (hf : ∀ k, k < n → fr k < g) (h0 : ∀ z, z < 8 → F 0 z = 0) (hcl : ∀ k, k < n → stR M (fr k) (F k) (K k) (F (k + 1)) (K (k + 1)) (fl k)) :
    ∀ k, k ≤ n → ∀ m, m < 512 → ∀ s, s < 6 → sqB (cb (F k)) m s = true → mkn (K k) s (m % 8) (po m) 6 < g := by
  intro k
  induction k with
  | zero =>
    intro _ m hm s hs hq
    unfold sqB cb at hq
    rw [h0 (m % 8) (by omega), bw_0, Bool.false_and] at hq
    exact absurd hq (by decide)
  | succ k ih =>
    intro hk m hm s hs hq
    have hc := hcl k hk
    have h1 := hf k hk
    by_cases e : mI M 27 (fr k) = 0
    · obtain ⟨a, -, a2, -⟩ := hc.1 e
      by_cases c : ftX (mI M 25 (fr k)) a (F k) (K k) = nI 45
      · obtain ⟨B, H, -, -, -, e4⟩ := a2.1 c
        rw [mkn_new (show fr k < 40 by omega) (fun i _ => by rw [e4]) hm hs hq]
        by_cases q : sqB (cb (F k)) m s = true
        · rw [if_pos q]; exact ih (by omega) m hm s hs q
        · rw [if_neg q]; exact h1
      · obtain ⟨e1, e2⟩ := a2.2 c
        rw [e1] at hq
        rw [e2]; exact ih (by omega) m hm s hs hq
    · obtain ⟨c1, c2⟩ := hc.2 e
      rw [c1] at hq
      rw [c2]; exact ih (by omega) m hm s hs hq
