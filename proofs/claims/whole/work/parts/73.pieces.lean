/-! pieces: the class's flood and the model's count are the same -/
theorem cN_ct (f : Nat → Bool) (n : Nat) : cN f n = fb_ct f n := by
  induction n with
  | zero => exact cN_0 f
  | succ n ih => rw [cN_s, fb_ct_succ, ih]
theorem lob_bit {w : Int64} (h : w ≠ 0) : ∃ k, k < 64 ∧ bw w k = true ∧ ∀ j, j < 64 → bw (lob w) j = decide (j = k) := by
  have h1 : ∃ k, k < 64 ∧ bw w k = true := Classical.byContradiction fun q => h (bw_ext fun k hk => by
    rw [bw_0]
    cases e : bw w k
    · rfl
    · exact absurd ⟨k, hk, e⟩ q)
  obtain ⟨k, hk, hb, hm⟩ := fb_first h1
  refine ⟨k, hk, hb, fun j hj => ?_⟩
  unfold lob
  rw [bw_and]
  have e : bw (-w) j = (bw w j ^^ decide (∃ i, i < j ∧ bw w i = true)) := by
    unfold bw
    rw [Int64.toBitVec_neg, BitVec.getLsbD_neg, decide_eq_true hj, Bool.true_and]
  rw [e]
  by_cases q : j = k
  · subst q
    rw [hb, decide_eq_false (fun z => z.elim fun i z => hm i z.1 z.2), decide_eq_true rfl]; rfl
  · rw [decide_eq_false q]
    by_cases g : bw w j = true
    · rw [g, decide_eq_true ⟨k, by
        rcases Nat.lt_trichotomy j k with z | z | z
        · exact absurd g (hm j z)
        · exact absurd z q
        · exact z, hb⟩]; rfl
    · rw [Bool.eq_false_iff.mpr g]; rfl
theorem updL_at (f : Nat → Int64) (i : Nat) (v : Int64) (j : Nat) : vp_updL f i v j = if j = i then v else f j := rfl
theorem updL_id (f : Nat → Int64) (i : Nat) : vp_updL f i (f i) = f := by
  funext j
  rw [updL_at]
  split
  · rename_i h; rw [h]
  · rfl
theorem bw_nbr (f : Nat → Int64) {n : Nat} (hn : n < 512) (k : Nat) (hk : k ≤ 6) : bw (nbr f (n % 8) k) (po n) = true ↔ cb f n = true ∨ ∃ s, s < k ∧ (nbN n s).elim false (cb f) = true := by
  induction k with
  | zero =>
    show bw (f (n % 8)) (po n) = true ↔ _
    exact ⟨Or.inl, fun h => h.elim id fun ⟨s, hs, _⟩ => absurd hs (by omega)⟩
  | succ k ih =>
    show bw (nbr f (n % 8) k ||| bsd f k (n % 8)) (po n) = true ↔ _
    rw [bw_or, Bool.or_eq_true, ih (by omega), cb_bsd f hn (by omega)]
    constructor
    · rintro ((h | ⟨s, hs, h⟩) | h)
      · exact Or.inl h
      · exact Or.inr ⟨s, by omega, h⟩
      · exact Or.inr ⟨k, by omega, h⟩
    · rintro (h | ⟨s, hs, h⟩)
      · exact Or.inl (Or.inl h)
      · by_cases e : s = k
        · subst e; exact Or.inr h
        · exact Or.inl (Or.inr ⟨s, by omega, h⟩)
theorem gwr_s (f b : Nat → Int64) (i : Nat) : gwr f b (i + 1) = vp_updL (gwr f b i) i (nbr (gwr f b i) i 6 &&& b i) := by rw [gwr]
theorem gwf_s (f b : Nat → Int64) (i : Nat) : gwf f b (i + 1) = (gwf f b i || decide (nbr (gwr f b i) i 6 &&& b i ≠ gwr f b i i)) := by rw [gwf]
/-- a cell of the row being grown -/
theorem cb_gw (f b : Nat → Int64) {i n : Nat} (hn : n < 512) : cb (gwr f b (i + 1)) n = if n % 8 = i then (bw (nbr (gwr f b i) (n % 8) 6) (po n) && cb b n) else cb (gwr f b i) n := by
  unfold cb
  rw [gwr_s, updL_at]
  by_cases h : n % 8 = i
  · rw [if_pos h, if_pos h, ← h, bw_and]
  · rw [if_neg h, if_neg h]
/-- what is grown out of c in b, below -/
def gI (b : Nat → Int64) (c : Nat) (P : Nat → Int64) : Prop := (∀ n, n < 512 → cb P n = true → cb b n = true ∧ cn (fun m => cb b m = true) c n)
theorem gI_step {b : Nat → Int64} {c : Nat} {P : Nat → Int64} (h : gI b c P) : ∀ i, gI b c (gwr P b i) ∧ ∀ n, n < 512 → cb P n = true → cb (gwr P b i) n = true := by
  intro i
  induction i with
  | zero => exact ⟨h, fun _ _ q => q⟩
  | succ i ih =>
    obtain ⟨h1, h2⟩ := ih
    refine ⟨fun n hn q => ?_, fun n hn q => ?_⟩
    · rw [cb_gw P b hn] at q
      by_cases e : n % 8 = i
      · rw [if_pos e, Bool.and_eq_true, bw_nbr _ hn 6 (by decide)] at q
        obtain ⟨q | ⟨s, hs, q⟩, qb⟩ := q
        · exact h1 n hn q
        · cases g : nbN n s with
          | none => rw [g] at q; exact absurd (show false = true from q) (by decide)
          | some m =>
            rw [g] at q
            have hm := nbN_lt hn g
            obtain ⟨o1, o2⟩ := nbN_opp hn hs g
            exact ⟨qb, cn_st (h1 m hm q).2 hm ((nbX_i hm).mpr ⟨_, o1, o2⟩) qb⟩
      · rw [if_neg e] at q
        exact h1 n hn q
    · rw [cb_gw P b hn]
      have h3 := h2 n hn q
      by_cases e : n % 8 = i
      · rw [if_pos e, Bool.and_eq_true, bw_nbr _ hn 6 (by decide)]
        exact ⟨Or.inl h3, (h n hn q).1⟩
      · rw [if_neg e]; exact h3
theorem gwf_false {P b : Nat → Int64} : ∀ i, gwf P b i = false → gwr P b i = P ∧ ∀ z, z < i → nbr P z 6 &&& b z = P z := by
  intro i
  induction i with
  | zero => intro _; exact ⟨rfl, fun z hz => absurd hz (by omega)⟩
  | succ i ih =>
    intro h
    rw [gwf_s, Bool.or_eq_false_iff] at h
    obtain ⟨e, e2⟩ := ih h.1
    have h3 : nbr (gwr P b i) i 6 &&& b i = gwr P b i i := Classical.byContradiction fun q => absurd h.2 (by rw [decide_eq_true q]; decide)
    refine ⟨?_, fun z hz => ?_⟩
    · rw [gwr_s, h3, updL_id, e]
    · by_cases q : z = i
      · subst q; rw [e] at h3; exact h3
      · exact e2 z (by omega)
theorem gwf_true {P b : Nat → Int64} : ∀ i, i ≤ 8 → (∀ n, n < 512 → cb (gwr P b i) n = true → cb P n = true) → (∀ j n, j ≤ i → n < 512 → cb P n = true → cb (gwr P b j) n = true) → (∀ j n, j ≤ i → n < 512 → cb (gwr P b j) n = true → cb (gwr P b i) n = true) → gwf P b i = false := by
  intro i hi h1 h2 h3
  have key : ∀ j, j ≤ i → ∀ z, z < 8 → gwr P b j z = P z := fun j hj => cb_ext fun n hn => by
    cases e : cb P n with
    | true => exact h2 j n hj hn e
    | false =>
      refine Bool.eq_false_iff.mpr fun g => ?_
      rw [h1 n hn (h3 j n hj hn g)] at e
      exact absurd e (by decide)
  have : ∀ j, j ≤ i → gwf P b j = false := by
    intro j
    induction j with
    | zero => intro _; rfl
    | succ j ih =>
      intro hj
      rw [gwf_s, ih (by omega), Bool.false_or]
      refine decide_eq_false fun q => q ?_
      have e1 := key (j + 1) hj j (by omega)
      rw [gwr_s, updL_at, if_pos rfl] at e1
      rw [e1, key j (by omega) j (by omega)]
  exact this i (Nat.le_refl i)
theorem gw_mono {b : Nat → Int64} {c : Nat} {P : Nat → Int64} (h : gI b c P) : ∀ d i, ∀ n, n < 512 → cb (gwr P b i) n = true → cb (gwr P b (i + d)) n = true := by
  intro d
  induction d with
  | zero => exact fun i n _ q => q
  | succ d ih =>
    intro i n hn q
    have q2 := ih i n hn q
    rw [show i + (d + 1) = i + d + 1 by omega, cb_gw P b hn]
    by_cases e : n % 8 = i + d
    · rw [if_pos e, Bool.and_eq_true, bw_nbr _ hn 6 (by decide)]
      exact ⟨Or.inl q2, ((gI_step h (i + d)).1 n hn q2).1⟩
    · rw [if_neg e]; exact q2
theorem grow_ok {b : Nat → Int64} {c : Nat} (hc : c < 512) (hb : cb b c = true) : ∀ (n : Nat) (P : Nat → Int64), gI b c P → cb P c = true → 512 - fb_ct (cb P) 512 < n → ∀ m, m < 512 → (cb (grw b n P) m = true ↔ cn (fun q => cb b q = true) c m) := by
  intro n
  induction n with
  | zero => intro P _ _ h; exact absurd h (by omega)
  | succ n ih =>
    intro P hP hs hn m hm
    rw [grw_s]
    cases e : gwf P b 8 with
    | true =>
      rw [if_pos rfl]
      have st := gI_step hP 8
      have hlt : fb_ct (cb P) 512 < fb_ct (cb (gwr P b 8)) 512 := by
        have hex : ∃ k, k < 512 ∧ cb (gwr P b 8) k = true ∧ ¬ cb P k = true := Classical.byContradiction fun q => by
          have := gwf_true 8 (Nat.le_refl 8) (fun k hk g => Classical.byContradiction fun z => q ⟨k, hk, g, z⟩) (fun j k _ hk g => (gI_step hP j).2 k hk g) (fun j k hj hk g => by have := gw_mono hP (8 - j) j k hk g; rwa [show j + (8 - j) = 8 by omega] at this)
          rw [e] at this; exact absurd this (by decide)
        obtain ⟨k, hk, g1, g2⟩ := hex
        rw [← cN_ct, ← cN_ct]
        exact cN_lt (fun j hj g => st.2 j hj g) hk g2 g1
      have hle := fb_ct_le (cb (gwr P b 8)) 512
      exact ih _ st.1 (st.2 c hc hs) (by omega) m hm
    | false =>
      rw [if_neg (by decide)]
      obtain ⟨e1, e2⟩ := gwf_false 8 e
      rw [e1]
      refine ⟨fun g => (hP m hm g).2, fun g => g (fun q => cb P q = true) hs fun x y hx q hn2 hy => ?_⟩
      obtain ⟨s, hs6, hxy⟩ := (nbX_i hx).mp hn2
      have hy5 := nbN_lt hx hxy
      obtain ⟨o1, o2⟩ := nbN_opp hx hs6 hxy
      have h3 := e2 (y % 8) (by omega)
      show bw (P (y % 8)) (po y) = true
      rw [← h3, bw_and, Bool.and_eq_true, bw_nbr _ hy5 6 (by decide)]
      exact ⟨Or.inr ⟨_, o1, by rw [o2]; exact q⟩, hy⟩
theorem ct_one {f g : Nat → Bool} {m : Nat} : ∀ {n : Nat}, m < n → (∀ j, j < n → ¬ j = m → f j = g j) → f m = true → g m = false → fb_ct f n = fb_ct g n + 1 := by
  intro n
  induction n with
  | zero => intro h; omega
  | succ n ih =>
    intro hm h h1 h2
    rw [fb_ct_succ, fb_ct_succ]
    by_cases e : m = n
    · subst e
      rw [h1, h2, fb_ct_cong (fun j hj => h j (by omega) (by omega))]; simp
    · rw [ih (by omega) (fun j hj => h j (by omega)) h1 h2, h n (by omega) (fun q => e q.symm)]; omega
/-- a piece less -/
theorem npc_rm {S S' : Nat → Prop} {c : Nat} (hc : c < 512) (hS : S c) (h : ∀ j, j < 512 → (S' j ↔ S j ∧ ¬ cn S c j)) : npc S = npc S' + 1 := by
  have hin : ∀ j, cn S c j → j < 512 ∧ S j := fun j g => ⟨cn_lt hc g, cn_in hS g⟩
  obtain ⟨m, hm, hm1, hm2⟩ := @fb_first (fun j => cn S c j) (fun _ => Classical.propDecidable _) 512 ⟨c, hc, cn_rf S c⟩
  -- connected outside of the piece
  have hcn : ∀ d j, d < 512 → S d → ¬ cn S c d → cn S d j → cn S' d j := fun d j hd hSd hnd g => (g (fun x => x < 512 ∧ S x ∧ ¬ cn S c x ∧ cn S' d x) ⟨hd, hSd, hnd, cn_rf S' d⟩ fun x y hx q hn hy => by
    have hy5 : y < 512 := hn.elim fun _ z => z.2.1
    have hny : ¬ cn S c y := fun z => q.2.2.1 (cn_tr z (cn_st (cn_rf S y) hy5 (nbX_sy hx hn) q.2.1))
    exact ⟨hy5, hy, hny, cn_st q.2.2.2 hx hn ((h y hy5).mpr ⟨hy, hny⟩)⟩).2.2.2
  unfold npc
  rw [cN_ct, cN_ct]
  refine ct_one (m := m) hm (fun j hj hjm => ?_) ?_ ?_
  · by_cases q : cn S c j
    · rw [rep_f (S := S') (fun z => ((h j hj).mp z.1).2 q), rep_f]
      rintro ⟨z1, z2⟩
      rcases Nat.lt_trichotomy j m with g | g | g
      · exact hm2 j g q
      · exact hjm g
      · exact z2 m g (hin m hm1).2 (cn_tr (cn_sy hc hS hm1) q)
    · by_cases z : S j ∧ ∀ d, d < j → S d → ¬ cn S d j
      · rw [rep_t z, rep_t ⟨(h j hj).mpr ⟨z.1, q⟩, fun d hd hd2 g => z.2 d hd ((h d (by omega)).mp hd2).1 (cn_mo (fun x hx g => ((h x hx).mp g).1) g)⟩]
      · rw [rep_f z, rep_f fun g => z ⟨((h j hj).mp g.1).1, fun d hd hd2 g2 => ?_⟩]
        have hnd : ¬ cn S c d := fun z => q (cn_tr z g2)
        exact g.2 d hd ((h d (by omega)).mpr ⟨hd2, hnd⟩) (hcn d j (by omega) hd2 hnd g2)
  · exact rep_t ⟨(hin m hm1).2, fun d hd hSd g => hm2 d hd (cn_tr hm1 (cn_sy (by omega) hSd g))⟩
  · exact rep_f fun z => ((h m hm).mp z.1).2 hm1
theorem sdz_none {R : Nat → Int64} (h : sdz R = none) : ∀ n, n < 512 → cb R n = false := by
  intro n hn
  unfold sdz at h
  have h1 := List.find?_eq_none.mp h (n % 8) (List.mem_range.mpr (by omega))
  have h2 : R (n % 8) = 0 := Classical.byContradiction fun q => h1 (decide_eq_true q)
  unfold cb
  rw [h2]; exact bw_0 _
theorem pcN_ok : ∀ (m : Nat) (R : Nat → Int64), fb_ct (cb R) 512 ≤ m → pcN 512 m R = npc (fun n => cb R n = true) := by
  intro m
  induction m with
  | zero =>
    intro R h
    rw [pcN_0, npc_z]
    intro j hj q
    have := fb_ct_zero.mp (Nat.le_zero.mp h) j hj
    rw [this] at q; exact absurd q (by decide)
  | succ m ih =>
    intro R h
    cases e : sdz R with
    | none =>
      rw [pcN_n e, npc_z]
      intro j hj q
      rw [sdz_none e j hj] at q; exact absurd q (by decide)
    | some z =>
      rw [pcN_s e]
      unfold sdz at e
      have hz := List.mem_range.mp (List.mem_of_find?_eq_some e)
      have hz2 : R z ≠ 0 := by have e3 := List.find?_some e; exact of_decide_eq_true e3
      obtain ⟨k, hk, hk1, hk2⟩ := lob_bit hz2
      have hc := ix_lt hz hk
      have hcb : cb R (ix z k) = true := by rw [cb_ix R hz hk]; exact hk1
      have hseed : ∀ n, n < 512 → cb (sdP R z) n = decide (n = ix z k) := fun n hn => by
        unfold cb sdP
        by_cases q : n % 8 = z
        · rw [if_pos q, hk2 _ (po_lt hn)]
          refine decide_eq_decide.mpr ⟨fun g => ?_, fun g => by rw [g, ix_p hz hk]⟩
          rw [← ix_cb hn, q, g]
        · rw [if_neg q, bw_0]
          exact (decide_eq_false fun g => q (by rw [g, ix_m hz hk])).symm
      have hgI : gI R (ix z k) (sdP R z) := fun n hn q => by
        rw [hseed n hn] at q
        rw [of_decide_eq_true q]
        exact ⟨hcb, cn_rf _ _⟩
      have hs : cb (sdP R z) (ix z k) = true := by rw [hseed _ hc]; exact decide_eq_true rfl
      have h1 : 1 ≤ fb_ct (cb (sdP R z)) 512 := fb_ct_pos.mpr ⟨_, hc, hs⟩
      have G := grow_ok hc hcb 512 (sdP R z) hgI hs (by omega)
      have hR : ∀ n, n < 512 → (cb (fun y => R y &&& (grw R 512 (sdP R z) y ^^^ -1)) n = true ↔ cb R n = true ∧ ¬ cn (fun q => cb R q = true) (ix z k) n) := fun n hn => by
        rw [← G n hn]
        show bw (R (n % 8) &&& (grw R 512 (sdP R z) (n % 8) ^^^ -1)) (po n) = true ↔ _
        rw [bw_and, bw_not _ (po_lt hn), Bool.and_eq_true]
        refine and_congr Iff.rfl ?_
        show (!cb (grw R 512 (sdP R z)) n) = true ↔ _
        cases cb (grw R 512 (sdP R z)) n <;> decide
      rw [npc_rm (S' := fun n => cb (fun y => R y &&& (grw R 512 (sdP R z) y ^^^ -1)) n = true) hc hcb hR, ih]
      have hlt : fb_ct (cb (fun y => R y &&& (grw R 512 (sdP R z) y ^^^ -1))) 512 < fb_ct (cb R) 512 := by
        rw [← cN_ct, ← cN_ct]
        exact cN_lt (fun j hj q => ((hR j hj).mp q).1) hc (fun q => ((hR _ hc).mp q).2 (cn_rf _ _)) hcb
      omega
theorem pcX_npc (R : Nat → Int64) : pcX R = npc (fun n => cb R n = true) := pcN_ok 512 R (fb_ct_le _ _)
