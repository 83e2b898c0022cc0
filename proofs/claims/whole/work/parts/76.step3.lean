/-! the step, third: names and faults; the step -/
theorem npc_le (S : Nat → Prop) : npc S ≤ 512 := cN_b _ 512
theorem RB_isq {M : Mm} {F : Nat → Int64} (h : ∀ n, n < 512 → cb F n = rb (mI M 54) n) {n s : Nat} (hn : n < 512) (hs : s < 6) : isqX M n s = sqB (cb F) n s := by
  rw [isq_B hn hs, sqB_ex (fun k hk => (h k hk).symm) hn]
theorem mkX_eq {M : Mm} {f : Nat} {F0 K0 : Nat → Int64} (h : RB F0 K0 (mI M 54) (mI M 56)) {s : Nat} (hs : s < 6) {c : Nat} (hc : c < 512) : cb (chA F0 K0 (dmX M f 0) (nI s)) c = mkX M f s c := by
  show bw (chA F0 K0 (dmX M f 0) (nI s) (c % 8)) (po c) = _
  rw [ch_set h _ hc hs]
  unfold mkX
  rw [RB_isq h.2.1 hc hs]
theorem flt_eq {M M1 : Mm} {f : Nat} {w : Int32} {F0 K0 : Nat → Int64} (h : RB F0 K0 (mI M 54) (mI M 56)) (hf : fauP M f w M1) : w = ftX (mI M 45 f) (dmX M f) F0 K0 := by
  unfold ftX
  rcases hf with ⟨h1, h2⟩ | ⟨h1, h2, h3⟩ | ⟨h1, h2, s, hs, h3, -, h5⟩
  · rw [if_pos h1]; exact h2
  · rw [if_neg (by rw [h1]; decide), if_neg h2]; exact h3
  · rw [if_neg (by rw [h1]; decide), if_pos h2, h3, pcX_npc, npc_ex (S := fun n => cb (chA F0 K0 (dmX M f 0) (nI s)) n = true) (S' := fun j => mkX M f s j = true) fun x hx => by rw [mkX_eq h hs hx], h5]
    have hl := npc_le (fun j => mkX M f s j = true)
    generalize npc (fun j => mkX M f s j = true) = p at *
    unfold flE
    by_cases e0 : p = 0
    · rw [if_pos e0, e0, if_pos (by decide)]
    · rw [if_neg e0, if_neg (nI_ne0 (by omega) (by omega))]
      by_cases e1 : p = 1
      · rw [if_pos e1, e1, if_pos rfl]
      · rw [if_neg e1, if_neg fun q => e1 ((nI_eq (by omega) (by decide)).mp q)]
theorem mkn_new {F F0 K0 K : Nat → Int64} {g : Nat} (hg : g < 40) (hK : ∀ i, i < 288 → K i = nmq F F0 K0 g i) {n s : Nat} (hn : n < 512) (hs : s < 6) (hq : sqB (cb F) n s = true) : mkn K s (n % 8) (po n) 6 = if sqB (cb F0) n s = true then mkn K0 s (n % 8) (po n) 6 else g := by
  have e : ∀ j, j < 6 → bw (K ((s * 6 + j) * 8 + n % 8)) (po n) = if sqB (cb F0) n s = true then bw (K0 ((s * 6 + j) * 8 + n % 8)) (po n) else g.testBit j := fun j hj => by
    rw [hK _ (by omega)]
    unfold nmq
    rw [show ((s * 6 + j) * 8 + n % 8) / 48 = s by omega, show ((s * 6 + j) * 8 + n % 8) % 8 = n % 8 by omega, show ((s * 6 + j) * 8 + n % 8) / 8 % 6 = j by omega, bw_or, bw_and, bw_and, cb_sqa F0 hn hs, cb_sqa F hn hs, hq, Bool.and_true]
    cases e0 : sqB (cb F0) n s with
    | true =>
      rw [if_pos rfl, Bool.and_true]
      by_cases t : g.testBit j = true
      · rw [if_pos t, bw_and, bw_not _ (po_lt hn), cb_sqa F0 hn hs, e0, Bool.not_true, Bool.and_false, Bool.or_false]
      · rw [if_neg t, bw_0, Bool.or_false]
    | false =>
      rw [show (if false = true then bw (K0 ((s * 6 + j) * 8 + n % 8)) (po n) else g.testBit j) = g.testBit j from rfl, Bool.and_false, Bool.false_or]
      by_cases t : g.testBit j = true
      · rw [if_pos t, bw_and, bw_not _ (po_lt hn), cb_sqa F0 hn hs, cb_sqa F hn hs, e0, hq, t]; rfl
      · rw [if_neg t, bw_0, Bool.eq_false_iff.mpr t]
  have hlt : (if sqB (cb F0) n s = true then mkn K0 s (n % 8) (po n) 6 else g) < 64 := by
    split
    · exact mkn_lt K0 s (n % 8) (po n) 6
    · omega
  refine (mkn_eq hlt).mpr fun j hj => ?_
  rw [e j hj]
  by_cases q : sqB (cb F0) n s = true
  · rw [if_pos q, if_pos q]; exact (mkn_bit K0 s (n % 8) (po n) 6 j hj).symm
  · rw [if_neg q, if_neg q]
/-- what the step needs to know of the model's feature -/
abbrev ftK (M : Mm) (f : Nat) : Prop := seven (mI M 45 f) ∧ ∀ w, w < 6 → b99 (dmX M f w)
theorem dm_same {M M' : Mm} (h43 : mI M' 43 = mI M 43) (h46 : mI M' 46 = mI M 46) (f : Nat) : dmX M' f = dmX M f := by unfold dmX; rw [h43, h46]
/-- the step -/
theorem step_eq {M M1 : Mm} {f : Nat} {F0 K0 F K : Nat → Int64} (hf : f < 40) (hk : ftK M f) (h : RB F0 K0 (mI M 54) (mI M 56)) (hc : coR (dmX M f) (mI M 45 f) F0 K0 f F K) (hm : carP M f M1) : RB F K (mI M1 54) (mI M1 56) ∧ mI M1 49 = upd (mI M 49) f (ftX (mI M 45 f) (dmX M f) F0 K0) := by
  obtain ⟨-, w, Mb, ⟨hb1, hb2⟩, hfa, h49, hor⟩ := hm
  have hw := flt_eq h hfa
  rw [← hw]
  refine ⟨?_, h49⟩
  rcases hor with ⟨h1, h2, h3⟩ | ⟨h1, ⟨r, hr, h54⟩, hz, h56⟩
  · obtain ⟨e1, e2⟩ := hc.2 (by rw [← hw]; exact h1)
    rw [e1, e2, h2, h3]; exact h
  · obtain ⟨B, H, k1, k2, k3, k4⟩ := hc.1 (by rw [← hw]; exact h1)
    have e45 : mI Mb 45 = mI M 45 := hb2 45 (by omega)
    have e54 : mI Mb 54 = mI M 54 := hb2 54 (by omega)
    have ed : dmX Mb f = dmX M f := dm_same (hb2 43 (by omega)) (hb2 46 (by omega)) f
    have hu : unX (mI M 45 f) (dmX M f) = false := by
      cases g : unX (mI M 45 f) (dmX M f) with
      | false => rfl
      | true =>
        exfalso
        have := hw
        unfold ftX at this
        rw [if_pos g, h1] at this
        exact absurd this (by decide)
    have hbod : ∀ n, n < 512 → cb F n = rb (mI M1 54) n := fun n hn => by
      have q : cb F n = true ↔ ¬ mI M1 54 n = 0 := by
        rw [h54 n hn, k3, ← e45, ← ed]
        refine body_eq (M := Mb) (by rw [e45]; exact hk.1) (by rw [ed]; exact hk.2) (by rw [e54]; exact h.2.1) (by rw [e45, ed]; exact hu) (by rw [e45, ed]; exact k1) (fun hkd c hcc => ?_) hr hn
        rw [e45] at hkd
        rcases hfa with ⟨h1', -⟩ | ⟨-, h2', -⟩ | ⟨-, -, s, hs, h3', h4', -⟩
        · rw [hu] at h1'; exact absurd h1' (by decide)
        · exact absurd hkd h2'
        · rw [k2 hkd, h3', h4' c hcc, mkX_eq h hs hcc, e54]
          refine ⟨bI_ne.symm, fun q => ?_⟩
          have q := bI_ne.mp q
          unfold mkX isqX at q
          exact of_decide_eq_true (Bool.and_eq_true_iff.mp (Bool.and_eq_true_iff.mp q).1).1
      unfold rb
      by_cases e : mI M1 54 n = 0
      · rw [decide_eq_false fun z => z e]
        exact Bool.eq_false_iff.mpr fun z => (q.mp z) e
      · rw [decide_eq_true e]; exact q.mpr e
    have hmk : ∀ n, n < 512 → ∀ s, s < 6 → sqB (cb F) n s = true → mkn K s (n % 8) (po n) 6 = if sqB (cb F0) n s = true then mkn K0 s (n % 8) (po n) 6 else f := fun n hn s hs hq => mkn_new hf (fun i _ => by rw [k4]) hn hs hq
    refine ⟨hz, hbod, fun n hn s hs => ?_, fun n hn s hs hq => ?_⟩
    · rw [h56 _ (by omega)]
      unfold nmV
      rw [show (6 * n + s) / 6 = n by omega, show (6 * n + s) % 6 = s by omega, RB_isq hbod hn hs]
      cases e : sqB (cb F) n s with
      | false => rw [if_neg (by decide), if_neg (by decide)]
      | true =>
        rw [if_pos rfl, if_pos rfl, hmk n hn s hs e, h.2.2.1 n hn s hs]
        cases e0 : sqB (cb F0) n s with
        | false => rfl
        | true => rw [if_pos rfl, if_neg (nI_nm1 (by have := h.2.2.2 n hn s hs e0; omega)), if_pos rfl]
    · rw [hmk n hn s hs hq]
      cases e0 : sqB (cb F0) n s with
      | false => rw [if_neg (by decide)]; exact hf
      | true => rw [if_pos rfl]; exact h.2.2.2 n hn s hs e0
