/-! the model: pieces -/
/-- the neighbour at a side, by numbers -/
def nbN (n s : Nat) : Option Nat :=
  if s = 0 then (if n / 64 = 0 then none else some (n - 64)) else if s = 1 then (if n / 64 = 7 then none else some (n + 64))
  else if s = 2 then (if n / 8 % 8 = 0 then none else some (n - 8)) else if s = 3 then (if n / 8 % 8 = 7 then none else some (n + 8))
  else if s = 4 then (if n % 8 = 0 then none else some (n - 1)) else (if n % 8 = 7 then none else some (n + 1))
theorem nbN_0 (n : Nat) : nbN n 0 = if n / 64 = 0 then none else some (n - 64) := rfl
theorem nbN_1 (n : Nat) : nbN n 1 = if n / 64 = 7 then none else some (n + 64) := rfl
theorem nbN_2 (n : Nat) : nbN n 2 = if n / 8 % 8 = 0 then none else some (n - 8) := rfl
theorem nbN_3 (n : Nat) : nbN n 3 = if n / 8 % 8 = 7 then none else some (n + 8) := rfl
theorem nbN_4 (n : Nat) : nbN n 4 = if n % 8 = 0 then none else some (n - 1) := rfl
theorem nbN_5 (n : Nat) : nbN n 5 = if n % 8 = 7 then none else some (n + 1) := rfl
theorem up7 : ∀ a, a < 8 → in7 (nI a + nI 1) = decide (a < 7) ∧ ntX (nI a + nI 1) = a + 1 := by decide +kernel
theorem dn7 : ∀ a, a < 8 → in7 (nI a + -(nI 1)) = decide (0 < a) ∧ (0 < a → ntX (nI a + -(nI 1)) = a - 1) := by decide +kernel
theorem id7 : ∀ a, a < 8 → in7 (nI a + nI 0) = true ∧ ntX (nI a + nI 0) = a := by decide +kernel
theorem nb_aw {n s : Nat} (hn : n < 512) (hs : s < 6) : awX n s (nI 1) = (nbN n s).elim (-1) nI := by
  have ha : alN n 0 < 8 := by unfold alN; rw [if_pos rfl]; omega
  have hb : alN n 1 < 8 := by unfold alN; rw [if_neg (by decide), if_pos rfl]; omega
  have hc : alN n 2 < 8 := by unfold alN; rw [if_neg (by decide), if_neg (by decide)]; omega
  have ea : alN n 0 = n / 64 := by unfold alN; rw [if_pos rfl]
  have eb : alN n 1 = n / 8 % 8 := by unfold alN; rw [if_neg (by decide), if_pos rfl]
  have ec : alN n 2 = n % 8 := by unfold alN; rw [if_neg (by decide), if_neg (by decide)]
  obtain ⟨a1, a2⟩ := up7 _ ha; obtain ⟨a3, a4⟩ := dn7 _ ha; obtain ⟨a5, a6⟩ := id7 _ ha
  obtain ⟨b1, b2⟩ := up7 _ hb; obtain ⟨b3, b4⟩ := dn7 _ hb; obtain ⟨b5, b6⟩ := id7 _ hb
  obtain ⟨c1, c2⟩ := up7 _ hc; obtain ⟨c3, c4⟩ := dn7 _ hc; obtain ⟨c5, c6⟩ := id7 _ hc
  have hs6 : s = 0 ∨ s = 1 ∨ s = 2 ∨ s = 3 ∨ s = 4 ∨ s = 5 := by omega
  rcases hs6 with rfl | rfl | rfl | rfl | rfl | rfl
  · have e : awX n 0 (nI 1) = clX (nI (alN n 0) + -(nI 1)) (nI (alN n 1) + nI 0) (nI (alN n 2) + nI 0) := rfl
    rw [e, nbN_0]; unfold clX
    rw [a3, b5, c5, b6, c6]
    by_cases q : n / 64 = 0
    · rw [if_neg (fun g => absurd (of_decide_eq_true g.1) (by omega)), if_pos q]; rfl
    · rw [if_pos ⟨decide_eq_true (by omega), rfl, rfl⟩, if_neg q, a4 (by omega)]
      show nI _ = nI _
      exact congrArg nI (by omega)
  · have e : awX n 1 (nI 1) = clX (nI (alN n 0) + nI 1) (nI (alN n 1) + nI 0) (nI (alN n 2) + nI 0) := rfl
    rw [e, nbN_1]; unfold clX
    rw [a1, b5, c5, a2, b6, c6]
    by_cases q : n / 64 = 7
    · rw [if_neg (fun g => absurd (of_decide_eq_true g.1) (by omega)), if_pos q]; rfl
    · rw [if_pos ⟨decide_eq_true (by omega), rfl, rfl⟩, if_neg q]
      show nI _ = nI _
      exact congrArg nI (by omega)
  · have e : awX n 2 (nI 1) = clX (nI (alN n 0) + nI 0) (nI (alN n 1) + -(nI 1)) (nI (alN n 2) + nI 0) := rfl
    rw [e, nbN_2]; unfold clX
    rw [a5, b3, c5, a6, c6]
    by_cases q : n / 8 % 8 = 0
    · rw [if_neg (fun g => absurd (of_decide_eq_true g.2.1) (by omega)), if_pos q]; rfl
    · rw [if_pos ⟨rfl, decide_eq_true (by omega), rfl⟩, if_neg q, b4 (by omega)]
      show nI _ = nI _
      exact congrArg nI (by omega)
  · have e : awX n 3 (nI 1) = clX (nI (alN n 0) + nI 0) (nI (alN n 1) + nI 1) (nI (alN n 2) + nI 0) := rfl
    rw [e, nbN_3]; unfold clX
    rw [a5, b1, c5, a6, b2, c6]
    by_cases q : n / 8 % 8 = 7
    · rw [if_neg (fun g => absurd (of_decide_eq_true g.2.1) (by omega)), if_pos q]; rfl
    · rw [if_pos ⟨rfl, decide_eq_true (by omega), rfl⟩, if_neg q]
      show nI _ = nI _
      exact congrArg nI (by omega)
  · have e : awX n 4 (nI 1) = clX (nI (alN n 0) + nI 0) (nI (alN n 1) + nI 0) (nI (alN n 2) + -(nI 1)) := rfl
    rw [e, nbN_4]; unfold clX
    rw [a5, b5, c3, a6, b6]
    by_cases q : n % 8 = 0
    · rw [if_neg (fun g => absurd (of_decide_eq_true g.2.2) (by omega)), if_pos q]; rfl
    · rw [if_pos ⟨rfl, rfl, decide_eq_true (by omega)⟩, if_neg q, c4 (by omega)]
      show nI _ = nI _
      exact congrArg nI (by omega)
  · have e : awX n 5 (nI 1) = clX (nI (alN n 0) + nI 0) (nI (alN n 1) + nI 0) (nI (alN n 2) + nI 1) := rfl
    rw [e, nbN_5]; unfold clX
    rw [a5, b5, c1, a6, b6, c2]
    by_cases q : n % 8 = 7
    · rw [if_neg (fun g => absurd (of_decide_eq_true g.2.2) (by omega)), if_pos q]; rfl
    · rw [if_pos ⟨rfl, rfl, decide_eq_true (by omega)⟩, if_neg q]
      show nI _ = nI _
      exact congrArg nI (by omega)
theorem nbN_lt {n s b : Nat} (hn : n < 512) (h : nbN n s = some b) : b < 512 := by
  unfold nbN at h
  repeat' split at h
  all_goals first | (cases h; omega) | cases h
def opp (s : Nat) : Nat := if s % 2 = 0 then s + 1 else s - 1
theorem nbN_opp {n s b : Nat} (hn : n < 512) (hs : s < 6) (h : nbN n s = some b) : opp s < 6 ∧ nbN b (opp s) = some n := by
  have hs6 : s = 0 ∨ s = 1 ∨ s = 2 ∨ s = 3 ∨ s = 4 ∨ s = 5 := by omega
  rcases hs6 with rfl | rfl | rfl | rfl | rfl | rfl <;> refine ⟨by decide, ?_⟩ <;> simp [nbN, opp] at h ⊢ <;> omega
theorem nbX_i {a b : Nat} (ha : a < 512) : nbX a b ↔ ∃ s, s < 6 ∧ nbN a s = some b := by
  constructor
  · rintro ⟨s, hs, hb, e⟩
    rw [nb_aw ha hs] at e
    refine ⟨s, hs, ?_⟩
    cases q : nbN a s with
    | none => rw [q] at e; exact absurd e.symm (nI_nm1 (by omega))
    | some c =>
      rw [q] at e
      have hc := nbN_lt ha q
      rw [(nI_eq (show c < 2 ^ 31 by omega) (show b < 2 ^ 31 by omega)).mp e]
  · rintro ⟨s, hs, e⟩
    exact ⟨s, hs, nbN_lt ha e, by rw [nb_aw ha hs, e]; rfl⟩
theorem nbX_sy {a b : Nat} (ha : a < 512) (h : nbX a b) : nbX b a := by
  obtain ⟨s, hs, e⟩ := (nbX_i ha).mp h
  obtain ⟨h1, h2⟩ := nbN_opp ha hs e
  exact (nbX_i (nbN_lt ha e)).mpr ⟨opp s, h1, h2⟩
theorem cn_tr {S : Nat → Prop} {a b c : Nat} (h : cn S a b) (g : cn S b c) : cn S a c := fun T h1 h2 => g T (h T h1 h2) h2
theorem cn_lt {S : Nat → Prop} {a b : Nat} (ha : a < 512) (h : cn S a b) : b < 512 := h (fun x => x < 512) ha fun _ _ _ _ h2 _ => h2.elim fun _ q => q.2.1
theorem cn_in {S : Nat → Prop} {a b : Nat} (ha : S a) (h : cn S a b) : S b := h S ha fun _ _ _ _ _ q => q
theorem cn_sy {S : Nat → Prop} {a b : Nat} (ha : a < 512) (hS : S a) (h : cn S a b) : cn S b a :=
  (h (fun x => x < 512 ∧ S x ∧ cn S x a) ⟨ha, hS, cn_rf S a⟩ fun x y hx q hn hy => ⟨hn.elim fun _ g => g.2.1, hy, cn_tr (cn_st (cn_rf S y) (hn.elim fun _ g => g.2.1) (nbX_sy hx hn) q.2.1) q.2.2⟩).2.2
theorem cn_mo {S N : Nat → Prop} {a b : Nat} (h : ∀ x, x < 512 → N x → S x) (g : cn N a b) : cn S a b := fun T h1 h2 => g T h1 fun x y hx q hn hy => h2 x y hx q hn (h y (hn.elim fun _ g => g.2.1) hy)
/-- the first cell of a piece; how many pieces -/
noncomputable def rep (S : Nat → Prop) (c : Nat) : Bool := @decide (S c ∧ ∀ d, d < c → S d → ¬ cn S d c) (Classical.propDecidable _)
noncomputable def npc (S : Nat → Prop) : Nat := cN (rep S) 512
theorem rep_t {S : Nat → Prop} {c : Nat} (h : S c ∧ ∀ d, d < c → S d → ¬ cn S d c) : rep S c = true := @decide_eq_true _ (Classical.propDecidable _) h
theorem rep_f {S : Nat → Prop} {c : Nat} (h : ¬ (S c ∧ ∀ d, d < c → S d → ¬ cn S d c)) : rep S c = false := @decide_eq_false _ (Classical.propDecidable _) h
def pcI (S N : Nat → Prop) (i : Nat) : Prop := ∀ j, j < 512 → (N j ↔ S j ∧ ∀ d, d < i → S d → ¬ cn S d j)
theorem pcI_z {S N : Nat → Prop} {i : Nat} (hi : i < 512) (h : pcI S N i) (hz : ¬ N i) : pcI S N (i + 1) ∧ rep S i = false := by
  have h1 : ¬ (S i ∧ ∀ d, d < i → S d → ¬ cn S d i) := fun q => hz ((h i hi).mpr q)
  refine ⟨fun j hj => ⟨fun q => ?_, fun q => (h j hj).mpr ⟨q.1, fun d hd => q.2 d (by omega)⟩⟩, rep_f h1⟩
  have q1 := (h j hj).mp q
  refine ⟨q1.1, fun d hd hS g => ?_⟩
  rcases Nat.lt_or_ge d i with e | e
  · exact q1.2 d e hS g
  · obtain rfl : d = i := by omega
    exact h1 ⟨hS, fun d' hd' hS' g' => q1.2 d' hd' hS' (cn_tr g' g)⟩
theorem pcI_s {S N N' : Nat → Prop} {i : Nat} (hi : i < 512) (h : pcI S N i) (hN : N i) (hN' : ∀ j, j < 512 → (N' j ↔ N j ∧ ¬ cn N i j)) : pcI S N' (i + 1) ∧ rep S i = true := by
  have h1 := (h i hi).mp hN
  have key : ∀ j, cn S i j → cn N i j := fun j g => (g (fun x => x < 512 ∧ cn S i x ∧ cn N i x) ⟨hi, cn_rf S i, cn_rf N i⟩ fun x y hx q hn hy => by
    have hy5 : y < 512 := hn.elim fun _ g => g.2.1
    have h3 := cn_st q.2.1 hx hn hy
    exact ⟨hy5, h3, cn_st q.2.2 hx hn ((h y hy5).mpr ⟨hy, fun d hd hS g => h1.2 d hd hS (cn_tr g (cn_sy hi h1.1 h3))⟩)⟩).2.2
  refine ⟨fun j hj => ⟨fun q => ?_, fun q => ?_⟩, rep_t h1⟩
  · have q0 := (hN' j hj).mp q
    have q1 := (h j hj).mp q0.1
    refine ⟨q1.1, fun d hd hS g => ?_⟩
    rcases Nat.lt_or_ge d i with e | e
    · exact q1.2 d e hS g
    · obtain rfl : d = i := by omega
      exact q0.2 (key j g)
  · exact (hN' j hj).mpr ⟨(h j hj).mpr ⟨q.1, fun d hd => q.2 d (by omega)⟩, fun g => q.2 i (by omega) h1.1 (cn_mo (fun x hx q => ((h x hx).mp q).1) g)⟩
theorem vpb {x : Int32} (h : x = 0 ∨ x = nI 1) : vp_nar .boolean x = x := by
  rcases h with rfl | rfl <;> decide
set_option maxRecDepth 100000 in
set_option maxHeartbeats 4000000 in
theorem c_X10_pieces {l : Launch} {E : Ev} {M : Mm}  (hz57 : ∀ j, j < 512 → mI M 57 j = 0 ∨ mI M 57 j = nI 1) : Ct l E yX10_pieces cX10_pieces 3 (some .int) 5 0 0 [.ref (eA E 12 0)] M (fun v M1 => v = some (.int (nI (npc (fun y => ¬ mI M 57 y = 0)))) ∧ mFr M M1 (fun t => t = 55 ∨ t = 67)) := by
  refine Ct.of (own := RX10) rfl [some (.ref (eA E 12 0)), none, none] (by decide) (Nat.le_of_ble_eq_true rfl) rfl ?_
  obtain ⟨w, hw⟩ : ∃ w, w = 512 := ⟨512, rfl⟩
  have K2 : ∀ i, i ≤ w → ∀ Mi : Mm, (mFr M Mi (fun t => t = 55 ∨ t = 67) ∧ (∀ j, j < 512 → mI Mi 55 j = 0 ∨ mI Mi 55 j = nI 1) ∧ pcI (fun y => ¬ mI M 57 y = 0) (fun y => ¬ mI Mi 55 y = 0) i) → Jd l E RX10 cX10_pieces 3 (some .int) [] (rmm 5 0 0) (QfN E (fun v M1 => v = some (.int (nI (npc (fun y => ¬ mI M 57 y = 0)))) ∧ mFr M M1 (fun t => t = 55 ∨ t = 67)) 0 0) 0 0 31 [some (.ref (eA E 12 0)), some (.int (nI (cN (rep (fun y => ¬ mI M 57 y = 0)) i))), some (.int (nI i))] [] Mi := by
    refine up_to w _ ?_ (fun i hi ih => ?_)
    · intro Mi hI
      refine j_iln dX10_pieces_31 rfl rfl ?_
      refine j_siN 512 dX10_pieces_32 rfl ?_
      refine j_icgeN (tgt := 61) dX10_pieces_35 (by decide) (by omega) (by omega) (fun h35 => ?_) (fun h35 => ?_)
      · refine j_iln dX10_pieces_61 rfl rfl ?_
        exact j_iret dX10_pieces_62 rfl rfl (Nat.le_of_ble_eq_true rfl) (Nat.le_of_ble_eq_true rfl) ⟨by rw [hw]; rfl, hI.1⟩
      · exact absurd (Nat.le_of_eq hw.symm) h35
    · intro Mi hI
      have hi5 : i < 512 := by omega
      refine j_iln dX10_pieces_31 rfl rfl ?_
      refine j_siN 512 dX10_pieces_32 rfl ?_
      refine j_icgeN (tgt := 61) dX10_pieces_35 (by decide) (by omega) (by omega) (fun h35 => ?_) (fun h35 => ?_)
      · exact absurd h35 (by omega)
      · refine j_aln dX10_pieces_38 rfl rfl ?_
        refine g_X10_22 dX10_pieces_39 fl_X10_57 ?_
        refine j_iln dX10_pieces_42 rfl rfl ?_
        refine j_azldN dX10_pieces_43 rfl rfl rfl (by decide) (by omega) ?_
        refine j_ifeq (tgt := 55) dX10_pieces_44 (by decide) (fun h44 => ?_) (fun h44 => ?_)
        · obtain ⟨q1, q2⟩ := pcI_z hi5 hI.2.2 (fun q => q h44)
          have hg : cN (rep (fun y => ¬ mI M 57 y = 0)) (i + 1) = cN (rep (fun y => ¬ mI M 57 y = 0)) i := by rw [cN_s, if_neg (by rw [q2]; decide)]; omega
          refine j_incN_2 1 dX10_pieces_55 rfl (by decide) rfl ?_
          refine j_goto (tgt := 31) dX10_pieces_58 (by decide) ?_
          have ihi := ih Mi ⟨hI.1, hI.2.1, q1⟩
          rw [hg] at ihi
          exact ihi
        · have hg : ∀ q2 : rep (fun y => ¬ mI M 57 y = 0) i = true, cN (rep (fun y => ¬ mI M 57 y = 0)) (i + 1) = cN (rep (fun y => ¬ mI M 57 y = 0)) i + 1 := fun q2 => by rw [cN_s, if_pos q2]
          refine j_incN_1 1 dX10_pieces_47 rfl (by decide) rfl ?_
          refine j_aln dX10_pieces_50 rfl rfl ?_
          refine j_iln dX10_pieces_51 rfl rfl ?_
          refine j_V1g mf_X10_spreads ml_X10_195 dX10_pieces_52 (Nat.le_of_ble_eq_true rfl) (Nat.le_of_ble_eq_true rfl) (Nat.le_of_ble_eq_true rfl) ⟨(Nat.le_of_ble_eq_true rfl), (Nat.le_of_ble_eq_true rfl)⟩ (by first | assumption | decide | (simp only [nv] at *; omega)) rfl rfl (c_X10_spreads hi5) ?_
          intro v M9 hp
          obtain ⟨hv, hf, hb, hc⟩ := hp
          subst hv
          obtain ⟨q1, q2⟩ := pcI_s (N' := fun y => ¬ mI M9 55 y = 0) hi5 hI.2.2 h44 hc
          refine j_incN_2 1 dX10_pieces_55 rfl (by decide) rfl ?_
          refine j_goto (tgt := 31) dX10_pieces_58 (by decide) ?_
          have ihi := ih M9 ⟨⟨hf.1.trans hI.1.1, fun t ht => (hf.2 t ht).trans (hI.1.2 t ht)⟩, hb, q1⟩
          rw [hg q2] at ihi
          exact ihi
  have hm1 : ∀ j, j < 512 → mI (sI M 55 (cpR (mI M 57) (mI M 55) w)) 55 j = mI M 57 j := fun j hj => cpR_lt _ _ (by omega)
  have K1 : ∀ i, i ≤ w → Jd l E RX10 cX10_pieces 3 (some .int) [] (rmm 5 0 0) (QfN E (fun v M1 => v = some (.int (nI (npc (fun y => ¬ mI M 57 y = 0)))) ∧ mFr M M1 (fun t => t = 55 ∨ t = 67)) 0 0) 0 0 4 [some (.ref (eA E 12 0)), some (.int (nI 0)), some (.int (nI i))] [] (sI M 55 (cpR (mI M 57) (mI M 55) i)) := by
    refine up_to w _ ?_ (fun i hi ih => ?_)
    · skip
      refine j_iln dX10_pieces_4 rfl rfl ?_
      refine j_siN 512 dX10_pieces_5 rfl ?_
      refine j_icgeN (tgt := 29) dX10_pieces_8 (by decide) (by omega) (by omega) (fun h8 => ?_) (fun h8 => ?_)
      · refine j_icN 0 dX10_pieces_29 rfl ?_
        refine j_ist_2 dX10_pieces_30 (by decide) rfl ?_
        have K0 := K2 0 (by omega) (sI M 55 (cpR (mI M 57) (mI M 55) w)) ⟨⟨rfl, fun t ht => by rw [mI_sI, if_neg (fun q => ht (Or.inl q))]⟩, fun j hj => by rw [hm1 j hj]; exact hz57 j hj, fun j hj => by show ¬ mI (sI M 55 (cpR (mI M 57) (mI M 55) w)) 55 j = 0 ↔ _; rw [hm1 j hj]; exact ⟨fun q => ⟨q, fun d hd => absurd hd (by omega)⟩, fun q => q.1⟩⟩
        rw [cN_0] at K0
        exact K0
      · exact absurd (Nat.le_of_eq hw.symm) h8
    · skip
      refine j_iln dX10_pieces_4 rfl rfl ?_
      refine j_siN 512 dX10_pieces_5 rfl ?_
      refine j_icgeN (tgt := 29) dX10_pieces_8 (by decide) (by omega) (by omega) (fun h8 => ?_) (fun h8 => ?_)
      · exact absurd h8 (by omega)
      · refine j_aln dX10_pieces_11 rfl rfl ?_
        refine g_X10_22 dX10_pieces_12 fl_X10_57 ?_
        refine j_iln dX10_pieces_15 rfl rfl ?_
        refine j_aln dX10_pieces_16 rfl rfl ?_
        refine g_X10_24 dX10_pieces_17 fl_X10_63 ?_
        refine j_iln dX10_pieces_20 rfl rfl ?_
        refine j_azldN dX10_pieces_21 rfl rfl rfl (by decide) (by omega) ?_
        refine j_azstN dX10_pieces_22 rfl (fun _ => rfl) rfl (by decide) (by omega) (vpb (hz57 i (by omega))) ?_
        refine j_incN_2 1 dX10_pieces_23 rfl (by decide) rfl ?_
        refine j_goto (tgt := 4) dX10_pieces_26 (by decide) ?_
        refine j_mem ?_ ih
        rw [cpR_s, sI_sI]
        rfl
  refine j_icN 0 dX10_pieces_0 rfl ?_
  refine j_ist_1 dX10_pieces_1 (by decide) rfl ?_
  refine j_icN 0 dX10_pieces_2 rfl ?_
  refine j_ist_2 dX10_pieces_3 (by decide) rfl ?_
  have K0 := K1 0 (by omega)
  rw [cpR_0, sI_id] at K0
  exact K0
