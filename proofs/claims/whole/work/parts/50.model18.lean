/-! the model: a piece taken out -/
def cN (f : Nat → Bool) : Nat → Nat
  | 0 => 0
  | k + 1 => cN f k + (if f k = true then 1 else 0)
theorem cN_0 (f : Nat → Bool) : cN f 0 = 0 := by rw [cN]
theorem cN_s (f : Nat → Bool) (k : Nat) : cN f (k + 1) = cN f k + (if f k = true then 1 else 0) := by rw [cN]
theorem cN_le {f g : Nat → Bool} {k : Nat} (h : ∀ j, j < k → f j = true → g j = true) : cN f k ≤ cN g k := by
  induction k with
  | zero => exact Nat.le_refl _
  | succ k ih =>
    rw [cN_s, cN_s]
    have h1 := ih fun j hj => h j (by omega)
    by_cases e : f k = true
    · rw [if_pos e, if_pos (h k (by omega) e)]; omega
    · rw [if_neg e]; omega
theorem cN_lt {f g : Nat → Bool} {k i : Nat} (h : ∀ j, j < k → f j = true → g j = true) (hi : i < k) (hf : ¬ f i = true) (hg : g i = true) : cN f k < cN g k := by
  induction k with
  | zero => omega
  | succ k ih =>
    rw [cN_s, cN_s]
    by_cases e : i = k
    · subst e
      rw [if_neg hf, if_pos hg]
      have := cN_le (k := i) fun j hj => h j (by omega)
      omega
    · have h1 := ih (fun j hj => h j (by omega)) (by omega)
      by_cases e : f k = true
      · rw [if_pos e, if_pos (h k (by omega) e)]; omega
      · rw [if_neg e]; omega
theorem cN_b (f : Nat → Bool) (k : Nat) : cN f k ≤ k := by
  induction k with
  | zero => exact Nat.le_of_eq (cN_0 f)
  | succ k ih => rw [cN_s]; split <;> omega
theorem cN_ext {f g : Nat → Bool} {k : Nat} (h : ∀ j, j < k → f j = g j) : cN f k = cN g k :=
  Nat.le_antisymm (cN_le fun j hj e => by rw [← h j hj]; exact e) (cN_le fun j hj e => by rw [h j hj]; exact e)
theorem cpR_at (r q : Nat → Int32) (i : Nat) : cpR r q i i = q i := if_neg (Nat.lt_irrefl i)
theorem cpR_lt (r q : Nat → Int32) {i n : Nat} (h : i < n) : cpR r q n i = r i := if_pos h
theorem aw_n {n s : Nat} {w : Int32} (h : ¬ awX n s w = -1) : ∃ t, t < 512 ∧ awX n s w = nI t := clX_n h
/-- neighbours; what hangs together with c in S -/
def nbX (a b : Nat) : Prop := ∃ s, s < 6 ∧ b < 512 ∧ awX a s (nI 1) = nI b
def cn (S : Nat → Prop) (c a : Nat) : Prop := ∀ T : Nat → Prop, T c → (∀ x y, x < 512 → T x → nbX x y → S y → T y) → T a
theorem cn_rf (S : Nat → Prop) (c : Nat) : cn S c c := fun _ h _ => h
theorem cn_st {S : Nat → Prop} {c x y : Nat} (h : cn S c x) (hx : x < 512) (hn : nbX x y) (hy : S y) : cn S c y := fun T h1 h2 => h2 x y hx (h T h1 h2) hn hy
def mFr (M M1 : Mm) (S : Nat → Prop) : Prop := M1.2 = M.2 ∧ ∀ t, ¬ S t → mI M1 t = mI M t
def um (R : Nat → Int32) : Nat := cN (fun j => decide (R j = 0)) 512
def sp1 (S : Nat → Prop) (c : Nat) (R : Nat → Int32) : Prop := (∀ j, j < 512 → R j = 0 ∨ R j = nI 1) ∧ ¬ R c = 0 ∧ ∀ j, j < 512 → ¬ R j = 0 → cn S c j
def clo (S : Nat → Prop) (R : Nat → Int32) (i s : Nat) : Prop := (∀ x, x < i → ¬ R x = 0 → ∀ s', s' < 6 → ∀ y, y < 512 → awX x s' (nI 1) = nI y → S y → ¬ R y = 0) ∧ (¬ R i = 0 → ∀ s', s' < s → ∀ y, y < 512 → awX i s' (nI 1) = nI y → S y → ¬ R y = 0)
theorem clo_6 {S : Nat → Prop} {R : Nat → Int32} {i : Nat} (h : clo S R i 6) : clo S R (i + 1) 0 := by
  refine ⟨fun x hx hr s' hs y hy h1 h2 => ?_, fun _ s' hs => absurd hs (by omega)⟩
  rcases Nat.lt_or_ge x i with q | q
  · exact h.1 x q hr s' hs y hy h1 h2
  · obtain rfl : x = i := by omega
    exact h.2 hr s' hs y hy h1 h2
theorem clo_z {S : Nat → Prop} {R : Nat → Int32} {i s : Nat} (h : clo S R i s) (hz : R i = 0) : clo S R (i + 1) 0 := by
  refine ⟨fun x hx hr s' hs y hy h1 h2 => ?_, fun _ s' hs => absurd hs (by omega)⟩
  rcases Nat.lt_or_ge x i with q | q
  · exact h.1 x q hr s' hs y hy h1 h2
  · obtain rfl : x = i := by omega
    exact absurd hz hr
theorem clo_s {S : Nat → Prop} {R : Nat → Int32} {i s : Nat} (h : clo S R i s) (hn : ∀ y, y < 512 → awX i s (nI 1) = nI y → S y → ¬ R y = 0) : clo S R i (s + 1) := by
  refine ⟨h.1, fun hr s' hs y hy h1 h2 => ?_⟩
  rcases Nat.lt_or_ge s' s with q | q
  · exact h.2 hr s' q y hy h1 h2
  · obtain rfl : s' = s := by omega
    exact hn y hy h1 h2
theorem clo_0 (S : Nat → Prop) (R : Nat → Int32) : clo S R 0 0 := ⟨fun x hx => absurd hx (by omega), fun _ s' hs => absurd hs (by omega)⟩
def spI (S : Nat → Prop) (c : Nat) (R0 R : Nat → Int32) (g : Int32) (i s : Nat) : Prop := sp1 S c R ∧ ((g = nI 0 ∧ R = R0 ∧ clo S R i s) ∨ (g = nI 1 ∧ um R < um R0))
theorem spI_6 {S : Nat → Prop} {c : Nat} {R0 R : Nat → Int32} {g : Int32} {i : Nat} (h : spI S c R0 R g i 6) : spI S c R0 R g (i + 1) 0 := ⟨h.1, h.2.imp (fun q => ⟨q.1, q.2.1, clo_6 q.2.2⟩) id⟩
theorem spI_z {S : Nat → Prop} {c : Nat} {R0 R : Nat → Int32} {g : Int32} {i s : Nat} (h : spI S c R0 R g i s) (hz : R i = 0) : spI S c R0 R g (i + 1) 0 := ⟨h.1, h.2.imp (fun q => ⟨q.1, q.2.1, clo_z q.2.2 hz⟩) id⟩
theorem spI_s {S : Nat → Prop} {c : Nat} {R0 R : Nat → Int32} {g : Int32} {i s : Nat} (h : spI S c R0 R g i s) (hn : ∀ y, y < 512 → awX i s (nI 1) = nI y → S y → ¬ R y = 0) : spI S c R0 R g i (s + 1) := ⟨h.1, h.2.imp (fun q => ⟨q.1, q.2.1, clo_s q.2.2 hn⟩) id⟩
theorem spI_u {S : Nat → Prop} {c : Nat} {R0 R : Nat → Int32} {g : Int32} {i s t : Nat} (h : spI S c R0 R g i s) (hi : i < 512) (hs : s < 6) (ht : t < 512) (hr : ¬ R i = 0) (he : awX i s (nI 1) = nI t) (hS : S t) (hz : R t = 0) : spI S c R0 (upd R t (nI 1)) (nI 1) i (s + 1) := by
  have hu : ∀ j, upd R t (nI 1) j = if j = t then nI 1 else R j := fun _ => rfl
  refine ⟨⟨fun j hj => ?_, ?_, fun j hj q => ?_⟩, Or.inr ⟨rfl, ?_⟩⟩
  · rw [hu]; split
    · exact Or.inr rfl
    · exact h.1.1 j hj
  · rw [hu]; split
    · decide
    · exact h.1.2.1
  · by_cases e : j = t
    · subst e
      exact cn_st (h.1.2.2 i hi hr) hi ⟨s, hs, ht, he⟩ hS
    · rw [hu, if_neg e] at q
      exact h.1.2.2 j hj q
  · have h1 : um (upd R t (nI 1)) < um R := by
      refine cN_lt (i := t) (fun j _ q => ?_) ht ?_ (decide_eq_true hz)
      · have q := of_decide_eq_true q
        rw [hu] at q
        split at q
        · exact absurd q (by decide)
        · exact decide_eq_true q
      · intro q
        have q := of_decide_eq_true q
        rw [hu, if_pos rfl] at q
        exact absurd q (by decide)
    rcases h.2 with q | q
    · rw [← q.2.1]; exact h1
    · omega
theorem sp_all {S : Nat → Prop} {c : Nat} {R : Nat → Int32} (h : sp1 S c R) (hc : clo S R 512 0) {j : Nat} (hj : j < 512) : R j = 0 ↔ ¬ cn S c j := by
  refine ⟨fun q g => ?_, fun q => Classical.byContradiction fun g => q (h.2.2 j hj g)⟩
  exact g (fun a => ¬ R a = 0) h.2.1 (fun x y hx h1 h2 h3 => h2.elim fun s h2 => hc.1 x hx h1 s h2.1 y h2.2.1 h2.2.2 h3) q
set_option maxRecDepth 100000 in
set_option maxHeartbeats 4000000 in
theorem c_X10_spreads {l : Launch} {E : Ev} {M : Mm} {c : Nat} (hc : c < 512) : Ct l E yX10_spreads cX10_spreads 6 none 4 0 0 [.ref (eA E 12 0), .int (nI c)] M (fun v M1 => v = none ∧ mFr M M1 (fun t => t = 55 ∨ t = 67) ∧ (∀ j, j < 512 → mI M1 55 j = 0 ∨ mI M1 55 j = nI 1) ∧ ∀ j, j < 512 → (¬ mI M1 55 j = 0 ↔ ¬ mI M 55 j = 0 ∧ ¬ cn (fun y => ¬ mI M 55 y = 0) c j)) := by
  refine Ct.of (own := RX10) rfl [some (.ref (eA E 12 0)), some (.int (nI c)), none, none, none, none] (by decide) (Nat.le_of_ble_eq_true rfl) rfl ?_
  have T3 : ∀ (R : Nat → Int32) (o3 o4 o5 : Option Value), sp1 (fun y => ¬ mI M 55 y = 0) c R → clo (fun y => ¬ mI M 55 y = 0) R 512 0 → Jd l E RX10 cX10_spreads 6 none [] (rmm 4 0 0) (QfN E (fun v M1 => v = none ∧ mFr M M1 (fun t => t = 55 ∨ t = 67) ∧ (∀ j, j < 512 → mI M1 55 j = 0 ∨ mI M1 55 j = nI 1) ∧ ∀ j, j < 512 → (¬ mI M1 55 j = 0 ↔ ¬ mI M 55 j = 0 ∧ ¬ cn (fun y => ¬ mI M 55 y = 0) c j)) 0 0) 0 0 33 [some (.ref (eA E 12 0)), some (.int (nI c)), some (.int (nI 0)), o3, o4, o5] [] (sI M 67 R) := by
    intro R o3 o4 o5 h1 h2
    obtain ⟨w, hw⟩ : ∃ w, w = 512 := ⟨512, rfl⟩
    have hfv : ∀ j, j < 512 → (¬ (¬ mI M 55 j = 0 ∧ ¬ cn (fun y => ¬ mI M 55 y = 0) c j) ∧ mI (sI (sI M 67 R) 55 (cpR (fun j => if ¬ mI M 55 j = 0 ∧ R j = 0 then nI 1 else nI 0) (mI M 55) w)) 55 j = 0) ∨ ((¬ mI M 55 j = 0 ∧ ¬ cn (fun y => ¬ mI M 55 y = 0) c j) ∧ mI (sI (sI M 67 R) 55 (cpR (fun j => if ¬ mI M 55 j = 0 ∧ R j = 0 then nI 1 else nI 0) (mI M 55) w)) 55 j = nI 1) := by
      intro j hj
      have e : mI (sI (sI M 67 R) 55 (cpR (fun j => if ¬ mI M 55 j = 0 ∧ R j = 0 then nI 1 else nI 0) (mI M 55) w)) 55 j = if ¬ mI M 55 j = 0 ∧ R j = 0 then nI 1 else nI 0 := cpR_lt (fun j => if ¬ mI M 55 j = 0 ∧ R j = 0 then nI 1 else nI 0) (mI M 55) (by omega)
      rw [e]
      by_cases q : ¬ mI M 55 j = 0 ∧ R j = 0
      · rw [if_pos q]; exact Or.inr ⟨⟨q.1, (sp_all h1 h2 hj).mp q.2⟩, rfl⟩
      · rw [if_neg q]; exact Or.inl ⟨fun g => q ⟨g.1, (sp_all h1 h2 hj).mpr g.2⟩, rfl⟩
    have K3 : ∀ i, i ≤ w → Jd l E RX10 cX10_spreads 6 none [] (rmm 4 0 0) (QfN E (fun v M1 => v = none ∧ mFr M M1 (fun t => t = 55 ∨ t = 67) ∧ (∀ j, j < 512 → mI M1 55 j = 0 ∨ mI M1 55 j = nI 1) ∧ ∀ j, j < 512 → (¬ mI M1 55 j = 0 ↔ ¬ mI M 55 j = 0 ∧ ¬ cn (fun y => ¬ mI M 55 y = 0) c j)) 0 0) 0 0 129 [some (.ref (eA E 12 0)), some (.int (nI c)), some (.int (nI 0)), some (.int (nI i)), o4, o5] [] (sI (sI M 67 R) 55 (cpR (fun j => if ¬ mI M 55 j = 0 ∧ R j = 0 then nI 1 else nI 0) (mI M 55) i)) := by
      refine up_to w _ ?_ (fun i hi ih => ?_)
      · skip
        refine j_iln dX10_spreads_129 rfl rfl ?_
        refine j_siN 512 dX10_spreads_130 rfl ?_
        refine j_icgeN (tgt := 171) dX10_spreads_133 (by decide) (by omega) (by omega) (fun h133 => ?_) (fun h133 => ?_)
        · exact j_vret dX10_spreads_171 rfl (Nat.le_of_ble_eq_true rfl) (Nat.le_of_ble_eq_true rfl) ⟨rfl, ⟨rfl, fun t ht => by rw [mI_sI, if_neg (fun q => ht (Or.inl q)), mI_sI, if_neg (fun q => ht (Or.inr q))]⟩, fun j hj => (hfv j hj).elim (fun q => Or.inl q.2) (fun q => Or.inr q.2), fun j hj => (hfv j hj).elim (fun q => ⟨fun g => absurd q.2 g, fun g => absurd g q.1⟩) (fun q => ⟨fun _ => q.1, fun _ => by rw [q.2]; decide⟩)⟩
        · exact absurd (Nat.le_of_eq hw.symm) h133
      · skip
        refine j_iln dX10_spreads_129 rfl rfl ?_
        refine j_siN 512 dX10_spreads_130 rfl ?_
        refine j_icgeN (tgt := 171) dX10_spreads_133 (by decide) (by omega) (by omega) (fun h133 => ?_) (fun h133 => ?_)
        · exact absurd h133 (by omega)
        · refine j_aln dX10_spreads_136 rfl rfl ?_
          refine g_X10_22 dX10_spreads_137 fl_X10_57 ?_
          refine j_iln dX10_spreads_140 rfl rfl ?_
          refine j_aln dX10_spreads_141 rfl rfl ?_
          refine g_X10_22 dX10_spreads_142 fl_X10_57 ?_
          refine j_iln dX10_spreads_145 rfl rfl ?_
          refine j_azldN dX10_spreads_146 rfl rfl rfl (by decide) (by omega) ?_
          refine j_ifeq (tgt := 163) dX10_spreads_147 (by decide) (fun h147 => ?_) (fun h147 => ?_)
          · have hg : (if ¬ mI M 55 i = 0 ∧ R i = 0 then nI 1 else nI 0 : Int32) = nI 0 := if_neg (fun q => q.1 ((cpR_at (fun j => if ¬ mI M 55 j = 0 ∧ R j = 0 then nI 1 else nI 0) (mI M 55) i).symm.trans h147))
            refine j_icN 0 dX10_spreads_163 rfl ?_
            refine j_azstN dX10_spreads_164 rfl (fun _ => rfl) rfl (by decide) (by omega) (by decide) ?_
            refine j_incN_3 1 dX10_spreads_165 rfl (by decide) rfl ?_
            refine j_goto (tgt := 129) dX10_spreads_168 (by decide) ?_
            refine j_mem ?_ ih
            rw [cpR_s, sI_sI]
            rw [show (if ¬ mI M 55 i = 0 ∧ R i = 0 then nI 1 else nI 0 : Int32) = _ from hg]
            rfl
          · have h1 : ¬ mI M 55 i = 0 := fun q => h147 ((cpR_at (fun j => if ¬ mI M 55 j = 0 ∧ R j = 0 then nI 1 else nI 0) (mI M 55) i).trans q)
            refine j_aln dX10_spreads_150 rfl rfl ?_
            refine g_X10_36 dX10_spreads_151 fl_X10_93 ?_
            refine j_iln dX10_spreads_154 rfl rfl ?_
            refine j_azldN dX10_spreads_155 rfl rfl rfl (by decide) (by omega) ?_
            refine j_ifne (tgt := 163) dX10_spreads_156 (by decide) (fun h156 => ?_) (fun h156 => ?_)
            · have hg : (if ¬ mI M 55 i = 0 ∧ R i = 0 then nI 1 else nI 0 : Int32) = nI 0 := if_neg (fun q => h156 q.2)
              refine j_icN 0 dX10_spreads_163 rfl ?_
              refine j_azstN dX10_spreads_164 rfl (fun _ => rfl) rfl (by decide) (by omega) (by decide) ?_
              refine j_incN_3 1 dX10_spreads_165 rfl (by decide) rfl ?_
              refine j_goto (tgt := 129) dX10_spreads_168 (by decide) ?_
              refine j_mem ?_ ih
              rw [cpR_s, sI_sI]
              rw [show (if ¬ mI M 55 i = 0 ∧ R i = 0 then nI 1 else nI 0 : Int32) = _ from hg]
              rfl
            · have hg : (if ¬ mI M 55 i = 0 ∧ R i = 0 then nI 1 else nI 0 : Int32) = nI 1 := if_pos ⟨h1, h156⟩
              refine j_icN 1 dX10_spreads_159 rfl ?_
              refine j_goto (tgt := 164) dX10_spreads_160 (by decide) ?_
              refine j_azstN dX10_spreads_164 rfl (fun _ => rfl) rfl (by decide) (by omega) (by decide) ?_
              refine j_incN_3 1 dX10_spreads_165 rfl (by decide) rfl ?_
              refine j_goto (tgt := 129) dX10_spreads_168 (by decide) ?_
              refine j_mem ?_ ih
              rw [cpR_s, sI_sI]
              rw [show (if ¬ mI M 55 i = 0 ∧ R i = 0 then nI 1 else nI 0 : Int32) = _ from hg]
              rfl
    refine j_iln dX10_spreads_33 rfl rfl ?_
    refine j_ifeqN (tgt := 127) dX10_spreads_34 (by decide) (by omega) (fun h34 => ?_) (fun h34 => ?_)
    · refine j_icN 0 dX10_spreads_127 rfl ?_
      refine j_ist_3 dX10_spreads_128 (by decide) rfl ?_
      have K0 := K3 0 (by omega)
      rw [cpR_0] at K0
      refine j_mem ?_ K0
      exact (sI_id (sI M 67 R) 55).symm
    · exact absurd rfl h34
  have KW : ∀ (f : Nat) (R : Nat → Int32) (o3 o4 o5 : Option Value), um R < f → sp1 (fun y => ¬ mI M 55 y = 0) c R → Jd l E RX10 cX10_spreads 6 none [] (rmm 4 0 0) (QfN E (fun v M1 => v = none ∧ mFr M M1 (fun t => t = 55 ∨ t = 67) ∧ (∀ j, j < 512 → mI M1 55 j = 0 ∨ mI M1 55 j = nI 1) ∧ ∀ j, j < 512 → (¬ mI M1 55 j = 0 ↔ ¬ mI M 55 j = 0 ∧ ¬ cn (fun y => ¬ mI M 55 y = 0) c j)) 0 0) 0 0 33 [some (.ref (eA E 12 0)), some (.int (nI c)), some (.int (nI 1)), o3, o4, o5] [] (sI M 67 R) := by
    intro f
    induction f with
    | zero => exact fun R o3 o4 o5 h => absurd h (by omega)
    | succ f ihf =>
      intro R0 o3 o4 o5 hf h1
      obtain ⟨w, hw⟩ : ∃ w, w = 512 := ⟨512, rfl⟩
      have hX : ∀ (R : Nat → Int32) (g : Int32) (o3 o4 o5 : Option Value), spI (fun y => ¬ mI M 55 y = 0) c R0 R g w 0 → Jd l E RX10 cX10_spreads 6 none [] (rmm 4 0 0) (QfN E (fun v M1 => v = none ∧ mFr M M1 (fun t => t = 55 ∨ t = 67) ∧ (∀ j, j < 512 → mI M1 55 j = 0 ∨ mI M1 55 j = nI 1) ∧ ∀ j, j < 512 → (¬ mI M1 55 j = 0 ↔ ¬ mI M 55 j = 0 ∧ ¬ cn (fun y => ¬ mI M 55 y = 0) c j)) 0 0) 0 0 33 [some (.ref (eA E 12 0)), some (.int (nI c)), some (.int g), o3, o4, o5] [] (sI M 67 R) := by
        intro R g o3 o4 o5 hI
        rcases hI.2 with ⟨rfl, -, q⟩ | ⟨rfl, q⟩
        · exact T3 R o3 o4 o5 hI.1 (hw ▸ q)
        · exact ihf R o3 o4 o5 (by omega) hI.1
      have KI : ∀ i, i ≤ w → ∀ (R : Nat → Int32) (g : Int32) (o4 o5 : Option Value), spI (fun y => ¬ mI M 55 y = 0) c R0 R g i 0 → Jd l E RX10 cX10_spreads 6 none [] (rmm 4 0 0) (QfN E (fun v M1 => v = none ∧ mFr M M1 (fun t => t = 55 ∨ t = 67) ∧ (∀ j, j < 512 → mI M1 55 j = 0 ∨ mI M1 55 j = nI 1) ∧ ∀ j, j < 512 → (¬ mI M1 55 j = 0 ↔ ¬ mI M 55 j = 0 ∧ ¬ cn (fun y => ¬ mI M 55 y = 0) c j)) 0 0) 0 0 41 [some (.ref (eA E 12 0)), some (.int (nI c)), some (.int g), some (.int (nI i)), o4, o5] [] (sI M 67 R) := by
        refine up_to w _ ?_ (fun i hi9 ihI => ?_)
        · intro R g o4 o5 hI
          refine j_iln dX10_spreads_41 rfl rfl ?_
          refine j_siN 512 dX10_spreads_42 rfl ?_
          refine j_icgeN (tgt := 124) dX10_spreads_45 (by decide) (by omega) (by omega) (fun h45 => ?_) (fun h45 => ?_)
          · refine j_goto (tgt := 33) dX10_spreads_124 (by decide) ?_
            exact hX R g _ _ _ hI
          · exact absurd (Nat.le_of_eq hw.symm) h45
        · have hi : i < 512 := by omega
          have hE : ∀ (R : Nat → Int32) (g : Int32) (o4 o5 : Option Value), spI (fun y => ¬ mI M 55 y = 0) c R0 R g (i + 1) 0 → Jd l E RX10 cX10_spreads 6 none [] (rmm 4 0 0) (QfN E (fun v M1 => v = none ∧ mFr M M1 (fun t => t = 55 ∨ t = 67) ∧ (∀ j, j < 512 → mI M1 55 j = 0 ∨ mI M1 55 j = nI 1) ∧ ∀ j, j < 512 → (¬ mI M1 55 j = 0 ↔ ¬ mI M 55 j = 0 ∧ ¬ cn (fun y => ¬ mI M 55 y = 0) c j)) 0 0) 0 0 118 [some (.ref (eA E 12 0)), some (.int (nI c)), some (.int g), some (.int (nI i)), o4, o5] [] (sI M 67 R) := by
            intro R g o4 o5 hI
            refine j_incN_3 1 dX10_spreads_118 rfl (by decide) rfl ?_
            refine j_goto (tgt := 41) dX10_spreads_121 (by decide) ?_
            exact ihI R g o4 o5 hI
          have KS : ∀ s, s ≤ 6 → ∀ (R : Nat → Int32) (g : Int32) (o5 : Option Value), spI (fun y => ¬ mI M 55 y = 0) c R0 R g i s → Jd l E RX10 cX10_spreads 6 none [] (rmm 4 0 0) (QfN E (fun v M1 => v = none ∧ mFr M M1 (fun t => t = 55 ∨ t = 67) ∧ (∀ j, j < 512 → mI M1 55 j = 0 ∨ mI M1 55 j = nI 1) ∧ ∀ j, j < 512 → (¬ mI M1 55 j = 0 ↔ ¬ mI M 55 j = 0 ∧ ¬ cn (fun y => ¬ mI M 55 y = 0) c j)) 0 0) 0 0 51 [some (.ref (eA E 12 0)), some (.int (nI c)), some (.int g), some (.int (nI i)), some (.int (nI s)), o5] [] (sI M 67 R) := by
            refine up_to 6 _ ?_ (fun s hs ihs => ?_)
            · intro R g o5 hI
              refine j_il dX10_spreads_51 rfl ?_
              refine j_biN 6 dX10_spreads_53 rfl ?_
              refine j_icgeN (tgt := 118) dX10_spreads_55 (by decide) (by omega) (by omega) (fun h55 => ?_) (fun h55 => ?_)
              · exact hE R g _ _ (spI_6 hI)
              · exact absurd (Nat.le_refl 6) h55
            · intro R g o5 hI
              refine j_il dX10_spreads_51 rfl ?_
              refine j_biN 6 dX10_spreads_53 rfl ?_
              refine j_icgeN (tgt := 118) dX10_spreads_55 (by decide) (by omega) (by omega) (fun h55 => ?_) (fun h55 => ?_)
              · exact absurd h55 (by omega)
              · refine j_aln dX10_spreads_58 rfl rfl ?_
                refine g_X10_36 dX10_spreads_59 fl_X10_93 ?_
                refine j_iln dX10_spreads_62 rfl rfl ?_
                refine j_azldN dX10_spreads_63 rfl rfl rfl (by decide) (by omega) ?_
                refine j_ifeq (tgt := 118) dX10_spreads_64 (by decide) (fun h64 => ?_) (fun h64 => ?_)
                · exact hE R g _ _ (spI_z hI h64)
                · refine j_iln dX10_spreads_67 rfl rfl ?_
                  refine j_il dX10_spreads_68 rfl ?_
                  refine j_icN 1 dX10_spreads_70 rfl ?_
                  refine j_S3d mf_X10_away ml_X10_184 dX10_spreads_71 (Nat.le_of_ble_eq_true rfl) (Nat.le_of_ble_eq_true rfl) (Nat.le_of_ble_eq_true rfl) ⟨(Nat.le_of_ble_eq_true rfl), (Nat.le_of_ble_eq_true rfl)⟩ (c_X10_away (w := nI 1) hi hs) ?_
                  refine j_ist_5 dX10_spreads_74 (by decide) rfl ?_
                  refine j_il dX10_spreads_76 rfl ?_
                  refine j_ic (v := (-1)) dX10_spreads_78 (by decide) ?_
                  refine j_iceq (tgt := 112) dX10_spreads_79 (by decide) (fun h79 => ?_) (fun h79 => ?_)
                  · have hnx := spI_s hI (fun y hy q _ => absurd (q.symm.trans h79) (nI_nm1 (by omega)))
                    refine j_incN_4 1 dX10_spreads_112 rfl (by decide) rfl ?_
                    refine j_goto (tgt := 51) dX10_spreads_115 (by decide) ?_
                    first | exact ihs R g _ hnx | exact j_mem (by rw [sI_sI]; rfl) (ihs _ _ _ hnx)
                  · obtain ⟨t, ht, hte⟩ := aw_n h79
                    refine j_eq (congrArg (fun q => [_, _, _, _, _, some (Value.int q)]) hte) rfl rfl ?_
                    refine j_aln dX10_spreads_82 rfl rfl ?_
                    refine g_X10_22 dX10_spreads_83 fl_X10_57 ?_
                    refine j_il dX10_spreads_86 rfl ?_
                    refine j_azldN dX10_spreads_88 rfl rfl rfl (by decide) (by omega) ?_
                    refine j_ifeq (tgt := 112) dX10_spreads_89 (by decide) (fun h89 => ?_) (fun h89 => ?_)
                    · have hnx := spI_s hI (fun y hy q g => by rw [hte] at q; rw [← (nI_eq (by omega) (by omega)).mp q] at g; exact absurd h89 g)
                      refine j_incN_4 1 dX10_spreads_112 rfl (by decide) rfl ?_
                      refine j_goto (tgt := 51) dX10_spreads_115 (by decide) ?_
                      first | exact ihs R g _ hnx | exact j_mem (by rw [sI_sI]; rfl) (ihs _ _ _ hnx)
                    · refine j_aln dX10_spreads_92 rfl rfl ?_
                      refine g_X10_36 dX10_spreads_93 fl_X10_93 ?_
                      refine j_il dX10_spreads_96 rfl ?_
                      refine j_azldN dX10_spreads_98 rfl rfl rfl (by decide) (by omega) ?_
                      refine j_ifne (tgt := 112) dX10_spreads_99 (by decide) (fun h99 => ?_) (fun h99 => ?_)
                      · have hnx := spI_s hI (fun y hy q g => by rw [hte] at q; rw [← (nI_eq (by omega) (by omega)).mp q]; exact h99)
                        refine j_incN_4 1 dX10_spreads_112 rfl (by decide) rfl ?_
                        refine j_goto (tgt := 51) dX10_spreads_115 (by decide) ?_
                        first | exact ihs R g _ hnx | exact j_mem (by rw [sI_sI]; rfl) (ihs _ _ _ hnx)
                      · have hnx := spI_u hI hi hs ht h64 hte h89 h99
                        refine j_aln dX10_spreads_102 rfl rfl ?_
                        refine g_X10_36 dX10_spreads_103 fl_X10_93 ?_
                        refine j_il dX10_spreads_106 rfl ?_
                        refine j_icN 1 dX10_spreads_108 rfl ?_
                        refine j_azstN dX10_spreads_109 rfl (fun _ => rfl) rfl (by decide) (by omega) (by decide) ?_
                        refine j_icN 1 dX10_spreads_110 rfl ?_
                        refine j_ist_2 dX10_spreads_111 (by decide) rfl ?_
                        refine j_incN_4 1 dX10_spreads_112 rfl (by decide) rfl ?_
                        refine j_goto (tgt := 51) dX10_spreads_115 (by decide) ?_
                        first | exact ihs R g _ hnx | exact j_mem (by rw [sI_sI]; rfl) (ihs _ _ _ hnx)
          intro R g o4 o5 hI
          refine j_iln dX10_spreads_41 rfl rfl ?_
          refine j_siN 512 dX10_spreads_42 rfl ?_
          refine j_icgeN (tgt := 124) dX10_spreads_45 (by decide) (by omega) (by omega) (fun h45 => ?_) (fun h45 => ?_)
          · exact absurd h45 (by omega)
          · refine j_icN 0 dX10_spreads_48 rfl ?_
            refine j_ist_4 dX10_spreads_49 (by decide) rfl ?_
            exact KS 0 (by omega) R g _ hI
      refine j_iln dX10_spreads_33 rfl rfl ?_
      refine j_ifeqN (tgt := 127) dX10_spreads_34 (by decide) (by omega) (fun h34 => ?_) (fun h34 => ?_)
      · exact absurd h34 (by decide)
      · refine j_icN 0 dX10_spreads_37 rfl ?_
        refine j_ist_2 dX10_spreads_38 (by decide) rfl ?_
        refine j_icN 0 dX10_spreads_39 rfl ?_
        refine j_ist_3 dX10_spreads_40 (by decide) rfl ?_
        exact KI 0 (by omega) R0 _ _ _ ⟨h1, Or.inl ⟨rfl, rfl, clo_0 _ _⟩⟩
  obtain ⟨w, hw⟩ : ∃ w, w = 512 := ⟨512, rfl⟩
  have hs1 : sp1 (fun y => ¬ mI M 55 y = 0) c (cpR (fun j => if j = c then nI 1 else nI 0) (mI M 67) w) := by
    have hv : ∀ j, j < 512 → cpR (fun j => if j = c then nI 1 else nI 0) (mI M 67) w j = if j = c then nI 1 else nI 0 := fun j hj => cpR_lt _ _ (by omega)
    refine ⟨fun j hj => ?_, ?_, fun j hj q => ?_⟩
    · rw [hv j hj]; split
      · exact Or.inr rfl
      · exact Or.inl rfl
    · rw [hv c hc, if_pos rfl]; decide
    · rw [hv j hj] at q
      by_cases e : j = c
      · rw [e]; exact cn_rf _ _
      · rw [if_neg e] at q; exact absurd rfl q
  have K1 : ∀ i, i ≤ w → Jd l E RX10 cX10_spreads 6 none [] (rmm 4 0 0) (QfN E (fun v M1 => v = none ∧ mFr M M1 (fun t => t = 55 ∨ t = 67) ∧ (∀ j, j < 512 → mI M1 55 j = 0 ∨ mI M1 55 j = nI 1) ∧ ∀ j, j < 512 → (¬ mI M1 55 j = 0 ↔ ¬ mI M 55 j = 0 ∧ ¬ cn (fun y => ¬ mI M 55 y = 0) c j)) 0 0) 0 0 2 [some (.ref (eA E 12 0)), some (.int (nI c)), some (.int (nI i)), none, none, none] [] (sI M 67 (cpR (fun j => if j = c then nI 1 else nI 0) (mI M 67) i)) := by
    refine up_to w _ ?_ (fun i hi ih => ?_)
    · skip
      refine j_iln dX10_spreads_2 rfl rfl ?_
      refine j_siN 512 dX10_spreads_3 rfl ?_
      refine j_icgeN (tgt := 31) dX10_spreads_6 (by decide) (by omega) (by omega) (fun h6 => ?_) (fun h6 => ?_)
      · refine j_icN 1 dX10_spreads_31 rfl ?_
        refine j_ist_2 dX10_spreads_32 (by decide) rfl ?_
        exact KW 513 _ _ _ _ (Nat.lt_succ_of_le (cN_b _ _)) hs1
      · exact absurd (Nat.le_of_eq hw.symm) h6
    · skip
      refine j_iln dX10_spreads_2 rfl rfl ?_
      refine j_siN 512 dX10_spreads_3 rfl ?_
      refine j_icgeN (tgt := 31) dX10_spreads_6 (by decide) (by omega) (by omega) (fun h6 => ?_) (fun h6 => ?_)
      · exact absurd h6 (by omega)
      · refine j_aln dX10_spreads_9 rfl rfl ?_
        refine g_X10_36 dX10_spreads_10 fl_X10_93 ?_
        refine j_iln dX10_spreads_13 rfl rfl ?_
        refine j_iln dX10_spreads_14 rfl rfl ?_
        refine j_iln dX10_spreads_15 rfl rfl ?_
        refine j_icneN (tgt := 23) dX10_spreads_16 (by decide) (by omega) (by omega) (fun h16 => ?_) (fun h16 => ?_)
        · have hg : (if i = c then nI 1 else nI 0 : Int32) = nI 0 := if_neg h16
          refine j_icN 0 dX10_spreads_23 rfl ?_
          refine j_azstN dX10_spreads_24 rfl (fun _ => rfl) rfl (by decide) (by omega) (by decide) ?_
          refine j_incN_2 1 dX10_spreads_25 rfl (by decide) rfl ?_
          refine j_goto (tgt := 2) dX10_spreads_28 (by decide) ?_
          refine j_mem ?_ ih
          rw [cpR_s, sI_sI]
          rw [show (if i = c then nI 1 else nI 0 : Int32) = _ from hg]
          rfl
        · have hg : (if i = c then nI 1 else nI 0 : Int32) = nI 1 := if_pos h16
          refine j_icN 1 dX10_spreads_19 rfl ?_
          refine j_goto (tgt := 24) dX10_spreads_20 (by decide) ?_
          refine j_azstN dX10_spreads_24 rfl (fun _ => rfl) rfl (by decide) (by omega) (by decide) ?_
          refine j_incN_2 1 dX10_spreads_25 rfl (by decide) rfl ?_
          refine j_goto (tgt := 2) dX10_spreads_28 (by decide) ?_
          refine j_mem ?_ ih
          rw [cpR_s, sI_sI]
          rw [show (if i = c then nI 1 else nI 0 : Int32) = _ from hg]
          rfl
  refine j_icN 0 dX10_spreads_0 rfl ?_
  refine j_ist_2 dX10_spreads_1 (by decide) rfl ?_
  have K0 := K1 0 (by omega)
  rw [cpR_0, sI_id] at K0
  exact K0
