/-! the bodies of the model's chain are those of the class's stages -/
theorem stM_fr {f : Nat} {A B : Mm} (h : stM f A B) : mFr A B crS := by
  by_cases e : mI A 48 f = 0
  · exact (h.1 e).1
  · rw [h.2 e]; exact ⟨rfl, fun _ _ => rfl⟩
theorem ftX_ch (kd : Int32) (a : Nat → Int32) (f K : Nat → Int64) : fch (ftX kd a f K) := by
  unfold ftX fch
  split
  · exact Or.inr (Or.inr (Or.inr (Or.inr rfl)))
  · split
    · split
      · exact Or.inr (Or.inr (Or.inr (Or.inl rfl)))
      · split
        · exact Or.inr (Or.inl rfl)
        · exact Or.inr (Or.inr (Or.inl rfl))
    · exact Or.inr (Or.inl rfl)
theorem chain_eq {fr : Nat → Nat} {M0 Mc : Mm} {P : Nat → Mm} {F K : Nat → Nat → Int64} {fl : Nat → Int32} {n : Nat} (h0 : RB (F 0) (K 0) (mI M0 54) (mI M0 56)) (hP0 : P 0 = M0) (hst : ∀ j, j < n → stM (fr j) (P j) (P (j + 1))) (hcl : ∀ k, k < n → stR Mc (fr k) (F k) (K k) (F (k + 1)) (K (k + 1)) (fl k)) (hti : ∀ k, k < n → fr k < 40 ∧ mI Mc 27 (fr k) = mI M0 48 (fr k) ∧ mI Mc 25 (fr k) = mI M0 45 (fr k) ∧ (∀ w, w < 6 → szX Mc (fr k) w = dmX M0 (fr k) w) ∧ ftK M0 (fr k)) (hij : ∀ i j, i < n → j < n → fr i = fr j → i = j) (hch : ∀ f, f < 40 → fch (mI M0 49 f)) :
    ∀ k, k ≤ n → RB (F k) (K k) (mI (P k) 54) (mI (P k) 56) ∧ (∀ j, j < k → mI M0 48 (fr j) = 0 → mI (P k) 49 (fr j) = fl j) ∧ mFr M0 (P k) crS ∧ ∀ f, f < 40 → fch (mI (P k) 49 f) := by
  intro k
  induction k with
  | zero =>
    intro _
    rw [hP0]
    exact ⟨h0, fun j hj => absurd hj (by omega), ⟨rfl, fun _ _ => rfl⟩, hch⟩
  | succ k ih =>
    intro hk
    obtain ⟨ih1, ih2, ih3, ih4⟩ := ih (by omega)
    have hs := hst k hk
    have hc := hcl k hk
    obtain ⟨t1, t2, t3, t4, t5⟩ := hti k hk
    have hf := stM_fr hs
    have hfr : mFr M0 (P (k + 1)) crS := ⟨hf.1.trans ih3.1, fun t ht => (hf.2 t ht).trans (ih3.2 t ht)⟩
    have e48 : mI (P k) 48 = mI M0 48 := ih3.2 48 (by decide)
    have e45 : mI (P k) 45 = mI M0 45 := ih3.2 45 (by decide)
    have ed : dmX (P k) (fr k) = dmX M0 (fr k) := dm_same (ih3.2 43 (by decide)) (ih3.2 46 (by decide)) _
    by_cases e : mI M0 48 (fr k) = 0
    · obtain ⟨a, a1, a2, a3⟩ := hc.1 (by rw [t2]; exact e)
      have hsm : ∀ w, w < 6 → a w = dmX (P k) (fr k) w := fun w hw => by rw [a1 w hw, t4 w hw, ed]
      have hco := coR_c hsm a2
      rw [t3, ← e45] at hco
      obtain ⟨s1, s2⟩ := step_eq t1 (by rw [ftK, e45, ed]; exact t5) ih1 hco (hs.1 (by rw [e48]; exact e))
      have hfl : ftX (mI (P k) 45 (fr k)) (dmX (P k) (fr k)) (F k) (K k) = fl k := by rw [a3, t3, e45, ← ftX_c hsm]
      refine ⟨s1, fun j hj he => ?_, hfr, fun f hf40 => ?_⟩
      · rw [s2, hfl]
        show (if fr j = fr k then fl k else mI (P k) 49 (fr j)) = fl j
        by_cases q : fr j = fr k
        · rw [if_pos q, hij j k (by omega) hk q]
        · rw [if_neg q]
          exact ih2 j (Nat.lt_of_le_of_ne (Nat.le_of_lt_succ hj) fun z => q (by rw [z])) he
      · rw [s2]
        show fch (if f = fr k then _ else mI (P k) 49 f)
        split
        · exact ftX_ch _ _ _ _
        · exact ih4 f hf40
    · have hp := hs.2 (by rw [e48]; exact e)
      obtain ⟨c1, c2⟩ := hc.2 (by rw [t2]; exact e)
      rw [hp, c1, c2]
      refine ⟨ih1, fun j hj he => ?_, ih3, ih4⟩
      exact ih2 j (Nat.lt_of_le_of_ne (Nat.le_of_lt_succ hj) fun z => e (by rw [← z]; exact he)) he
theorem RB_0 {F K : Nat → Int64} {B N : Nat → Int32} (hF : ∀ z, z < 8 → F z = 0) (hB : ∀ j, j < 512 → B j = nI 0) (hN : ∀ q, q < 3072 → N q = -1) : RB F K B N := by
  have hc : ∀ n, n < 512 → cb F n = false := fun n hn => by unfold cb; rw [hF _ (by omega)]; exact bw_0 _
  have hs : ∀ n, n < 512 → ∀ s, sqB (cb F) n s = false := fun n hn s => by unfold sqB; rw [hc n hn, Bool.false_and]
  refine ⟨fun j hj => Or.inl (hB j hj), fun n hn => ?_, fun n hn s h6 => ?_, fun n hn s h6 q => ?_⟩
  · rw [hc n hn]; unfold rb; rw [hB n hn]; rfl
  · rw [hN _ (by omega), hs n hn s]; rfl
  · rw [hs n hn s] at q; exact absurd q (by decide)
/-! a feature can be carried out -/
theorem bz_add {r : Nat → Int32} {q : Int32} (h : bz5 r) : bz5 (addS r q) := by
  intro j hj
  unfold addS
  split
  · exact h j hj
  · show (if j = ntX q then nI 1 else r j) = 0 ∨ (if j = ntX q then nI 1 else r j) = nI 1
    split
    · exact Or.inr rfl
    · exact h j hj
theorem bz_cp {r g : Nat → Int32} (h : bz5 r) : ∀ k, bz5 (cpP r g k) := by
  intro k
  induction k with
  | zero => exact h
  | succ k ih => exact bz_add ih
theorem bz_fo {kd : Int32} {a mk B r : Nat → Int32} (h : bz5 r) : ∀ k, bz5 (foC kd a mk B r k) := by
  intro k
  induction k with
  | zero => exact h
  | succ k ih =>
    show bz5 (if B k = 0 then foC kd a mk B r k else copR kd a (mk k) k (foC kd a mk B r k))
    split
    · exact ih
    · unfold copR
      split
      · exact bz_add ih
      · split
        · exact bz_cp ih _
        · split
          · exact bz_cp ih _
          · exact ih
theorem bz_bs (M : Mm) (f : Nat) (h : bz5 (mI M 54)) : bz5 (bsV M f) := by
  intro j hj
  unfold bsV
  split
  · exact bI01 _
  · split
    · exact bI01 _
    · split
      · exact bI01 _
      · split
        · exact bI01 _
        · exact h j hj
theorem car_ex {M : Mm} {f : Nat} (hz : bz5 (mI M 54)) (hk : seven (mI M 45 f)) : ∃ M1, carP M f M1 := by
  have hw : ∃ w Mb, mFr M Mb (fun t => t = 49 ∨ t = 55 ∨ t = 57 ∨ t = 67) ∧ fauP M f w Mb := by
    by_cases u : unX (mI M 45 f) (dmX M f) = true
    · exact ⟨nI 120, M, ⟨rfl, fun _ _ => rfl⟩, Or.inl ⟨u, rfl⟩⟩
    · by_cases e : mI M 45 f = nI 101
      · have u2 := Bool.eq_false_iff.mpr u
        have hsd : sdX (dmX M f 1) = true := by
          have u3 := u2
          rw [e] at u3
          unfold unX at u3
          rw [if_neg (by decide), if_neg (by decide), if_neg (by decide), if_pos rfl, Bool.or_eq_false_iff] at u3
          cases g : sdX (dmX M f 1) with
          | true => rfl
          | false => rw [g] at u3; exact absurd u3.1 (by decide)
        unfold sdX at hsd
        have hsd := of_decide_eq_true hsd
        obtain ⟨s, hs6, es⟩ := nn_lt (by decide) hsd.1 hsd.2
        refine ⟨_, sI M 57 (fun j => bI (mkX M f s j)), ⟨rfl, fun t ht => ?_⟩, Or.inr (Or.inr ⟨u2, e, s, hs6, es, fun j _ => ?_, rfl⟩)⟩
        · rw [mI_sI, if_neg (by omega)]
        · rw [mI_sI, if_pos rfl]
      · exact ⟨nI 45, M, ⟨rfl, fun _ _ => rfl⟩, Or.inr (Or.inl ⟨Bool.eq_false_iff.mpr u, e, rfl⟩)⟩
  obtain ⟨w, Mb, hb, hfa⟩ := hw
  by_cases e : w = nI 45
  · let R := foC (mI Mb 45 f) (dmX Mb f) (mI Mb 57) (mI Mb 54) (bsV Mb f) 512
    let A := sI (sI Mb 49 (upd (mI M 49) f w)) 54 R
    let N := fun q => nmV A (mI M 56) f q
    have h54 : mI (sI A 56 N) 54 = R := by rw [mI_sI, if_neg (by decide), mI_sI, if_pos rfl]
    refine ⟨sI A 56 N, ⟨hb.1, fun t ht => ?_⟩, w, Mb, hb, hfa, ?_, Or.inr ⟨e, ⟨bsV Mb f, fun _ _ => rfl, fun j _ => ?_⟩, ?_, fun q _ => ?_⟩⟩
    · rw [mI_sI, if_neg (by omega), mI_sI, if_neg (by omega), mI_sI, if_neg (by omega)]
      exact hb.2 t (by omega)
    · rw [mI_sI, if_neg (by decide), mI_sI, if_neg (by decide), mI_sI, if_pos rfl]
    · rw [h54]
    · rw [h54]
      exact bz_fo (bz_bs Mb f (by rw [hb.2 54 (by omega)]; exact hz)) 512
    · rw [mI_sI, if_pos rfl]
      show nmV A _ f q = nmV _ _ f q
      unfold nmV isqX
      rw [h54, mI_sI, if_pos rfl]
  · refine ⟨sI Mb 49 (upd (mI M 49) f w), ⟨hb.1, fun t ht => ?_⟩, w, Mb, hb, hfa, ?_, Or.inl ⟨e, ?_, ?_⟩⟩
    · rw [mI_sI, if_neg (by omega)]; exact hb.2 t (by omega)
    · rw [mI_sI, if_pos rfl]
    · rw [mI_sI, if_neg (by decide)]; exact hb.2 54 (by omega)
    · rw [mI_sI, if_neg (by decide)]; exact hb.2 56 (by omega)
/-- bodies from nothing are the stages -/
theorem SR_eq {M Mc : Mm} {fr : Nat → Nat} {F K : Nat → Nat → Int64} {fl : Nat → Int32} {n : Nat} (h0 : (∀ z, z < 8 → F 0 z = 0)) (hcl : ∀ k, k < n → stR Mc (fr k) (F k) (K k) (F (k + 1)) (K (k + 1)) (fl k)) (hti : ∀ k, k < n → fr k < 40 ∧ mI Mc 25 (fr k) = mI M 45 (fr k) ∧ (∀ w, w < 6 → szX Mc (fr k) w = dmX M (fr k) w) ∧ ftK M (fr k)) :
    ∀ k, k ≤ n → ∀ G J, SR Mc fr k G J → ∃ B N, RB (F k) (K k) B N ∧ RB G J B N := by
  intro k
  induction k with
  | zero =>
    intro _ G J h
    exact ⟨fun _ => nI 0, fun _ => -1, RB_0 h0 (fun _ _ => rfl) (fun _ _ => rfl), RB_0 h.1 (fun _ _ => rfl) (fun _ _ => rfl)⟩
  | succ k ih =>
    intro hk G J h
    obtain ⟨G0, J0, flt, h1, h2⟩ := h
    obtain ⟨B, N, r1, r2⟩ := ih (by omega) G0 J0 h1
    obtain ⟨t1, t3, t4, t5⟩ := hti k hk
    have hc := hcl k hk
    by_cases e : mI Mc 27 (fr k) = 0
    · obtain ⟨a, a1, a2, -⟩ := hc.1 e
      obtain ⟨b, b1, b2, -⟩ := h2.1 e
      let A := sI (sI M 54 B) 56 N
      have e54 : mI A 54 = B := by rw [mI_sI, if_neg (by decide), mI_sI, if_pos rfl]
      have e56 : mI A 56 = N := by rw [mI_sI, if_pos rfl]
      have e45 : mI A 45 = mI M 45 := by rw [mI_sI, if_neg (by decide), mI_sI, if_neg (by decide)]
      have ed : dmX A (fr k) = dmX M (fr k) := dm_same (by rw [mI_sI, if_neg (by decide), mI_sI, if_neg (by decide)]) (by rw [mI_sI, if_neg (by decide), mI_sI, if_neg (by decide)]) _
      obtain ⟨A1, hA⟩ := car_ex (M := A) (f := fr k) (by rw [e54]; exact r1.1) (by rw [e45]; exact t5.1)
      have hk2 : ftK A (fr k) := by rw [ftK, e45, ed]; exact t5
      have c1 := coR_c (b := dmX A (fr k)) (fun w hw => by rw [a1 w hw, t4 w hw, ed]) a2
      have c2 := coR_c (b := dmX A (fr k)) (fun w hw => by rw [b1 w hw, t4 w hw, ed]) b2
      rw [t3, ← e45] at c1 c2
      exact ⟨mI A1 54, mI A1 56, (step_eq t1 hk2 (by rw [e54, e56]; exact r1) c1 hA).1, (step_eq t1 hk2 (by rw [e54, e56]; exact r2) c2 hA).1⟩
    · obtain ⟨c1, c2⟩ := hc.2 e
      obtain ⟨d1, d2⟩ := h2.2 e
      exact ⟨B, N, by rw [c1, c2]; exact r1, by rw [d1, d2]; exact r2⟩
