/-! the model: a feature carried out -/
def bsV (M : Mm) (f j : Nat) : Int32 := if mI M 45 f = nI 98 then bI (decide (¬ mI M 54 j = 0) || ibK M j f 3) else if mI M 45 f = nI 99 then bI (decide (¬ mI M 54 j = 0) && !ibK M j f 3) else if mI M 45 f = nI 105 then bI (decide (¬ mI M 54 j = 0) && ibK M j f 3) else if mI M 45 f = nI 104 then bI (decide (¬ mI M 54 j = 0) && !inM M j 6) else mI M 54 j
theorem bs98 {M : Mm} {f j : Nat} (h : mI M 45 f = nI 98) : bsV M f j = bI (decide (¬ mI M 54 j = 0) || ibK M j f 3) := if_pos h
theorem bs99 {M : Mm} {f j : Nat} (h : mI M 45 f = nI 99) : bsV M f j = bI (decide (¬ mI M 54 j = 0) && !ibK M j f 3) := by
  unfold bsV; rw [if_neg (by rw [h]; decide), if_pos h]
theorem bs105 {M : Mm} {f j : Nat} (h : mI M 45 f = nI 105) : bsV M f j = bI (decide (¬ mI M 54 j = 0) && ibK M j f 3) := by
  unfold bsV; rw [if_neg (by rw [h]; decide), if_neg (by rw [h]; decide), if_pos h]
theorem bs104 {M : Mm} {f j : Nat} (h : mI M 45 f = nI 104) : bsV M f j = bI (decide (¬ mI M 54 j = 0) && !inM M j 6) := by
  unfold bsV; rw [if_neg (by rw [h]; decide), if_neg (by rw [h]; decide), if_neg (by rw [h]; decide), if_pos h]
theorem bsO {M : Mm} {f j : Nat} (h1 : ¬ mI M 45 f = nI 98) (h2 : ¬ mI M 45 f = nI 99) (h3 : ¬ mI M 45 f = nI 105) (h4 : ¬ mI M 45 f = nI 104) : bsV M f j = mI M 54 j := by
  unfold bsV; rw [if_neg h1, if_neg h2, if_neg h3, if_neg h4]
def bz5 (r : Nat → Int32) : Prop := ∀ j, j < 512 → r j = 0 ∨ r j = nI 1
theorem bsV_b {M : Mm} (h : bz5 (mI M 54)) (f : Nat) : bz5 (bsV M f) := by
  intro j hj
  unfold bsV
  repeat' split
  all_goals first | exact bI01 _ | exact h j hj
def foC (kd : Int32) (a : Nat → Int32) (mk B r : Nat → Int32) : Nat → Nat → Int32
  | 0 => r
  | k + 1 => if B k = 0 then foC kd a mk B r k else copR kd a (mk k) k (foC kd a mk B r k)
theorem foC_0 (kd : Int32) (a mk B r : Nat → Int32) : foC kd a mk B r 0 = r := by rw [foC]
theorem foC_z {kd : Int32} {a mk B r : Nat → Int32} {k : Nat} (h : B k = 0) : foC kd a mk B r (k + 1) = foC kd a mk B r k := by rw [foC, if_pos h]
theorem foC_s {kd : Int32} {a mk B r : Nat → Int32} {k : Nat} (h : ¬ B k = 0) : foC kd a mk B r (k + 1) = copR kd a (mk k) k (foC kd a mk B r k) := by rw [foC, if_neg h]
theorem addS_b {r : Nat → Int32} (h : bz5 r) (q : Int32) : bz5 (addS r q) := by
  intro j hj
  unfold addS
  split
  · exact h j hj
  · unfold upd
    split
    · exact Or.inr rfl
    · exact h j hj
theorem cpP_b {r : Nat → Int32} (h : bz5 r) (g : Nat → Int32) (k : Nat) : bz5 (cpP r g k) := by
  induction k with
  | zero => rw [cpP_0]; exact h
  | succ k ih => rw [cpP_s]; exact addS_b ih _
theorem copR_b {r : Nat → Int32} (h : bz5 r) (kd : Int32) (a : Nat → Int32) (mk : Int32) (c : Nat) : bz5 (copR kd a mk c r) := by
  unfold copR
  repeat' split
  · exact addS_b h _
  · exact cpP_b h _ _
  · exact cpP_b h _ _
  · exact h
theorem foC_b {kd : Int32} {a mk B r : Nat → Int32} (h : bz5 r) (k : Nat) : bz5 (foC kd a mk B r k) := by
  induction k with
  | zero => rw [foC_0]; exact h
  | succ k ih =>
    by_cases e : B k = 0
    · rw [foC_z e]; exact ih
    · rw [foC_s e]; exact copR_b ih _ _ _ _
def nmV (M : Mm) (N : Nat → Int32) (f q : Nat) : Int32 := if isqX M (q / 6) (q % 6) = true then (if N q = -1 then nI f else N q) else -1
/-- a feature carried out: Mb is the memory behind the fault -/
def carP (M : Mm) (f : Nat) (M1 : Mm) : Prop := mFr M M1 (fun t => t = 49 ∨ t = 54 ∨ t = 55 ∨ t = 56 ∨ t = 57 ∨ t = 67) ∧ ∃ w Mb, mFr M Mb (fun t => t = 49 ∨ t = 55 ∨ t = 57 ∨ t = 67) ∧ fauP M f w Mb ∧ mI M1 49 = upd (mI M 49) f w ∧
  ((¬ w = nI 45 ∧ mI M1 54 = mI M 54 ∧ mI M1 56 = mI M 56) ∨ (w = nI 45 ∧ (∃ r, (∀ j, j < 512 → r j = bsV Mb f j) ∧ (∀ j, j < 512 → mI M1 54 j = foC (mI Mb 45 f) (dmX Mb f) (mI Mb 57) (mI Mb 54) r 512 j)) ∧ bz5 (mI M1 54) ∧ ∀ q, q < 3072 → mI M1 56 q = nmV M1 (mI M 56) f q))
theorem fau_c {M M1 : Mm} {f : Nat} {w : Int32} (h : fauP M f w M1) : vp_nar .char w = w := by
  rcases h with h | h | h
  · rw [h.2]; decide
  · rw [h.2.2]; decide
  · obtain ⟨-, -, s, -, -, -, e⟩ := h
    rw [e]; unfold flE
    repeat' split
    all_goals decide
theorem dmX_c {M M' : Mm} (h43 : mI M' 43 = mI M 43) (h46 : mI M' 46 = mI M 46) (f : Nat) : dmX M' f = dmX M f := by
  funext w; unfold dmX; rw [h43, h46]
set_option maxRecDepth 100000 in
set_option maxHeartbeats 4000000 in
theorem c_X10_carries {l : Launch} {E : Ev} {M : Mm} {f : Nat} (hf : f < 40) (ht0 : ∀ w, w < 6 → mT (mI M 46 (6 * f + w)) = true) (hB0 : ∀ w, w < 6 → (dmX M f w).toInt ≤ 99) (h540 : bz5 (mI M 54)) : Ct l E yX10_carries cX10_carries 6 none 7 0 0 [.ref (eA E 12 0), .int (nI f)] M (fun v M1 => v = none ∧ carP M f M1) := by
  refine Ct.of (own := RX10) rfl [some (.ref (eA E 12 0)), some (.int (nI f)), none, none, none, none] (by decide) (Nat.le_of_ble_eq_true rfl) rfl ?_
  have T23 : ∀ Mb : Mm, mFr M Mb (fun t => t = 49 ∨ t = 55 ∨ t = 57 ∨ t = 67) → fauP M f (nI 45) Mb → mI Mb 49 = upd (mI M 49) f (nI 45) → Jd l E RX10 cX10_carries 6 none [] (rmm 7 0 0) (QfN E (fun v M1 => v = none ∧ carP M f M1) 0 0) 0 0 23 [some (.ref (eA E 12 0)), some (.int (nI f)), none, none, none, none] [] Mb := by
    intro Mb hfb hfa h49
    have h43 := hfb.2 43 (by omega)
    have h46 := hfb.2 46 (by omega)
    have h45 := hfb.2 45 (by omega)
    have hdm := dmX_c h43 h46 f
    have ht : ∀ w, w < 6 → mT (mI Mb 46 (6 * f + w)) = true := fun w hw => by rw [h46]; exact ht0 w hw
    have hB : ∀ w, w < 6 → (dmX Mb f w).toInt ≤ 99 := fun w hw => by rw [hdm]; exact hB0 w hw
    have h54 : bz5 (mI Mb 54) := by rw [hfb.2 54 (by omega)]; exact h540
    have hm : mI Mb 45 f = nI 109 → ∃ x, x < 3 ∧ dmX Mb f 0 = nI x := fun h => by
      rw [h45] at h
      rw [hdm]
      rcases hfa with q | q | q
      · exact absurd q.2 (by decide)
      · have e := q.1
        rw [uf_m h] at e
        exact in2_n (by revert e; cases in2 (dmX M f 0) <;> decide)
      · exact absurd (h.symm.trans q.2.1) (by decide)
    have he : mI Mb 45 f = nI 101 → ∃ s, s < 6 ∧ dmX Mb f 1 = nI s := fun h => by
      rw [h45] at h
      rw [hdm]
      rcases hfa with q | q | q
      · exact absurd q.2 (by decide)
      · exact absurd h q.2.1
      · obtain ⟨s, hs, hse, -⟩ := q.2.2
        exact ⟨s, hs, hse⟩
    obtain ⟨w, hw⟩ : ∃ w, w = 512 := ⟨512, rfl⟩
    obtain ⟨r, hr9⟩ : ∃ r, cpR (bsV Mb f) (mI Mb 55) w = r := ⟨_, rfl⟩
    have hr : ∀ j, j < 512 → r j = bsV Mb f j := fun j hj => by rw [← hr9]; exact cpR_lt (bsV Mb f) (mI Mb 55) (by omega)
    have hrb : bz5 r := fun j hj => by rw [hr j hj]; exact bsV_b h54 f j hj
    obtain ⟨u, hu⟩ : ∃ u, u = 3072 := ⟨3072, rfl⟩
    have hfin : ∀ t, ¬ (t = 49 ∨ t = 54 ∨ t = 55 ∨ t = 56 ∨ t = 57 ∨ t = 67) → mI (sI (sI (sI Mb 55 (foC (mI Mb 45 f) (dmX Mb f) (mI Mb 57) (mI Mb 54) r w)) 54 (cpR (foC (mI Mb 45 f) (dmX Mb f) (mI Mb 57) (mI Mb 54) r w) (mI Mb 54) w)) 56 (cpR (nmV (sI (sI Mb 55 (foC (mI Mb 45 f) (dmX Mb f) (mI Mb 57) (mI Mb 54) r w)) 54 (cpR (foC (mI Mb 45 f) (dmX Mb f) (mI Mb 57) (mI Mb 54) r w) (mI Mb 54) w)) (mI Mb 56) f) (mI Mb 56) u)) t = mI M t := fun t ht => by
      rw [mI_sI, if_neg (fun q => ht (by omega)), mI_sI, if_neg (fun q => ht (by omega)), mI_sI, if_neg (fun q => ht (by omega))]
      exact hfb.2 t (fun q => ht (by omega))
    have h54f : ∀ j, j < 512 → mI (sI (sI (sI Mb 55 (foC (mI Mb 45 f) (dmX Mb f) (mI Mb 57) (mI Mb 54) r w)) 54 (cpR (foC (mI Mb 45 f) (dmX Mb f) (mI Mb 57) (mI Mb 54) r w) (mI Mb 54) w)) 56 (cpR (nmV (sI (sI Mb 55 (foC (mI Mb 45 f) (dmX Mb f) (mI Mb 57) (mI Mb 54) r w)) 54 (cpR (foC (mI Mb 45 f) (dmX Mb f) (mI Mb 57) (mI Mb 54) r w) (mI Mb 54) w)) (mI Mb 56) f) (mI Mb 56) u)) 54 j = foC (mI Mb 45 f) (dmX Mb f) (mI Mb 57) (mI Mb 54) r 512 j := fun j hj => (cpR_lt (foC (mI Mb 45 f) (dmX Mb f) (mI Mb 57) (mI Mb 54) r w) (mI Mb 54) (by omega)).trans (by rw [hw])
    have hf49 : mI (sI (sI (sI Mb 55 (foC (mI Mb 45 f) (dmX Mb f) (mI Mb 57) (mI Mb 54) r w)) 54 (cpR (foC (mI Mb 45 f) (dmX Mb f) (mI Mb 57) (mI Mb 54) r w) (mI Mb 54) w)) 56 (cpR (nmV (sI (sI Mb 55 (foC (mI Mb 45 f) (dmX Mb f) (mI Mb 57) (mI Mb 54) r w)) 54 (cpR (foC (mI Mb 45 f) (dmX Mb f) (mI Mb 57) (mI Mb 54) r w) (mI Mb 54) w)) (mI Mb 56) f) (mI Mb 56) u)) 49 = upd (mI M 49) f (nI 45) := h49
    have h56f : ∀ q, q < 3072 → mI (sI (sI (sI Mb 55 (foC (mI Mb 45 f) (dmX Mb f) (mI Mb 57) (mI Mb 54) r w)) 54 (cpR (foC (mI Mb 45 f) (dmX Mb f) (mI Mb 57) (mI Mb 54) r w) (mI Mb 54) w)) 56 (cpR (nmV (sI (sI Mb 55 (foC (mI Mb 45 f) (dmX Mb f) (mI Mb 57) (mI Mb 54) r w)) 54 (cpR (foC (mI Mb 45 f) (dmX Mb f) (mI Mb 57) (mI Mb 54) r w) (mI Mb 54) w)) (mI Mb 56) f) (mI Mb 56) u)) 56 q = nmV (sI (sI (sI Mb 55 (foC (mI Mb 45 f) (dmX Mb f) (mI Mb 57) (mI Mb 54) r w)) 54 (cpR (foC (mI Mb 45 f) (dmX Mb f) (mI Mb 57) (mI Mb 54) r w) (mI Mb 54) w)) 56 (cpR (nmV (sI (sI Mb 55 (foC (mI Mb 45 f) (dmX Mb f) (mI Mb 57) (mI Mb 54) r w)) 54 (cpR (foC (mI Mb 45 f) (dmX Mb f) (mI Mb 57) (mI Mb 54) r w) (mI Mb 54) w)) (mI Mb 56) f) (mI Mb 56) u)) (mI M 56) f q := fun q hq => by
      rw [← hfb.2 56 (by omega)]
      exact cpR_lt (nmV (sI (sI Mb 55 (foC (mI Mb 45 f) (dmX Mb f) (mI Mb 57) (mI Mb 54) r w)) 54 (cpR (foC (mI Mb 45 f) (dmX Mb f) (mI Mb 57) (mI Mb 54) r w) (mI Mb 54) w)) (mI Mb 56) f) (mI Mb 56) (by omega)
    have K4 : ∀ i, i ≤ u → ∀ (o4 o5 : Option Value), Jd l E RX10 cX10_carries 6 none [] (rmm 7 0 0) (QfN E (fun v M1 => v = none ∧ carP M f M1) 0 0) 0 0 277 [some (.ref (eA E 12 0)), some (.int (nI f)), some (.int (mI Mb 45 f)), some (.int (nI i)), o4, o5] [] (sI (sI (sI Mb 55 (foC (mI Mb 45 f) (dmX Mb f) (mI Mb 57) (mI Mb 54) r w)) 54 (cpR (foC (mI Mb 45 f) (dmX Mb f) (mI Mb 57) (mI Mb 54) r w) (mI Mb 54) w)) 56 (cpR (nmV (sI (sI Mb 55 (foC (mI Mb 45 f) (dmX Mb f) (mI Mb 57) (mI Mb 54) r w)) 54 (cpR (foC (mI Mb 45 f) (dmX Mb f) (mI Mb 57) (mI Mb 54) r w) (mI Mb 54) w)) (mI Mb 56) f) (mI Mb 56) i)) := by
      refine up_to u _ ?_ (fun i hi ih => ?_)
      · intro o4 o5
        refine j_iln dX10_carries_277 rfl rfl ?_
        refine j_siN 3072 dX10_carries_278 rfl ?_
        refine j_icgeN (tgt := 339) dX10_carries_281 (by decide) (by omega) (by omega) (fun h281 => ?_) (fun h281 => ?_)
        · exact j_vret dX10_carries_339 rfl (Nat.le_of_ble_eq_true rfl) (Nat.le_of_ble_eq_true rfl) ⟨rfl, ⟨hfb.1, fun t ht => hfin t ht⟩, nI 45, Mb, hfb, hfa, hf49, Or.inr ⟨rfl, ⟨r, fun j hj => hr j hj, fun j hj => h54f j hj⟩, fun j hj => by rw [h54f j hj]; exact foC_b hrb 512 j hj, fun q hq => h56f q hq⟩⟩
        · exact absurd (Nat.le_of_eq hu.symm) h281
      · intro o4 o5
        refine j_iln dX10_carries_277 rfl rfl ?_
        refine j_siN 3072 dX10_carries_278 rfl ?_
        refine j_icgeN (tgt := 339) dX10_carries_281 (by decide) (by omega) (by omega) (fun h281 => ?_) (fun h281 => ?_)
        · exact absurd h281 (by omega)
        · refine j_aln dX10_carries_284 rfl rfl ?_
          refine j_iln dX10_carries_285 rfl rfl ?_
          refine j_biN 6 dX10_carries_286 rfl ?_
          refine j_idivN dX10_carries_288 (by omega) (by omega) (by omega) ?_
          refine j_iln dX10_carries_289 rfl rfl ?_
          refine j_biN 6 dX10_carries_290 rfl ?_
          refine j_iremN dX10_carries_292 (by omega) (by omega) (by omega) ?_
          refine j_V2d mf_X10_isSquare ml_X10_187 dX10_carries_293 (Nat.le_of_ble_eq_true rfl) (Nat.le_of_ble_eq_true rfl) (Nat.le_of_ble_eq_true rfl) ⟨(Nat.le_of_ble_eq_true rfl), (Nat.le_of_ble_eq_true rfl)⟩ (by first | assumption | decide | (simp only [nv] at *; omega)) rfl rfl (c_X10_isSquare (M := (sI (sI (sI Mb 55 (foC (mI Mb 45 f) (dmX Mb f) (mI Mb 57) (mI Mb 54) r w)) 54 (cpR (foC (mI Mb 45 f) (dmX Mb f) (mI Mb 57) (mI Mb 54) r w) (mI Mb 54) w)) 56 (cpR (nmV (sI (sI Mb 55 (foC (mI Mb 45 f) (dmX Mb f) (mI Mb 57) (mI Mb 54) r w)) 54 (cpR (foC (mI Mb 45 f) (dmX Mb f) (mI Mb 57) (mI Mb 54) r w) (mI Mb 54) w)) (mI Mb 56) f) (mI Mb 56) i))) (n := i / 6) (s := i % 6) (by omega) (by omega)) ?_
          refine j_ist_4 dX10_carries_296 (by decide) rfl ?_
          refine j_aln dX10_carries_298 rfl rfl ?_
          refine g_X10_23 dX10_carries_299 fl_X10_60 ?_
          refine j_iln dX10_carries_302 rfl rfl ?_
          refine j_il dX10_carries_303 rfl ?_
          refine j_ifne (tgt := 312) dX10_carries_305 (by decide) (fun h305 => ?_) (fun h305 => ?_)
          · have hq : isqX (sI (sI Mb 55 (foC (mI Mb 45 f) (dmX Mb f) (mI Mb 57) (mI Mb 54) r w)) 54 (cpR (foC (mI Mb 45 f) (dmX Mb f) (mI Mb 57) (mI Mb 54) r w) (mI Mb 54) w)) (i / 6) (i % 6) = true := bI_ne.mp h305
            refine j_aln dX10_carries_312 rfl rfl ?_
            refine g_X10_23 dX10_carries_313 fl_X10_60 ?_
            refine j_iln dX10_carries_316 rfl rfl ?_
            refine j_aildN dX10_carries_317 rfl rfl rfl (by decide) (by omega) ?_
            refine j_ic (v := (-1)) dX10_carries_318 (by decide) ?_
            refine j_icne (tgt := 326) dX10_carries_319 (by decide) (fun h319 => ?_) (fun h319 => ?_)
            · have h9 : ¬ mI Mb 56 i = -1 := fun q => h319 ((cpR_at (nmV (sI (sI Mb 55 (foC (mI Mb 45 f) (dmX Mb f) (mI Mb 57) (mI Mb 54) r w)) 54 (cpR (foC (mI Mb 45 f) (dmX Mb f) (mI Mb 57) (mI Mb 54) r w) (mI Mb 54) w)) (mI Mb 56) f) (mI Mb 56) i).trans q)
              have hv : mI (sI (sI (sI Mb 55 (foC (mI Mb 45 f) (dmX Mb f) (mI Mb 57) (mI Mb 54) r w)) 54 (cpR (foC (mI Mb 45 f) (dmX Mb f) (mI Mb 57) (mI Mb 54) r w) (mI Mb 54) w)) 56 (cpR (nmV (sI (sI Mb 55 (foC (mI Mb 45 f) (dmX Mb f) (mI Mb 57) (mI Mb 54) r w)) 54 (cpR (foC (mI Mb 45 f) (dmX Mb f) (mI Mb 57) (mI Mb 54) r w) (mI Mb 54) w)) (mI Mb 56) f) (mI Mb 56) i)) 56 i = nmV (sI (sI Mb 55 (foC (mI Mb 45 f) (dmX Mb f) (mI Mb 57) (mI Mb 54) r w)) 54 (cpR (foC (mI Mb 45 f) (dmX Mb f) (mI Mb 57) (mI Mb 54) r w) (mI Mb 54) w)) (mI Mb 56) f i := by unfold nmV; rw [if_pos hq, if_neg h9]; exact (cpR_at (nmV (sI (sI Mb 55 (foC (mI Mb 45 f) (dmX Mb f) (mI Mb 57) (mI Mb 54) r w)) 54 (cpR (foC (mI Mb 45 f) (dmX Mb f) (mI Mb 57) (mI Mb 54) r w) (mI Mb 54) w)) (mI Mb 56) f) (mI Mb 56) i)
              refine j_aln dX10_carries_326 rfl rfl ?_
              refine g_X10_23 dX10_carries_327 fl_X10_60 ?_
              refine j_iln dX10_carries_330 rfl rfl ?_
              refine j_aildN dX10_carries_331 rfl rfl rfl (by decide) (by omega) ?_
              refine j_topi hv ?_
              refine j_aistN dX10_carries_332 rfl (fun _ => rfl) rfl (by decide) (by omega) ?_
              refine j_incN_3 1 dX10_carries_333 rfl (by decide) rfl ?_
              refine j_goto (tgt := 277) dX10_carries_336 (by decide) ?_
              refine j_mem ?_ (ih _ _)
              rw [cpR_s, sI_sI]
              rfl
            · have h9 : mI Mb 56 i = -1 := (cpR_at (nmV (sI (sI Mb 55 (foC (mI Mb 45 f) (dmX Mb f) (mI Mb 57) (mI Mb 54) r w)) 54 (cpR (foC (mI Mb 45 f) (dmX Mb f) (mI Mb 57) (mI Mb 54) r w) (mI Mb 54) w)) (mI Mb 56) f) (mI Mb 56) i).symm.trans h319
              have hv : nI f = nmV (sI (sI Mb 55 (foC (mI Mb 45 f) (dmX Mb f) (mI Mb 57) (mI Mb 54) r w)) 54 (cpR (foC (mI Mb 45 f) (dmX Mb f) (mI Mb 57) (mI Mb 54) r w) (mI Mb 54) w)) (mI Mb 56) f i := by unfold nmV; rw [if_pos hq, if_pos h9]
              refine j_iln dX10_carries_322 rfl rfl ?_
              refine j_goto (tgt := 332) dX10_carries_323 (by decide) ?_
              refine j_topi hv ?_
              refine j_aistN dX10_carries_332 rfl (fun _ => rfl) rfl (by decide) (by omega) ?_
              refine j_incN_3 1 dX10_carries_333 rfl (by decide) rfl ?_
              refine j_goto (tgt := 277) dX10_carries_336 (by decide) ?_
              refine j_mem ?_ (ih _ _)
              rw [cpR_s, sI_sI]
              rfl
          · have hv : (-1 : Int32) = nmV (sI (sI Mb 55 (foC (mI Mb 45 f) (dmX Mb f) (mI Mb 57) (mI Mb 54) r w)) 54 (cpR (foC (mI Mb 45 f) (dmX Mb f) (mI Mb 57) (mI Mb 54) r w) (mI Mb 54) w)) (mI Mb 56) f i := by unfold nmV; rw [if_neg (by rw [show isqX (sI (sI Mb 55 (foC (mI Mb 45 f) (dmX Mb f) (mI Mb 57) (mI Mb 54) r w)) 54 (cpR (foC (mI Mb 45 f) (dmX Mb f) (mI Mb 57) (mI Mb 54) r w) (mI Mb 54) w)) (i / 6) (i % 6) = false from bI_eq.mp h305]; decide)]
            refine j_ic (v := (-1)) dX10_carries_308 (by decide) ?_
            refine j_goto (tgt := 332) dX10_carries_309 (by decide) ?_
            refine j_topi hv ?_
            refine j_aistN dX10_carries_332 rfl (fun _ => rfl) rfl (by decide) (by omega) ?_
            refine j_incN_3 1 dX10_carries_333 rfl (by decide) rfl ?_
            refine j_goto (tgt := 277) dX10_carries_336 (by decide) ?_
            refine j_mem ?_ (ih _ _)
            rw [cpR_s, sI_sI]
            rfl
    have K3 : ∀ i, i ≤ w → ∀ (o4 o5 : Option Value), Jd l E RX10 cX10_carries 6 none [] (rmm 7 0 0) (QfN E (fun v M1 => v = none ∧ carP M f M1) 0 0) 0 0 250 [some (.ref (eA E 12 0)), some (.int (nI f)), some (.int (mI Mb 45 f)), some (.int (nI i)), o4, o5] [] (sI (sI Mb 55 (foC (mI Mb 45 f) (dmX Mb f) (mI Mb 57) (mI Mb 54) r w)) 54 (cpR (foC (mI Mb 45 f) (dmX Mb f) (mI Mb 57) (mI Mb 54) r w) (mI Mb 54) i)) := by
      refine up_to w _ ?_ (fun i hi ih => ?_)
      · intro o4 o5
        refine j_iln dX10_carries_250 rfl rfl ?_
        refine j_siN 512 dX10_carries_251 rfl ?_
        refine j_icgeN (tgt := 275) dX10_carries_254 (by decide) (by omega) (by omega) (fun h254 => ?_) (fun h254 => ?_)
        · refine j_icN 0 dX10_carries_275 rfl ?_
          refine j_ist_3 dX10_carries_276 (by decide) rfl ?_
          have K0 := K4 0 (by omega) o4 o5
          rw [cpR_0] at K0
          refine j_mem ?_ K0
          exact (sI_id (sI (sI Mb 55 (foC (mI Mb 45 f) (dmX Mb f) (mI Mb 57) (mI Mb 54) r w)) 54 (cpR (foC (mI Mb 45 f) (dmX Mb f) (mI Mb 57) (mI Mb 54) r w) (mI Mb 54) w)) 56).symm
        · exact absurd (Nat.le_of_eq hw.symm) h254
      · intro o4 o5
        have hi5 : i < 512 := by omega
        refine j_iln dX10_carries_250 rfl rfl ?_
        refine j_siN 512 dX10_carries_251 rfl ?_
        refine j_icgeN (tgt := 275) dX10_carries_254 (by decide) (by omega) (by omega) (fun h254 => ?_) (fun h254 => ?_)
        · exact absurd h254 (by omega)
        · refine j_aln dX10_carries_257 rfl rfl ?_
          refine g_X10_21 dX10_carries_258 fl_X10_54 ?_
          refine j_iln dX10_carries_261 rfl rfl ?_
          refine j_aln dX10_carries_262 rfl rfl ?_
          refine g_X10_22 dX10_carries_263 fl_X10_57 ?_
          refine j_iln dX10_carries_266 rfl rfl ?_
          refine j_azldN dX10_carries_267 rfl rfl rfl (by decide) (by omega) ?_
          refine j_azstN dX10_carries_268 rfl (fun _ => rfl) rfl (by decide) (by omega) (vpb (foC_b hrb w i hi5)) ?_
          refine j_incN_3 1 dX10_carries_269 rfl (by decide) rfl ?_
          refine j_goto (tgt := 250) dX10_carries_272 (by decide) ?_
          refine j_mem ?_ (ih _ _)
          rw [cpR_s, sI_sI]
          rfl
    have K2 : ∀ i, i ≤ w → ∀ (o4 o5 : Option Value), Jd l E RX10 cX10_carries 6 none [] (rmm 7 0 0) (QfN E (fun v M1 => v = none ∧ carP M f M1) 0 0) 0 0 220 [some (.ref (eA E 12 0)), some (.int (nI f)), some (.int (mI Mb 45 f)), some (.int (nI i)), o4, o5] [] (sI Mb 55 (foC (mI Mb 45 f) (dmX Mb f) (mI Mb 57) (mI Mb 54) r i)) := by
      refine up_to w _ ?_ (fun i hi ih => ?_)
      · intro o4 o5
        refine j_iln dX10_carries_220 rfl rfl ?_
        refine j_siN 512 dX10_carries_221 rfl ?_
        refine j_icgeN (tgt := 248) dX10_carries_224 (by decide) (by omega) (by omega) (fun h224 => ?_) (fun h224 => ?_)
        · refine j_icN 0 dX10_carries_248 rfl ?_
          refine j_ist_3 dX10_carries_249 (by decide) rfl ?_
          have K0 := K3 0 (by omega) o4 o5
          rw [cpR_0] at K0
          refine j_mem ?_ K0
          exact (sI_id (sI Mb 55 (foC (mI Mb 45 f) (dmX Mb f) (mI Mb 57) (mI Mb 54) r w)) 54).symm
        · exact absurd (Nat.le_of_eq hw.symm) h224
      · intro o4 o5
        have hi5 : i < 512 := by omega
        refine j_iln dX10_carries_220 rfl rfl ?_
        refine j_siN 512 dX10_carries_221 rfl ?_
        refine j_icgeN (tgt := 248) dX10_carries_224 (by decide) (by omega) (by omega) (fun h224 => ?_) (fun h224 => ?_)
        · exact absurd h224 (by omega)
        · refine j_aln dX10_carries_227 rfl rfl ?_
          refine g_X10_21 dX10_carries_228 fl_X10_54 ?_
          refine j_iln dX10_carries_231 rfl rfl ?_
          refine j_azldN dX10_carries_232 rfl rfl rfl (by decide) (by omega) ?_
          refine j_ifeq (tgt := 242) dX10_carries_233 (by decide) (fun h233 => ?_) (fun h233 => ?_)
          · have hg := foC_z (kd := (mI Mb 45 f)) (a := dmX Mb f) (mk := mI Mb 57) (r := r) (B := mI Mb 54) h233
            refine j_incN_3 1 dX10_carries_242 rfl (by decide) rfl ?_
            refine j_goto (tgt := 220) dX10_carries_245 (by decide) ?_
            refine j_mem ?_ (ih _ _)
            rw [hg]
            first | done | (rw [sI_sI]; rfl)
          · have hg := foC_s (kd := (mI Mb 45 f)) (a := dmX Mb f) (mk := mI Mb 57) (r := r) (B := mI Mb 54) h233
            refine j_aln dX10_carries_236 rfl rfl ?_
            refine j_iln dX10_carries_237 rfl rfl ?_
            refine j_iln dX10_carries_238 rfl rfl ?_
            refine j_V2n mf_X10_copies ml_X10_211 dX10_carries_239 (Nat.le_of_ble_eq_true rfl) (Nat.le_of_ble_eq_true rfl) (Nat.le_of_ble_eq_true rfl) ⟨(Nat.le_of_ble_eq_true rfl), (Nat.le_of_ble_eq_true rfl)⟩ (by first | assumption | decide | (simp only [nv] at *; omega)) rfl rfl (c_X10_copies (M := (sI Mb 55 (foC (mI Mb 45 f) (dmX Mb f) (mI Mb 57) (mI Mb 54) r i))) hf hi5 ht hB hm (fun h _ => he h)) ?_
            refine j_incN_3 1 dX10_carries_242 rfl (by decide) rfl ?_
            refine j_goto (tgt := 220) dX10_carries_245 (by decide) ?_
            refine j_mem ?_ (ih _ _)
            rw [hg]
            first | done | (rw [sI_sI]; rfl)
    have K1 : ∀ i, i ≤ w → ∀ (o4 o5 : Option Value), Jd l E RX10 cX10_carries 6 none [] (rmm 7 0 0) (QfN E (fun v M1 => v = none ∧ carP M f M1) 0 0) 0 0 32 [some (.ref (eA E 12 0)), some (.int (nI f)), some (.int (mI Mb 45 f)), some (.int (nI i)), o4, o5] [] (sI Mb 55 (cpR (bsV Mb f) (mI Mb 55) i)) := by
      refine up_to w _ ?_ (fun i hi ih => ?_)
      · intro o4 o5
        refine j_iln dX10_carries_32 rfl rfl ?_
        refine j_siN 512 dX10_carries_33 rfl ?_
        refine j_icgeN (tgt := 218) dX10_carries_36 (by decide) (by omega) (by omega) (fun h36 => ?_) (fun h36 => ?_)
        · refine j_icN 0 dX10_carries_218 rfl ?_
          refine j_ist_3 dX10_carries_219 (by decide) rfl ?_
          have K0 := K2 0 (by omega) o4 o5
          rw [foC_0] at K0
          rw [← hr9] at K0; exact K0
        · exact absurd (Nat.le_of_eq hw.symm) h36
      · intro o4 o5
        have hi5 : i < 512 := by omega
        have T85 : ∀ (c : Bool) (x4 : Int32), (bxK (mI Mb 45 f) → c = ibK Mb i f 3) → Jd l E RX10 cX10_carries 6 none [] (rmm 7 0 0) (QfN E (fun v M1 => v = none ∧ carP M f M1) 0 0) 0 0 85 [some (.ref (eA E 12 0)), some (.int (nI f)), some (.int (mI Mb 45 f)), some (.int (nI i)), some (.int x4), some (.int (bI c))] [] (sI Mb 55 (cpR (bsV Mb f) (mI Mb 55) i)) := by
          intro c x4 hc
          refine j_aln dX10_carries_85 rfl rfl ?_
          refine g_X10_22 dX10_carries_86 fl_X10_57 ?_
          refine j_iln dX10_carries_89 rfl rfl ?_
          refine j_iln dX10_carries_90 rfl rfl ?_
          refine j_biN 98 dX10_carries_91 rfl ?_
          refine j_icne (tgt := 118) dX10_carries_93 (by decide) (fun h93 => ?_) (fun h93 => ?_)
          · refine j_iln dX10_carries_118 rfl rfl ?_
            refine j_biN 99 dX10_carries_119 rfl ?_
            refine j_icne (tgt := 146) dX10_carries_121 (by decide) (fun h121 => ?_) (fun h121 => ?_)
            · refine j_iln dX10_carries_146 rfl rfl ?_
              refine j_biN 105 dX10_carries_147 rfl ?_
              refine j_icne (tgt := 174) dX10_carries_149 (by decide) (fun h149 => ?_) (fun h149 => ?_)
              · refine j_iln dX10_carries_174 rfl rfl ?_
                refine j_biN 104 dX10_carries_175 rfl ?_
                refine j_icne (tgt := 205) dX10_carries_177 (by decide) (fun h177 => ?_) (fun h177 => ?_)
                · have hv : mI Mb 54 i = bsV Mb f i := (bsO h93 h121 h149 h177).symm
                  refine j_aln dX10_carries_205 rfl rfl ?_
                  refine g_X10_21 dX10_carries_206 fl_X10_54 ?_
                  refine j_iln dX10_carries_209 rfl rfl ?_
                  refine j_azldN dX10_carries_210 rfl rfl rfl (by decide) (by omega) ?_
                  refine j_topi hv ?_
                  refine j_azstN dX10_carries_211 rfl (fun _ => rfl) rfl (by decide) (by omega) (vpb (bsV_b h54 f i hi5)) ?_
                  refine j_incN_3 1 dX10_carries_212 rfl (by decide) rfl ?_
                  refine j_goto (tgt := 32) dX10_carries_215 (by decide) ?_
                  refine j_mem ?_ (ih _ _)
                  rw [cpR_s, sI_sI]
                  rfl
                · refine j_aln dX10_carries_180 rfl rfl ?_
                  refine g_X10_21 dX10_carries_181 fl_X10_54 ?_
                  refine j_iln dX10_carries_184 rfl rfl ?_
                  refine j_azldN dX10_carries_185 rfl rfl rfl (by decide) (by omega) ?_
                  refine j_ifeq (tgt := 201) dX10_carries_186 (by decide) (fun h186 => ?_) (fun h186 => ?_)
                  · have hv : nI 0 = bsV Mb f i := by rw [bs104 h177, show decide (¬ mI Mb 54 i = 0) = false from decide_eq_false (fun q => q h186)]; rfl
                    refine j_icN 0 dX10_carries_201 rfl ?_
                    refine j_goto (tgt := 211) dX10_carries_202 (by decide) ?_
                    refine j_topi hv ?_
                    refine j_azstN dX10_carries_211 rfl (fun _ => rfl) rfl (by decide) (by omega) (vpb (bsV_b h54 f i hi5)) ?_
                    refine j_incN_3 1 dX10_carries_212 rfl (by decide) rfl ?_
                    refine j_goto (tgt := 32) dX10_carries_215 (by decide) ?_
                    refine j_mem ?_ (ih _ _)
                    rw [cpR_s, sI_sI]
                    rfl
                  · refine j_aln dX10_carries_189 rfl rfl ?_
                    refine j_iln dX10_carries_190 rfl rfl ?_
                    refine j_V1d mf_X10_isInside ml_X10_208 dX10_carries_191 (Nat.le_of_ble_eq_true rfl) (Nat.le_of_ble_eq_true rfl) (Nat.le_of_ble_eq_true rfl) ⟨(Nat.le_of_ble_eq_true rfl), (Nat.le_of_ble_eq_true rfl)⟩ (by first | assumption | decide | (simp only [nv] at *; omega)) rfl rfl (c_X10_isInside (M := (sI Mb 55 (cpR (bsV Mb f) (mI Mb 55) i))) hi5) ?_
                    refine j_ifne (tgt := 201) dX10_carries_194 (by decide) (fun h194 => ?_) (fun h194 => ?_)
                    · have hv : nI 0 = bsV Mb f i := by rw [bs104 h177, show decide (¬ mI Mb 54 i = 0) = true from decide_eq_true h186, show inM Mb i 6 = true from bI_ne.mp h194]; rfl
                      refine j_icN 0 dX10_carries_201 rfl ?_
                      refine j_goto (tgt := 211) dX10_carries_202 (by decide) ?_
                      refine j_topi hv ?_
                      refine j_azstN dX10_carries_211 rfl (fun _ => rfl) rfl (by decide) (by omega) (vpb (bsV_b h54 f i hi5)) ?_
                      refine j_incN_3 1 dX10_carries_212 rfl (by decide) rfl ?_
                      refine j_goto (tgt := 32) dX10_carries_215 (by decide) ?_
                      refine j_mem ?_ (ih _ _)
                      rw [cpR_s, sI_sI]
                      rfl
                    · have hv : nI 1 = bsV Mb f i := by rw [bs104 h177, show decide (¬ mI Mb 54 i = 0) = true from decide_eq_true h186, show inM Mb i 6 = false from bI_eq.mp h194]; rfl
                      refine j_icN 1 dX10_carries_197 rfl ?_
                      refine j_goto (tgt := 211) dX10_carries_198 (by decide) ?_
                      refine j_topi hv ?_
                      refine j_azstN dX10_carries_211 rfl (fun _ => rfl) rfl (by decide) (by omega) (vpb (bsV_b h54 f i hi5)) ?_
                      refine j_incN_3 1 dX10_carries_212 rfl (by decide) rfl ?_
                      refine j_goto (tgt := 32) dX10_carries_215 (by decide) ?_
                      refine j_mem ?_ (ih _ _)
                      rw [cpR_s, sI_sI]
                      rfl
              · refine j_aln dX10_carries_152 rfl rfl ?_
                refine g_X10_21 dX10_carries_153 fl_X10_54 ?_
                refine j_iln dX10_carries_156 rfl rfl ?_
                refine j_azldN dX10_carries_157 rfl rfl rfl (by decide) (by omega) ?_
                refine j_ifeq (tgt := 170) dX10_carries_158 (by decide) (fun h158 => ?_) (fun h158 => ?_)
                · have hv : nI 0 = bsV Mb f i := by rw [bs105 h149, show decide (¬ mI Mb 54 i = 0) = false from decide_eq_false (fun q => q h158)]; rfl
                  refine j_icN 0 dX10_carries_170 rfl ?_
                  refine j_goto (tgt := 211) dX10_carries_171 (by decide) ?_
                  refine j_topi hv ?_
                  refine j_azstN dX10_carries_211 rfl (fun _ => rfl) rfl (by decide) (by omega) (vpb (bsV_b h54 f i hi5)) ?_
                  refine j_incN_3 1 dX10_carries_212 rfl (by decide) rfl ?_
                  refine j_goto (tgt := 32) dX10_carries_215 (by decide) ?_
                  refine j_mem ?_ (ih _ _)
                  rw [cpR_s, sI_sI]
                  rfl
                · refine j_il dX10_carries_161 rfl ?_
                  refine j_ifeq (tgt := 170) dX10_carries_163 (by decide) (fun h163 => ?_) (fun h163 => ?_)
                  · have hv : nI 0 = bsV Mb f i := by rw [bs105 h149, show decide (¬ mI Mb 54 i = 0) = true from decide_eq_true h158, ← hc (Or.inr (Or.inr h149)), bI_eq.mp h163]; rfl
                    refine j_icN 0 dX10_carries_170 rfl ?_
                    refine j_goto (tgt := 211) dX10_carries_171 (by decide) ?_
                    refine j_topi hv ?_
                    refine j_azstN dX10_carries_211 rfl (fun _ => rfl) rfl (by decide) (by omega) (vpb (bsV_b h54 f i hi5)) ?_
                    refine j_incN_3 1 dX10_carries_212 rfl (by decide) rfl ?_
                    refine j_goto (tgt := 32) dX10_carries_215 (by decide) ?_
                    refine j_mem ?_ (ih _ _)
                    rw [cpR_s, sI_sI]
                    rfl
                  · have hv : nI 1 = bsV Mb f i := by rw [bs105 h149, show decide (¬ mI Mb 54 i = 0) = true from decide_eq_true h158, ← hc (Or.inr (Or.inr h149)), bI_ne.mp h163]; rfl
                    refine j_icN 1 dX10_carries_166 rfl ?_
                    refine j_goto (tgt := 211) dX10_carries_167 (by decide) ?_
                    refine j_topi hv ?_
                    refine j_azstN dX10_carries_211 rfl (fun _ => rfl) rfl (by decide) (by omega) (vpb (bsV_b h54 f i hi5)) ?_
                    refine j_incN_3 1 dX10_carries_212 rfl (by decide) rfl ?_
                    refine j_goto (tgt := 32) dX10_carries_215 (by decide) ?_
                    refine j_mem ?_ (ih _ _)
                    rw [cpR_s, sI_sI]
                    rfl
            · refine j_aln dX10_carries_124 rfl rfl ?_
              refine g_X10_21 dX10_carries_125 fl_X10_54 ?_
              refine j_iln dX10_carries_128 rfl rfl ?_
              refine j_azldN dX10_carries_129 rfl rfl rfl (by decide) (by omega) ?_
              refine j_ifeq (tgt := 142) dX10_carries_130 (by decide) (fun h130 => ?_) (fun h130 => ?_)
              · have hv : nI 0 = bsV Mb f i := by rw [bs99 h121, show decide (¬ mI Mb 54 i = 0) = false from decide_eq_false (fun q => q h130)]; rfl
                refine j_icN 0 dX10_carries_142 rfl ?_
                refine j_goto (tgt := 211) dX10_carries_143 (by decide) ?_
                refine j_topi hv ?_
                refine j_azstN dX10_carries_211 rfl (fun _ => rfl) rfl (by decide) (by omega) (vpb (bsV_b h54 f i hi5)) ?_
                refine j_incN_3 1 dX10_carries_212 rfl (by decide) rfl ?_
                refine j_goto (tgt := 32) dX10_carries_215 (by decide) ?_
                refine j_mem ?_ (ih _ _)
                rw [cpR_s, sI_sI]
                rfl
              · refine j_il dX10_carries_133 rfl ?_
                refine j_ifne (tgt := 142) dX10_carries_135 (by decide) (fun h135 => ?_) (fun h135 => ?_)
                · have hv : nI 0 = bsV Mb f i := by rw [bs99 h121, show decide (¬ mI Mb 54 i = 0) = true from decide_eq_true h130, ← hc (Or.inr (Or.inl h121)), bI_ne.mp h135]; rfl
                  refine j_icN 0 dX10_carries_142 rfl ?_
                  refine j_goto (tgt := 211) dX10_carries_143 (by decide) ?_
                  refine j_topi hv ?_
                  refine j_azstN dX10_carries_211 rfl (fun _ => rfl) rfl (by decide) (by omega) (vpb (bsV_b h54 f i hi5)) ?_
                  refine j_incN_3 1 dX10_carries_212 rfl (by decide) rfl ?_
                  refine j_goto (tgt := 32) dX10_carries_215 (by decide) ?_
                  refine j_mem ?_ (ih _ _)
                  rw [cpR_s, sI_sI]
                  rfl
                · have hv : nI 1 = bsV Mb f i := by rw [bs99 h121, show decide (¬ mI Mb 54 i = 0) = true from decide_eq_true h130, ← hc (Or.inr (Or.inl h121)), bI_eq.mp h135]; rfl
                  refine j_icN 1 dX10_carries_138 rfl ?_
                  refine j_goto (tgt := 211) dX10_carries_139 (by decide) ?_
                  refine j_topi hv ?_
                  refine j_azstN dX10_carries_211 rfl (fun _ => rfl) rfl (by decide) (by omega) (vpb (bsV_b h54 f i hi5)) ?_
                  refine j_incN_3 1 dX10_carries_212 rfl (by decide) rfl ?_
                  refine j_goto (tgt := 32) dX10_carries_215 (by decide) ?_
                  refine j_mem ?_ (ih _ _)
                  rw [cpR_s, sI_sI]
                  rfl
          · refine j_aln dX10_carries_96 rfl rfl ?_
            refine g_X10_21 dX10_carries_97 fl_X10_54 ?_
            refine j_iln dX10_carries_100 rfl rfl ?_
            refine j_azldN dX10_carries_101 rfl rfl rfl (by decide) (by omega) ?_
            refine j_ifne (tgt := 110) dX10_carries_102 (by decide) (fun h102 => ?_) (fun h102 => ?_)
            · have hv : nI 1 = bsV Mb f i := by rw [bs98 h93, show decide (¬ mI Mb 54 i = 0) = true from decide_eq_true h102]; rfl
              refine j_icN 1 dX10_carries_110 rfl ?_
              refine j_goto (tgt := 211) dX10_carries_111 (by decide) ?_
              refine j_topi hv ?_
              refine j_azstN dX10_carries_211 rfl (fun _ => rfl) rfl (by decide) (by omega) (vpb (bsV_b h54 f i hi5)) ?_
              refine j_incN_3 1 dX10_carries_212 rfl (by decide) rfl ?_
              refine j_goto (tgt := 32) dX10_carries_215 (by decide) ?_
              refine j_mem ?_ (ih _ _)
              rw [cpR_s, sI_sI]
              rfl
            · refine j_il dX10_carries_105 rfl ?_
              refine j_ifeq (tgt := 114) dX10_carries_107 (by decide) (fun h107 => ?_) (fun h107 => ?_)
              · have hv : nI 0 = bsV Mb f i := by rw [bs98 h93, show decide (¬ mI Mb 54 i = 0) = false from decide_eq_false (fun q => q h102), ← hc (Or.inl h93), bI_eq.mp h107]; rfl
                refine j_icN 0 dX10_carries_114 rfl ?_
                refine j_goto (tgt := 211) dX10_carries_115 (by decide) ?_
                refine j_topi hv ?_
                refine j_azstN dX10_carries_211 rfl (fun _ => rfl) rfl (by decide) (by omega) (vpb (bsV_b h54 f i hi5)) ?_
                refine j_incN_3 1 dX10_carries_212 rfl (by decide) rfl ?_
                refine j_goto (tgt := 32) dX10_carries_215 (by decide) ?_
                refine j_mem ?_ (ih _ _)
                rw [cpR_s, sI_sI]
                rfl
              · have hv : nI 1 = bsV Mb f i := by rw [bs98 h93, show decide (¬ mI Mb 54 i = 0) = false from decide_eq_false (fun q => q h102), ← hc (Or.inl h93), bI_ne.mp h107]; rfl
                refine j_icN 1 dX10_carries_110 rfl ?_
                refine j_goto (tgt := 211) dX10_carries_111 (by decide) ?_
                refine j_topi hv ?_
                refine j_azstN dX10_carries_211 rfl (fun _ => rfl) rfl (by decide) (by omega) (vpb (bsV_b h54 f i hi5)) ?_
                refine j_incN_3 1 dX10_carries_212 rfl (by decide) rfl ?_
                refine j_goto (tgt := 32) dX10_carries_215 (by decide) ?_
                refine j_mem ?_ (ih _ _)
                rw [cpR_s, sI_sI]
                rfl
        refine j_iln dX10_carries_32 rfl rfl ?_
        refine j_siN 512 dX10_carries_33 rfl ?_
        refine j_icgeN (tgt := 218) dX10_carries_36 (by decide) (by omega) (by omega) (fun h36 => ?_) (fun h36 => ?_)
        · exact absurd h36 (by omega)
        · refine j_iln dX10_carries_39 rfl rfl ?_
          refine j_biN 98 dX10_carries_40 rfl ?_
          refine j_iceq (tgt := 57) dX10_carries_42 (by decide) (fun h42 => ?_) (fun h42 => ?_)
          · refine j_icN 1 dX10_carries_57 rfl ?_
            refine j_goto (tgt := 62) dX10_carries_58 (by decide) ?_
            refine j_ist_4 dX10_carries_62 (by decide) rfl ?_
            refine j_il dX10_carries_64 rfl ?_
            refine j_ifeqN (tgt := 82) dX10_carries_66 (by decide) (by omega) (fun h66 => ?_) (fun h66 => ?_)
            · exact absurd h66 (by decide)
            · refine j_aln dX10_carries_69 rfl rfl ?_
              refine j_iln dX10_carries_70 rfl rfl ?_
              refine j_iln dX10_carries_71 rfl rfl ?_
              refine j_V2d mf_X10_isInBox ml_X10_205 dX10_carries_72 (Nat.le_of_ble_eq_true rfl) (Nat.le_of_ble_eq_true rfl) (Nat.le_of_ble_eq_true rfl) ⟨(Nat.le_of_ble_eq_true rfl), (Nat.le_of_ble_eq_true rfl)⟩ (by first | assumption | decide | (simp only [nv] at *; omega)) rfl rfl (c_X10_isInBox (M := (sI Mb 55 (cpR (bsV Mb f) (mI Mb 55) i))) hi5 hf ht) ?_
              refine j_ifeq (tgt := 82) dX10_carries_75 (by decide) (fun h75 => ?_) (fun h75 => ?_)
              · have hb : ibK Mb i f 3 = false := bI_eq.mp h75
                refine j_icN 0 dX10_carries_82 rfl ?_
                refine j_ist_5 dX10_carries_83 (by decide) rfl ?_
                first | exact T85 false _ (fun _ => hb.symm) | exact T85 true _ (fun _ => hb.symm)
              · have hb : ibK Mb i f 3 = true := bI_ne.mp h75
                refine j_icN 1 dX10_carries_78 rfl ?_
                refine j_goto (tgt := 83) dX10_carries_79 (by decide) ?_
                refine j_ist_5 dX10_carries_83 (by decide) rfl ?_
                first | exact T85 false _ (fun _ => hb.symm) | exact T85 true _ (fun _ => hb.symm)
          · refine j_iln dX10_carries_45 rfl rfl ?_
            refine j_biN 99 dX10_carries_46 rfl ?_
            refine j_iceq (tgt := 57) dX10_carries_48 (by decide) (fun h48 => ?_) (fun h48 => ?_)
            · refine j_icN 1 dX10_carries_57 rfl ?_
              refine j_goto (tgt := 62) dX10_carries_58 (by decide) ?_
              refine j_ist_4 dX10_carries_62 (by decide) rfl ?_
              refine j_il dX10_carries_64 rfl ?_
              refine j_ifeqN (tgt := 82) dX10_carries_66 (by decide) (by omega) (fun h66 => ?_) (fun h66 => ?_)
              · exact absurd h66 (by decide)
              · refine j_aln dX10_carries_69 rfl rfl ?_
                refine j_iln dX10_carries_70 rfl rfl ?_
                refine j_iln dX10_carries_71 rfl rfl ?_
                refine j_V2d mf_X10_isInBox ml_X10_205 dX10_carries_72 (Nat.le_of_ble_eq_true rfl) (Nat.le_of_ble_eq_true rfl) (Nat.le_of_ble_eq_true rfl) ⟨(Nat.le_of_ble_eq_true rfl), (Nat.le_of_ble_eq_true rfl)⟩ (by first | assumption | decide | (simp only [nv] at *; omega)) rfl rfl (c_X10_isInBox (M := (sI Mb 55 (cpR (bsV Mb f) (mI Mb 55) i))) hi5 hf ht) ?_
                refine j_ifeq (tgt := 82) dX10_carries_75 (by decide) (fun h75 => ?_) (fun h75 => ?_)
                · have hb : ibK Mb i f 3 = false := bI_eq.mp h75
                  refine j_icN 0 dX10_carries_82 rfl ?_
                  refine j_ist_5 dX10_carries_83 (by decide) rfl ?_
                  first | exact T85 false _ (fun _ => hb.symm) | exact T85 true _ (fun _ => hb.symm)
                · have hb : ibK Mb i f 3 = true := bI_ne.mp h75
                  refine j_icN 1 dX10_carries_78 rfl ?_
                  refine j_goto (tgt := 83) dX10_carries_79 (by decide) ?_
                  refine j_ist_5 dX10_carries_83 (by decide) rfl ?_
                  first | exact T85 false _ (fun _ => hb.symm) | exact T85 true _ (fun _ => hb.symm)
            · refine j_iln dX10_carries_51 rfl rfl ?_
              refine j_biN 105 dX10_carries_52 rfl ?_
              refine j_icne (tgt := 61) dX10_carries_54 (by decide) (fun h54 => ?_) (fun h54 => ?_)
              · have h54x := h54
                refine j_icN 0 dX10_carries_61 rfl ?_
                refine j_ist_4 dX10_carries_62 (by decide) rfl ?_
                refine j_il dX10_carries_64 rfl ?_
                refine j_ifeqN (tgt := 82) dX10_carries_66 (by decide) (by omega) (fun h66 => ?_) (fun h66 => ?_)
                · refine j_icN 0 dX10_carries_82 rfl ?_
                  refine j_ist_5 dX10_carries_83 (by decide) rfl ?_
                  exact T85 false _ (fun q => (q.elim h42 (fun q => q.elim h48 h54x)).elim)
                · exact absurd rfl h66
              · refine j_icN 1 dX10_carries_57 rfl ?_
                refine j_goto (tgt := 62) dX10_carries_58 (by decide) ?_
                refine j_ist_4 dX10_carries_62 (by decide) rfl ?_
                refine j_il dX10_carries_64 rfl ?_
                refine j_ifeqN (tgt := 82) dX10_carries_66 (by decide) (by omega) (fun h66 => ?_) (fun h66 => ?_)
                · exact absurd h66 (by decide)
                · refine j_aln dX10_carries_69 rfl rfl ?_
                  refine j_iln dX10_carries_70 rfl rfl ?_
                  refine j_iln dX10_carries_71 rfl rfl ?_
                  refine j_V2d mf_X10_isInBox ml_X10_205 dX10_carries_72 (Nat.le_of_ble_eq_true rfl) (Nat.le_of_ble_eq_true rfl) (Nat.le_of_ble_eq_true rfl) ⟨(Nat.le_of_ble_eq_true rfl), (Nat.le_of_ble_eq_true rfl)⟩ (by first | assumption | decide | (simp only [nv] at *; omega)) rfl rfl (c_X10_isInBox (M := (sI Mb 55 (cpR (bsV Mb f) (mI Mb 55) i))) hi5 hf ht) ?_
                  refine j_ifeq (tgt := 82) dX10_carries_75 (by decide) (fun h75 => ?_) (fun h75 => ?_)
                  · have hb : ibK Mb i f 3 = false := bI_eq.mp h75
                    refine j_icN 0 dX10_carries_82 rfl ?_
                    refine j_ist_5 dX10_carries_83 (by decide) rfl ?_
                    first | exact T85 false _ (fun _ => hb.symm) | exact T85 true _ (fun _ => hb.symm)
                  · have hb : ibK Mb i f 3 = true := bI_ne.mp h75
                    refine j_icN 1 dX10_carries_78 rfl ?_
                    refine j_goto (tgt := 83) dX10_carries_79 (by decide) ?_
                    refine j_ist_5 dX10_carries_83 (by decide) rfl ?_
                    first | exact T85 false _ (fun _ => hb.symm) | exact T85 true _ (fun _ => hb.symm)
    refine j_aln dX10_carries_23 rfl rfl ?_
    refine g_X10_9 dX10_carries_24 fl_X10_26 ?_
    refine j_iln dX10_carries_27 rfl rfl ?_
    refine j_acldN dX10_carries_28 rfl rfl rfl (by decide) (by omega) ?_
    refine j_topi (show _ = (mI Mb 45 f) from rfl) ?_
    refine j_ist_2 dX10_carries_29 (by decide) rfl ?_
    refine j_icN 0 dX10_carries_30 rfl ?_
    refine j_ist_3 dX10_carries_31 (by decide) rfl ?_
    have K0 := K1 0 (by omega) none none
    rw [cpR_0, sI_id] at K0
    exact K0
  refine j_aln dX10_carries_0 rfl rfl ?_
  refine g_X10_13 dX10_carries_1 fl_X10_39 ?_
  refine j_iln dX10_carries_4 rfl rfl ?_
  refine j_aln dX10_carries_5 rfl rfl ?_
  refine j_iln dX10_carries_6 rfl rfl ?_
  refine j_V1g mf_X10_fault ml_X10_201 dX10_carries_7 (Nat.le_of_ble_eq_true rfl) (Nat.le_of_ble_eq_true rfl) (Nat.le_of_ble_eq_true rfl) ⟨(Nat.le_of_ble_eq_true rfl), (Nat.le_of_ble_eq_true rfl)⟩ (by first | assumption | decide | (simp only [nv] at *; omega)) rfl rfl (c_X10_fault hf ht0) ?_
  intro v M9 hp
  obtain ⟨hm9, w, hvv, hfa9⟩ := hp
  subst hvv
  have hmb : ∀ t, ¬ (t = 49 ∨ t = 55 ∨ t = 57 ∨ t = 67) → mI (sI M9 49 (upd (mI M9 49) f w)) t = mI M t := fun t ht => by rw [mI_sI, if_neg (fun q => ht (by omega))]; exact hm9.2 t (fun q => ht (by omega))
  have hfa : fauP M f w (sI M9 49 (upd (mI M9 49) f w)) := hfa9
  have h49 : mI (sI M9 49 (upd (mI M9 49) f w)) 49 = upd (mI M 49) f w := by rw [mI_sI, if_pos rfl, hm9.2 49 (by omega)]
  have e49 : mI (sI M9 49 (upd (mI M9 49) f w)) 49 f = w := if_pos rfl
  refine j_acstN dX10_carries_10 rfl (fun _ => rfl) rfl (by decide) (by omega) (fau_c hfa) ?_
  refine j_aln dX10_carries_11 rfl rfl ?_
  refine g_X10_13 dX10_carries_12 fl_X10_39 ?_
  refine j_iln dX10_carries_15 rfl rfl ?_
  refine j_acldN dX10_carries_16 rfl rfl rfl (by decide) (by omega) ?_
  refine j_biN 45 dX10_carries_17 rfl ?_
  refine j_iceq (tgt := 23) dX10_carries_19 (by decide) (fun h19 => ?_) (fun h19 => ?_)
  · have hw := e49.symm.trans h19
    subst hw
    exact T23 (sI M9 49 (upd (mI M9 49) f (nI 45))) ⟨hm9.1, hmb⟩ hfa h49
  · exact j_vret dX10_carries_22 rfl (Nat.le_of_ble_eq_true rfl) (Nat.le_of_ble_eq_true rfl) ⟨rfl, ⟨hm9.1, fun t ht => hmb t (fun q => ht (by omega))⟩, w, sI M9 49 (upd (mI M9 49) f w), ⟨hm9.1, hmb⟩, hfa, h49, Or.inl ⟨fun q => h19 (e49.trans q), hmb 54 (by omega), hmb 56 (by omega)⟩⟩
