/-! Workshop: names counted, pieces counted -/
def chA (f K : Nat → Int64) (x y : Int32) : Nat → Int64 := fun z => if x < 0 ∨ nI 40 ≤ x then 0 else chk f K (ntX x) (ntX y) z 6
theorem c_X0_chooseA {l : Launch} {E : Ev} {M : Mm} {b c s : Nat} {x : Int32} (hb : b < nv 6) (hc : c < nv 7) (hne : ¬ b = c) (hs : s < 6) : Ct l E yX0_choose cX0_choose 10 none 3 0 0 [.ref (eA E 6 b), .int x, .int (nI s), .ref (eA E 7 c)] M (dn (sL M c (chA (mL M b) (mK M b) x (nI s)))) := by
  by_cases h : x < 0 ∨ nI 40 ≤ x
  · have e : chA (mL M b) (mK M b) x (nI s) = fun _ => 0 := by
      funext z
      exact if_pos h
    rw [e]
    exact c_X0_chooseO hc h
  · obtain ⟨w, hw, rfl⟩ := nn_lt (n := 40) (by decide) (fun q => h (Or.inl q)) (fun q => h (Or.inr q))
    have e : chA (mL M b) (mK M b) (nI w) (nI s) = fun z => chk (mL M b) (mK M b) w s z 6 := by
      funext z
      unfold chA
      rw [if_neg h, ntX_nI (by omega), ntX_nI (by omega)]
    rw [e]
    exact c_X0_choose hb hc hne hw hs
def grw (B : Nat → Int64) : Nat → (Nat → Int64) → Nat → Int64
  | 0, P => P
  | n + 1, P => if gwf P B 8 = true then grw B n (gwr P B 8) else gwr P B 8
theorem grw_0 (B P : Nat → Int64) : grw B 0 P = P := by rw [grw]
theorem grw_s (B P : Nat → Int64) (n : Nat) : grw B (n + 1) P = if gwf P B 8 = true then grw B n (gwr P B 8) else gwr P B 8 := by rw [grw]
def sdz (R : Nat → Int64) : Option Nat := (List.range 8).find? (fun z => decide (¬ R z = 0))
def sdP (R : Nat → Int64) (z : Nat) : Nat → Int64 := fun y => if y = z then lob (R z) else 0
theorem sdz_n {R : Nat → Int64} (h : ∀ z, z < 8 → R z = 0) : sdz R = none := by
  unfold sdz
  exact List.find?_eq_none.mpr (fun y hy => by rw [decide_eq_false (fun q => q (h y (List.mem_range.mp hy)))]; decide)
theorem sdz_s {R : Nat → Int64} {z : Nat} (hz : z < 8) (h : ∀ y, y < z → R y = 0) (h1 : R z ≠ 0) : sdz R = some z := by
  unfold sdz
  exact find_r hz (fun j hj => decide_eq_false (fun q => q (h j hj))) (decide_eq_true h1)
def pcN (W : Nat) : Nat → (Nat → Int64) → Nat
  | 0, _ => 0
  | n + 1, R => match sdz R with
    | none => 0
    | some z => pcN W n (fun y => R y &&& (grw R W (sdP R z) y ^^^ -1)) + 1
theorem pcN_0 (W : Nat) (R : Nat → Int64) : pcN W 0 R = 0 := by rw [pcN]
theorem pcN_n {W n : Nat} {R : Nat → Int64} (h : sdz R = none) : pcN W (n + 1) R = 0 := by rw [pcN, h]
theorem pcN_s {W n z : Nat} {R : Nat → Int64} (h : sdz R = some z) : pcN W (n + 1) R = pcN W n (fun y => R y &&& (grw R W (sdP R z) y ^^^ -1)) + 1 := by rw [pcN, h]
def pcX (R : Nat → Int64) : Nat := pcN 512 512 R
theorem sL_3 (M : Mm) {t u : Nat} (h : ¬ t = u) (f g k : Nat → Int64) : sL (sL (sL M t f) u g) t k = sL (sL M t k) u g := by
  unfold sL
  refine Prod.ext rfl (Prod.ext ?_ rfl)
  funext c
  show (if c = t then k else if c = u then g else if c = t then f else M.2.1 c) = if c = u then g else if c = t then k else M.2.1 c
  by_cases h1 : c = t
  · subst h1; rw [if_pos rfl, if_neg h, if_pos rfl]
  · rw [if_neg h1, if_neg h1, if_neg h1]
set_option maxRecDepth 100000 in
set_option maxHeartbeats 4000000 in
theorem c_X8_countNamed {l : Launch} {E : Ev} {M : Mm} {b s : Nat} {x : Int32} (hb : b < nv 6) (hne : ¬ b = 16) (hs : s < 6) : Ct l E yX8_countNamed cX8_countNamed 4 (some .int) 4 0 0 [.ref (eA E 4 0), .ref (eA E 6 b), .int x, .int (nI s)] M (dv (.int (smI (fun z => bcl (chA (mL M b) (mK M b) x (nI s) z)) 8)) (sL M 16 (chA (mL M b) (mK M b) x (nI s)))) := by
  refine Ct.of (own := RX8) rfl [some (.ref (eA E 4 0)), some (.ref (eA E 6 b)), some (.int x), some (.int (nI s))] (by decide) (Nat.le_of_ble_eq_true rfl) rfl ?_
  refine j_aln dX8_countNamed_0 rfl rfl ?_
  refine j_iln dX8_countNamed_1 rfl rfl ?_
  refine j_iln dX8_countNamed_2 rfl rfl ?_
  refine j_aln dX8_countNamed_3 rfl rfl ?_
  refine g_X8_1 dX8_countNamed_4 fl_X8_18 ?_
  refine j_V3n mf_X0_choose ml_X8_52 dX8_countNamed_7 (Nat.le_of_ble_eq_true rfl) (Nat.le_of_ble_eq_true rfl) (Nat.le_of_ble_eq_true rfl) ⟨(Nat.le_of_ble_eq_true rfl), (Nat.le_of_ble_eq_true rfl)⟩ (by first | assumption | decide | (simp only [nv] at *; omega)) rfl rfl (c_X0_chooseA hb (show 16 < nv 7 by decide) (show ¬ b = 16 from hne) hs) ?_
  refine j_aln dX8_countNamed_10 rfl rfl ?_
  refine g_X8_1 dX8_countNamed_11 fl_X8_18 ?_
  refine j_V0d mf_X1_count ml_X8_107 dX8_countNamed_14 (Nat.le_of_ble_eq_true rfl) (Nat.le_of_ble_eq_true rfl) (Nat.le_of_ble_eq_true rfl) ⟨(Nat.le_of_ble_eq_true rfl), (Nat.le_of_ble_eq_true rfl)⟩ (by first | assumption | decide | (simp only [nv] at *; omega)) rfl rfl (c_X1_count (show 16 < nv 7 by decide)) ?_
  exact j_iret dX8_countNamed_17 rfl rfl (Nat.le_of_ble_eq_true rfl) (Nat.le_of_ble_eq_true rfl) ⟨rfl, rfl⟩
set_option maxRecDepth 100000 in
set_option maxHeartbeats 4000000 in
theorem c_X8_countPieces {l : Launch} {E : Ev} {M : Mm} {c : Nat} (hc : c < nv 7) : Ct l E yX8_countPieces cX8_countPieces 5 (some .int) 3 0 0 [.ref (eA E 4 0), .ref (eA E 7 c)] M (fun v M1 => v = some (.int (nI (pcX (mL M c)))) ∧ ∃ R P, M1 = sL (sL M 17 R) 18 P) := by
  refine Ct.of (own := RX8) rfl [some (.ref (eA E 4 0)), some (.ref (eA E 7 c)), none, none, none] (by decide) (Nat.le_of_ble_eq_true rfl) rfl ?_
  obtain ⟨w, hw, ht⟩ : ∃ w, w = 512 ∧ pcX (mL M c) = pcN w w (mL M c) := ⟨512, rfl, rfl⟩
  rw [ht]
  have K : ∀ i, i ≤ w → ∀ (R P : Nat → Int64) (o3 o4 : Option Value), pcN w w (mL M c) = i + pcN w (w - i) R → Jd l E RX8 cX8_countPieces 5 (some .int) [] (rmm 3 0 0) (QfN E (fun v M1 => v = some (.int (nI (pcN w w (mL M c)))) ∧ ∃ R P, M1 = sL (sL M 17 R) 18 P) 0 0) 0 0 10 [some (.ref (eA E 4 0)), some (.ref (eA E 7 c)), some (.int (nI i)), o3, o4] [] (sL (sL M 17 R) 18 P) := by
    refine up_to w _ ?_ (fun i hi ih => ?_)
    · intro R P o3 o4 ht3
      refine j_iln dX8_countPieces_10 rfl rfl ?_
      refine j_siN 512 dX8_countPieces_11 rfl ?_
      refine j_icgeN (tgt := 83) dX8_countPieces_14 (by decide) (by omega) (by omega) (fun h14 => ?_) (fun h14 => ?_)
      · refine j_iln dX8_countPieces_83 rfl rfl ?_
        exact j_iret dX8_countPieces_84 rfl rfl (Nat.le_of_ble_eq_true rfl) (Nat.le_of_ble_eq_true rfl) ⟨by rw [ht3, show w - w = 0 by omega, pcN_0]; rfl, R, P, rfl⟩
      · exact absurd (Nat.le_of_eq hw.symm) h14
    · intro R P o3 o4 ht3
      refine j_iln dX8_countPieces_10 rfl rfl ?_
      refine j_siN 512 dX8_countPieces_11 rfl ?_
      refine j_icgeN (tgt := 83) dX8_countPieces_14 (by decide) (by omega) (by omega) (fun h14 => ?_) (fun h14 => ?_)
      · exact absurd h14 (by omega)
      · refine j_aln dX8_countPieces_17 rfl rfl ?_
        refine g_X8_3 dX8_countPieces_18 fl_X8_24 ?_
        refine j_aln dX8_countPieces_21 rfl rfl ?_
        refine g_X8_2 dX8_countPieces_22 fl_X8_21 ?_
        refine j_V1g mf_X1_takeSeedOf ml_X8_113 dX8_countPieces_25 (Nat.le_of_ble_eq_true rfl) (Nat.le_of_ble_eq_true rfl) (Nat.le_of_ble_eq_true rfl) ⟨(Nat.le_of_ble_eq_true rfl), (Nat.le_of_ble_eq_true rfl)⟩ (by first | assumption | decide | (simp only [nv] at *; omega)) rfl rfl (c_X1_takeSeedOf (show 18 < nv 7 by decide) (show 17 < nv 7 by decide) (by decide)) ?_
        intro v M9 h9
        rcases h9 with ⟨h0, rfl, rfl⟩ | ⟨z, hz, hz0, hz1, rfl, rfl⟩
        · have h0 : ∀ z, z < 8 → R z = 0 := h0
          refine j_ifeq (tgt := 83) dX8_countPieces_28 (by decide) (fun h28 => ?_) (fun h28 => ?_)
          · refine j_iln dX8_countPieces_83 rfl rfl ?_
            exact j_iret dX8_countPieces_84 rfl rfl (Nat.le_of_ble_eq_true rfl) (Nat.le_of_ble_eq_true rfl) ⟨by rw [ht3, show w - i = (w - (i + 1)) + 1 by omega, pcN_n (sdz_n h0)]; rfl, R, _, by rw [sL_sL]⟩
          · exact absurd rfl h28
        · have hz0 : ∀ y, y < z → R y = 0 := hz0
          have hz1 : R z ≠ 0 := hz1
          have hsz : sdz R = some z := sdz_s hz hz0 hz1
          obtain ⟨D, hD⟩ : ∃ D, D = grw R w (sdP R z) := ⟨_, rfl⟩
          have T66 : ∀ (P : Nat → Int64) (o3 o4 : Option Value), P = D → Jd l E RX8 cX8_countPieces 5 (some .int) [] (rmm 3 0 0) (QfN E (fun v M1 => v = some (.int (nI (pcN w w (mL M c)))) ∧ ∃ R P, M1 = sL (sL M 17 R) 18 P) 0 0) 0 0 66 [some (.ref (eA E 4 0)), some (.ref (eA E 7 c)), some (.int (nI i)), o3, o4] [] (sL (sL M 17 R) 18 P) := by
            intro P o3 o4 hPD
            refine j_aln dX8_countPieces_66 rfl rfl ?_
            refine g_X8_2 dX8_countPieces_67 fl_X8_21 ?_
            refine j_aln dX8_countPieces_70 rfl rfl ?_
            refine g_X8_3 dX8_countPieces_71 fl_X8_24 ?_
            refine j_V1n mf_X1_takeOutAll ml_X8_75 dX8_countPieces_74 (Nat.le_of_ble_eq_true rfl) (Nat.le_of_ble_eq_true rfl) (Nat.le_of_ble_eq_true rfl) ⟨(Nat.le_of_ble_eq_true rfl), (Nat.le_of_ble_eq_true rfl)⟩ (by first | assumption | decide | (simp only [nv] at *; omega)) rfl rfl (c_X1_takeOutAll (show 17 < nv 7 by decide) (show 18 < nv 7 by decide) (by decide)) ?_
            refine j_incN_2 1 dX8_countPieces_77 rfl (by decide) rfl ?_
            refine j_goto (tgt := 10) dX8_countPieces_80 (by decide) ?_
            refine j_mem ?_ (ih (fun y => R y &&& (D y ^^^ -1)) D _ _ ?_)
            · subst hPD; rw [sL_3 M (by decide)]; rfl
            · rw [ht3, show w - i = (w - (i + 1)) + 1 by omega, pcN_s hsz, ← hD]; omega
          have KJ : ∀ j, j ≤ w → ∀ (P : Nat → Int64) (fl : Bool), (if fl = true then grw R (w - j) P = D else P = D) → Jd l E RX8 cX8_countPieces 5 (some .int) [] (rmm 3 0 0) (QfN E (fun v M1 => v = some (.int (nI (pcN w w (mL M c)))) ∧ ∃ R P, M1 = sL (sL M 17 R) 18 P) 0 0) 0 0 36 [some (.ref (eA E 4 0)), some (.ref (eA E 7 c)), some (.int (nI i)), some (.int (bI fl)), some (.int (nI j))] [] (sL (sL M 17 R) 18 P) := by
            refine up_to w _ ?_ (fun j hj ihj => ?_)
            · intro P fl hd
              cases fl
              · skip
                refine j_iln dX8_countPieces_36 rfl rfl ?_
                refine j_ifeq (tgt := 66) dX8_countPieces_37 (by decide) (fun h37 => ?_) (fun h37 => ?_)
                · exact T66 _ _ _ hd
                · exact absurd (show bI false = 0 from rfl) h37
              · skip
                refine j_iln dX8_countPieces_36 rfl rfl ?_
                refine j_ifeq (tgt := 66) dX8_countPieces_37 (by decide) (fun h37 => ?_) (fun h37 => ?_)
                · exact absurd h37 (by decide)
                · refine j_il dX8_countPieces_40 rfl ?_
                  refine j_siN 512 dX8_countPieces_42 rfl ?_
                  refine j_icgeN (tgt := 66) dX8_countPieces_45 (by decide) (by omega) (by omega) (fun h45 => ?_) (fun h45 => ?_)
                  · rw [show w - w = 0 by omega, grw_0] at hd
                    exact T66 _ _ _ hd
                  · exact absurd (Nat.le_of_eq hw.symm) h45
            · intro P fl hd
              cases fl
              · skip
                refine j_iln dX8_countPieces_36 rfl rfl ?_
                refine j_ifeq (tgt := 66) dX8_countPieces_37 (by decide) (fun h37 => ?_) (fun h37 => ?_)
                · exact T66 _ _ _ hd
                · exact absurd (show bI false = 0 from rfl) h37
              · skip
                refine j_iln dX8_countPieces_36 rfl rfl ?_
                refine j_ifeq (tgt := 66) dX8_countPieces_37 (by decide) (fun h37 => ?_) (fun h37 => ?_)
                · exact absurd h37 (by decide)
                · refine j_il dX8_countPieces_40 rfl ?_
                  refine j_siN 512 dX8_countPieces_42 rfl ?_
                  refine j_icgeN (tgt := 66) dX8_countPieces_45 (by decide) (by omega) (by omega) (fun h45 => ?_) (fun h45 => ?_)
                  · exact absurd h45 (by omega)
                  · refine j_aln dX8_countPieces_48 rfl rfl ?_
                    refine g_X8_3 dX8_countPieces_49 fl_X8_24 ?_
                    refine j_aln dX8_countPieces_52 rfl rfl ?_
                    refine g_X8_2 dX8_countPieces_53 fl_X8_21 ?_
                    refine j_V1d mf_X1_growWithin ml_X8_117 dX8_countPieces_56 (Nat.le_of_ble_eq_true rfl) (Nat.le_of_ble_eq_true rfl) (Nat.le_of_ble_eq_true rfl) ⟨(Nat.le_of_ble_eq_true rfl), (Nat.le_of_ble_eq_true rfl)⟩ (by first | assumption | decide | (simp only [nv] at *; omega)) rfl rfl (c_X1_growWithin (show 18 < nv 7 by decide) (show 17 < nv 7 by decide) (by decide)) ?_
                    refine j_ist_3 dX8_countPieces_59 (by decide) rfl ?_
                    refine j_incN_4 1 dX8_countPieces_60 rfl (by decide) rfl ?_
                    refine j_goto (tgt := 36) dX8_countPieces_63 (by decide) ?_
                    refine j_mem ?_ (ihj (gwr P R 8) (gwf P R 8) ?_)
                    · rw [sL_sL]; rfl
                    · rw [show w - j = (w - (j + 1)) + 1 by omega, grw_s] at hd
                      cases hg : gwf P R 8
                      · rw [hg] at hd; exact hd
                      · rw [hg] at hd; exact hd
          refine j_ifeq (tgt := 83) dX8_countPieces_28 (by decide) (fun h28 => ?_) (fun h28 => ?_)
          · exact absurd h28 (by decide)
          · refine j_icN 1 dX8_countPieces_31 rfl ?_
            refine j_ist_3 dX8_countPieces_32 (by decide) rfl ?_
            refine j_icN 0 dX8_countPieces_33 rfl ?_
            refine j_ist_4 dX8_countPieces_34 (by decide) rfl ?_
            refine j_mem ?_ (KJ 0 (by omega) (sdP R z) true ?_)
            · rw [sL_sL]; rfl
            · rw [hD]; rfl
  refine j_icN 0 dX8_countPieces_0 rfl ?_
  refine j_ist_2 dX8_countPieces_1 (by decide) rfl ?_
  refine j_aln dX8_countPieces_2 rfl rfl ?_
  refine g_X8_2 dX8_countPieces_3 fl_X8_21 ?_
  refine j_aln dX8_countPieces_6 rfl rfl ?_
  refine j_V1n mf_X1_copyFrom ml_X8_111 dX8_countPieces_7 (Nat.le_of_ble_eq_true rfl) (Nat.le_of_ble_eq_true rfl) (Nat.le_of_ble_eq_true rfl) ⟨(Nat.le_of_ble_eq_true rfl), (Nat.le_of_ble_eq_true rfl)⟩ (by first | assumption | decide | (simp only [nv] at *; omega)) rfl rfl (c_X1_copyFrom (show 17 < nv 7 by decide) hc) ?_
  have K0 := K 0 (by omega) (mL M c) (mL M 18) none none (by rw [Nat.zero_add, Nat.sub_zero])
  refine j_mem ?_ K0
  exact (sL_id (sL M 17 (mL M c)) 18).symm
