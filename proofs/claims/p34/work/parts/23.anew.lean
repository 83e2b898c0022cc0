/-! History: the body from nothing -/
def coR (a : Nat → Int32) (kd : Int32) (f0 k0 : Nat → Int64) (g : Nat) (F K : Nat → Int64) : Prop :=
  (ftX kd a f0 k0 = nI 45 → ∃ B H, (bxK kd → boxOK a B) ∧ (kd = nI 101 → H = chA f0 k0 (a 0) (a 1)) ∧ F = reF kd a B f0 f0 H ∧ K = nmq F f0 k0 g) ∧ (¬ ftX kd a f0 k0 = nI 45 → F = f0 ∧ K = k0)
theorem coP_R {M M1 : Mm} {b q f : Nat} {kd : Int32} (h : coP M b q f kd M1) : coR (mI M 29) kd (mL M q) (mK M q) f (mL M1 b) (mK M1 b) := ⟨h.2.2.2.2.1, h.2.2.2.2.2⟩
/-- a stage from the one ahead; off or carried out -/
def stR (M : Mm) (g : Nat) (F0 K0 F K : Nat → Int64) (flt : Int32) : Prop :=
  (mI M 27 g = 0 → ∃ a : Nat → Int32, (∀ w, w < 6 → a w = szX M g w) ∧ coR a (mI M 25 g) F0 K0 g F K ∧ flt = ftX (mI M 25 g) a F0 K0) ∧ (¬ mI M 27 g = 0 → F = F0 ∧ K = K0)
def SR (M : Mm) (fr : Nat → Nat) : Nat → (Nat → Int64) → (Nat → Int64) → Prop
  | 0, F, K => (∀ z, z < 8 → F z = 0) ∧ ∀ i, i < 288 → K i = 0
  | n + 1, F, K => ∃ F0 K0 flt, SR M fr n F0 K0 ∧ stR M (fr n) F0 K0 F K flt
theorem SR_0 {M : Mm} {fr : Nat → Nat} {F K : Nat → Int64} (h1 : ∀ z, z < 8 → F z = 0) (h2 : ∀ i, i < 288 → K i = 0) : SR M fr 0 F K := ⟨h1, h2⟩
theorem SR_s {M : Mm} {fr : Nat → Nat} {n : Nat} {F0 K0 F K : Nat → Int64} {flt : Int32} (h : SR M fr n F0 K0) (h2 : stR M (fr n) F0 K0 F K flt) : SR M fr (n + 1) F K := ⟨F0, K0, flt, h, h2⟩
def bfF (M M1 : Mm) : Prop := (∀ t, ¬ t = 29 → mI M1 t = mI M t) ∧ M1.2.2.2 = M.2.2.2 ∧ (∀ c, ¬ (13 ≤ c ∧ c ≤ 18) → mL M1 c = mL M c) ∧ ∀ c, ¬ (13 ≤ c ∧ c ≤ 14) → mK M1 c = mK M c
theorem szX_c {M M1 : Mm} {f w : Nat} (h23 : mI M1 23 = mI M 23) (h26 : mI M1 26 = mI M 26) : szX M1 f w = szX M f w := by
  unfold szX
  rw [h23, h26]
theorem bf_step {M Mp M9 : Mm} {fr : Nat → Nat} {p : Nat} (g : bfF M Mp) (hs : SR M fr p (mL Mp 13) (mK Mp 13)) (hon : mI Mp 27 (fr p) = 0) (hco : coP (rsM Mp (fr p)) 14 13 (fr p) (mI Mp 25 (fr p)) M9) : bfF M (sK (sL M9 13 (mL M9 14)) 13 (mK M9 14)) ∧ SR M fr (p + 1) (mL (sK (sL M9 13 (mL M9 14)) 13 (mK M9 14)) 13) (mK (sK (sL M9 13 (mL M9 14)) 13 (mK M9 14)) 13) := by
  obtain ⟨g1, g2, g3, g4⟩ := g
  have hR := coP_R hco
  obtain ⟨c1, c2, c3, c4, _, _⟩ := hco
  refine ⟨⟨fun t ht => ?_, ?_, fun c hc => ?_, fun c hc => ?_⟩, ?_⟩
  · show mI M9 t = _
    rw [c1]
    exact (show mI (rsM Mp (fr p)) t = mI Mp t from if_neg ht).trans (g1 t ht)
  · show M9.2.2.2 = _
    rw [c2]
    exact g2
  · rw [mL_sK, mL_sL, if_neg (by omega), c3 c (by omega) (by omega)]
    exact g3 c hc
  · rw [mK_sK, if_neg (by omega)]
    show mK M9 c = _
    rw [c4 c (by omega)]
    exact g4 c hc
  · have e1 : mL (sK (sL M9 13 (mL M9 14)) 13 (mK M9 14)) 13 = mL M9 14 := rfl
    have e2 : mK (sK (sL M9 13 (mL M9 14)) 13 (mK M9 14)) 13 = mK M9 14 := rfl
    rw [e1, e2]
    refine SR_s hs (flt := ftX (mI M 25 (fr p)) (mI (rsM Mp (fr p)) 29) (mL Mp 13) (mK Mp 13)) ⟨fun _ => ⟨mI (rsM Mp (fr p)) 29, fun w hw => ?_, ?_, rfl⟩, fun q => ?_⟩
    · exact (show mI (rsM Mp (fr p)) 29 w = szX Mp (fr p) w from if_pos hw).trans (szX_c (g1 23 (by decide)) (g1 26 (by decide)))
    · rw [← g1 25 (by decide)]
      exact hR
    · rw [← g1 27 (by decide)] at q
      exact absurd hon q
theorem bf_off {M Mp : Mm} {fr : Nat → Nat} {p : Nat} (g : bfF M Mp) (hs : SR M fr p (mL Mp 13) (mK Mp 13)) (hoff : ¬ mI Mp 27 (fr p) = 0) : SR M fr (p + 1) (mL Mp 13) (mK Mp 13) := by
  refine SR_s hs (flt := 0) ⟨fun q => ?_, fun _ => ⟨rfl, rfl⟩⟩
  rw [← g.1 27 (by decide)] at q
  exact absurd q hoff
set_option maxRecDepth 100000 in
set_option maxHeartbeats 4000000 in
theorem c_X3_bodyFromNothing {l : Launch} {E : Ev} {M : Mm} {cnt bar : Nat} {fr : Nat → Nat} (hbar : mI M 2 7 = nI bar) (hbc : bar ≤ cnt) (hc12 : cnt ≤ 12) (hrow : ∀ k, k < cnt → mI M 24 k = nI (fr k) ∧ fr k < 40) (hkd : ∀ k, k < cnt → seven (mI M 25 (fr k))) : Ct l E yX3_bodyFromNothing cX3_bodyFromNothing 3 (some (.object "Solidhearth$Body")) 6 0 0 [.ref (eA E 1 0)] M (fun v M1 => v = some (.ref (eA E 6 13)) ∧ bfF M M1 ∧ SR M fr bar (mL M1 13) (mK M1 13)) := by
  refine Ct.of (own := RX3) rfl [some (.ref (eA E 1 0)), none, none] (by decide) (Nat.le_of_ble_eq_true rfl) rfl ?_
  have K : ∀ p, p ≤ bar → ∀ (Mp : Mm) (o2 : Option Value), bfF M Mp → SR M fr p (mL Mp 13) (mK Mp 13) → Jd l E RX3 cX3_bodyFromNothing 3 (some (.object "Solidhearth$Body")) [] (rmm 6 0 0) (QfN E (fun v M1 => v = some (.ref (eA E 6 13)) ∧ bfF M M1 ∧ SR M fr bar (mL M1 13) (mK M1 13)) 0 0) 0 0 9 [some (.ref (eA E 1 0)), some (.int (nI p)), o2] [] Mp := by
    refine up_to bar _ ?_ (fun p hp ih => ?_)
    · intro Mp o2 g hs
      have g1 := g.1
      refine j_iln dX3_bodyFromNothing_9 rfl rfl ?_
      refine j_aln dX3_bodyFromNothing_10 rfl rfl ?_
      refine g_X3_0 dX3_bodyFromNothing_11 fl_X3_12 ?_
      refine g_X2_7 dX3_bodyFromNothing_14 fl_X3_57 ?_
      refine j_topi ((congrFun (g1 2 (by decide)) 7).trans hbar) ?_
      refine j_icgeN (tgt := 94) dX3_bodyFromNothing_17 (by decide) (by omega) (by omega) (fun h17 => ?_) (fun h17 => ?_)
      · refine j_aln dX3_bodyFromNothing_94 rfl rfl ?_
        refine g_X3_4 dX3_bodyFromNothing_95 fl_X3_29 ?_
        exact j_aret dX3_bodyFromNothing_98 rfl (Or.inl ⟨_, rfl⟩) (Nat.le_of_ble_eq_true rfl) (Nat.le_of_ble_eq_true rfl) ⟨rfl, g, hs⟩
      · exact absurd (Nat.le_refl bar) h17
    · intro Mp o2 g hs
      have g1 := g.1
      refine j_iln dX3_bodyFromNothing_9 rfl rfl ?_
      refine j_aln dX3_bodyFromNothing_10 rfl rfl ?_
      refine g_X3_0 dX3_bodyFromNothing_11 fl_X3_12 ?_
      refine g_X2_7 dX3_bodyFromNothing_14 fl_X3_57 ?_
      refine j_topi ((congrFun (g1 2 (by decide)) 7).trans hbar) ?_
      refine j_icgeN (tgt := 94) dX3_bodyFromNothing_17 (by decide) (by omega) (by omega) (fun h17 => ?_) (fun h17 => ?_)
      · exact absurd h17 (by omega)
      · refine j_aln dX3_bodyFromNothing_20 rfl rfl ?_
        refine g_X3_0 dX3_bodyFromNothing_21 fl_X3_12 ?_
        refine g_X2_1 dX3_bodyFromNothing_24 fl_X3_65 ?_
        refine j_iln dX3_bodyFromNothing_27 rfl rfl ?_
        refine j_aildN dX3_bodyFromNothing_28 rfl rfl rfl (by decide) (by omega) ?_
        refine j_topi ((congrFun (g1 24 (by decide)) p).trans (hrow p (by omega)).1) ?_
        refine j_ist_2 dX3_bodyFromNothing_29 (by decide) rfl ?_
        have hf9 := (hrow p (by omega)).2
        refine j_aln dX3_bodyFromNothing_30 rfl rfl ?_
        refine g_X3_0 dX3_bodyFromNothing_31 fl_X3_12 ?_
        refine g_X2_4 dX3_bodyFromNothing_34 fl_X3_76 ?_
        refine j_iln dX3_bodyFromNothing_37 rfl rfl ?_
        refine j_azldN dX3_bodyFromNothing_38 rfl rfl rfl (by decide) (by omega) ?_
        refine j_ifne (tgt := 88) dX3_bodyFromNothing_39 (by decide) (fun h39 => ?_) (fun h39 => ?_)
        · refine j_incN_1 1 dX3_bodyFromNothing_88 rfl (by decide) rfl ?_
          refine j_goto (tgt := 9) dX3_bodyFromNothing_91 (by decide) ?_
          exact ih _ _ g (bf_off g hs h39)
        · have hk9 : seven (mI Mp 25 (fr p)) := by rw [g1 25 (by decide)]; exact hkd p (by omega)
          refine j_aln dX3_bodyFromNothing_42 rfl rfl ?_
          refine j_iln dX3_bodyFromNothing_43 rfl rfl ?_
          refine j_V1n mf_X3_readSizes ml_X3_68 dX3_bodyFromNothing_44 (Nat.le_of_ble_eq_true rfl) (Nat.le_of_ble_eq_true rfl) (Nat.le_of_ble_eq_true rfl) ⟨(Nat.le_of_ble_eq_true rfl), (Nat.le_of_ble_eq_true rfl)⟩ (by first | assumption | decide | (simp only [nv] at *; omega)) rfl rfl (c_X3_readSizes hf9) ?_
          refine j_aln dX3_bodyFromNothing_47 rfl rfl ?_
          refine g_X3_6 dX3_bodyFromNothing_48 fl_X3_39 ?_
          refine j_aln dX3_bodyFromNothing_51 rfl rfl ?_
          refine g_X3_0 dX3_bodyFromNothing_52 fl_X3_12 ?_
          refine g_X2_2 dX3_bodyFromNothing_55 fl_X3_83 ?_
          refine j_iln dX3_bodyFromNothing_58 rfl rfl ?_
          refine j_acldN dX3_bodyFromNothing_59 rfl rfl rfl (by decide) (by omega) ?_
          refine j_iln dX3_bodyFromNothing_60 rfl rfl ?_
          refine j_aln dX3_bodyFromNothing_61 rfl rfl ?_
          refine g_X3_7 dX3_bodyFromNothing_62 fl_X3_43 ?_
          refine j_aln dX3_bodyFromNothing_65 rfl rfl ?_
          refine g_X3_4 dX3_bodyFromNothing_66 fl_X3_29 ?_
          refine j_aln dX3_bodyFromNothing_69 rfl rfl ?_
          refine g_X3_5 dX3_bodyFromNothing_70 fl_X3_33 ?_
          refine j_V5g mf_X8_carryOut ml_X3_86 dX3_bodyFromNothing_73 (Nat.le_of_ble_eq_true rfl) (Nat.le_of_ble_eq_true rfl) (Nat.le_of_ble_eq_true rfl) ⟨(Nat.le_of_ble_eq_true rfl), (Nat.le_of_ble_eq_true rfl)⟩ (by first | assumption | decide | (simp only [nv] at *; omega)) rfl rfl (c_X8_carryOut (show 14 < 15 by decide) (show 13 < 15 by decide) (by decide) hf9 hk9 (by decide) (by decide)) ?_
          intro v M9 h9
          obtain ⟨rfl, hco⟩ := h9
          refine j_pop dX3_bodyFromNothing_76 rfl ?_
          refine j_aln dX3_bodyFromNothing_77 rfl rfl ?_
          refine g_X3_4 dX3_bodyFromNothing_78 fl_X3_29 ?_
          refine j_aln dX3_bodyFromNothing_81 rfl rfl ?_
          refine g_X3_5 dX3_bodyFromNothing_82 fl_X3_33 ?_
          refine j_V1n mf_X0_copyFrom ml_X3_79 dX3_bodyFromNothing_85 (Nat.le_of_ble_eq_true rfl) (Nat.le_of_ble_eq_true rfl) (Nat.le_of_ble_eq_true rfl) ⟨(Nat.le_of_ble_eq_true rfl), (Nat.le_of_ble_eq_true rfl)⟩ (by first | assumption | decide | (simp only [nv] at *; omega)) rfl rfl (c_X0_copyFrom (show 13 < 15 by decide) (show 14 < 15 by decide)) ?_
          have hb9 := bf_step g hs h39 hco
          refine j_incN_1 1 dX3_bodyFromNothing_88 rfl (by decide) rfl ?_
          refine j_goto (tgt := 9) dX3_bodyFromNothing_91 (by decide) ?_
          exact ih _ _ hb9.1 hb9.2
  refine j_aln dX3_bodyFromNothing_0 rfl rfl ?_
  refine g_X3_4 dX3_bodyFromNothing_1 fl_X3_29 ?_
  refine j_V0n mf_X0_clear ml_X3_111 dX3_bodyFromNothing_4 (Nat.le_of_ble_eq_true rfl) (Nat.le_of_ble_eq_true rfl) (Nat.le_of_ble_eq_true rfl) ⟨(Nat.le_of_ble_eq_true rfl), (Nat.le_of_ble_eq_true rfl)⟩ (by first | assumption | decide | (simp only [nv] at *; omega)) rfl rfl (c_X0_clear (show 13 < 15 by decide)) ?_
  refine j_icN 0 dX3_bodyFromNothing_7 rfl ?_
  refine j_ist_1 dX3_bodyFromNothing_8 (by decide) rfl ?_
  exact K 0 (by omega) _ none ⟨fun _ _ => rfl, rfl, fun c hc => by rw [mL_sK, mL_sL, if_neg (by omega)], fun c hc => by rw [mK_sK, if_neg (by omega)]; rfl⟩ (SR_0 (fun _ _ => rfl) (fun _ _ => rfl))
