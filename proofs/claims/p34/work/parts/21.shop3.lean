/-! Workshop: faults, shapes, a feature carried out -/
def frX (M M1 : Mm) (S : Nat → Prop) : Prop := mI M1 = mI M ∧ M1.2.2 = M.2.2 ∧ ∀ c, ¬ S c → mL M1 c = mL M c
theorem frX_rfl (M : Mm) (S : Nat → Prop) : frX M M S := ⟨rfl, rfl, fun _ _ => rfl⟩
theorem frX_3 (M : Mm) (H R P : Nat → Int64) : frX M (sL (sL (sL M 16 H) 17 R) 18 P) (fun c => 16 ≤ c ∧ c ≤ 18) := ⟨rfl, rfl, fun c hc => by
  have hc : ¬ (16 ≤ c ∧ c ≤ 18) := hc
  rw [mL_sL, if_neg (by omega), mL_sL, if_neg (by omega), mL_sL, if_neg (by omega)]⟩
def ftX (kd : Int32) (a : Nat → Int32) (f K : Nat → Int64) : Int32 := if unX kd a = true then nI 120 else if kd = nI 101 then (if nI (pcX (chA f K (a 0) (a 1))) = 0 then nI 108 else if nI (pcX (chA f K (a 0) (a 1))) = nI 1 then nI 45 else nI 100) else nI 45
theorem un_e {kd : Int32} {a : Nat → Int32} (h : unX kd a = false) (hk : kd = nI 101) : ∃ s, s < 6 ∧ a 1 = nI s := by
  subst hk
  unfold unX at h
  rw [if_neg (by decide), if_neg (by decide), if_neg (by decide), if_pos rfl] at h
  have h2 : sdX (a 1) = true := by
    cases e : sdX (a 1)
    · rw [e] at h; exact absurd h (by simp)
    · rfl
  have h3 := of_decide_eq_true h2
  exact nn_lt (by decide) h3.1 h3.2
def reF (kd : Int32) (a : Nat → Int32) (B A C H : Nat → Int64) : Nat → Int64 :=
  if kd = nI 98 then fun z => C z ||| B z else if kd = nI 99 then fun z => C z &&& (B z ^^^ -1) else if kd = nI 105 then fun z => C z &&& B z
  else if kd = nI 109 then mrX A (a 0) (nI 2 * a 1 - nI 1) C
  else if kd = nI 112 then rpX A (a 3) (fun k => a 0 * nI k) (fun k => a 1 * nI k) (fun k => a 2 * nI k) C
  else if kd = nI 104 then fun z => C z &&& (inr A z 6 ^^^ -1)
  else rpX H (a 2) (fun k => pay (ntX (a 1) / 2) 0 ((if ntX (a 1) % 2 = 0 then (-1) else nI 1) * nI k)) (fun k => pay (ntX (a 1) / 2) 1 ((if ntX (a 1) % 2 = 0 then (-1) else nI 1) * nI k)) (fun k => pay (ntX (a 1) / 2) 2 ((if ntX (a 1) % 2 = 0 then (-1) else nI 1) * nI k)) C
def boxOK (a : Nat → Int32) (B : Nat → Int64) : Prop := ∀ x y z, x < 8 → y < 8 → z < 8 → bw (B z) (y * 8 + x) = Bx a x y z
def seven (kd : Int32) : Prop := kd = nI 98 ∨ kd = nI 99 ∨ kd = nI 105 ∨ kd = nI 109 ∨ kd = nI 112 ∨ kd = nI 104 ∨ kd = nI 101
set_option maxRecDepth 100000 in
set_option maxHeartbeats 4000000 in
theorem c_X8_faultOf {l : Launch} {E : Ev} {M : Mm} {b : Nat} {kd : Int32} (hb : b < nv 6) : Ct l E yX8_faultOf cX8_faultOf 5 (some .char) 4 0 0 [.ref (eA E 4 0), .int kd, .ref (eA E 29 0), .ref (eA E 6 b)] M (fun v M1 => v = some (.int (ftX kd (mI M 29) (mL M b) (mK M b))) ∧ frX M M1 (fun c => 16 ≤ c ∧ c ≤ 18) ∧ (unX kd (mI M 29) = false → kd = nI 101 → mL M1 16 = chA (mL M b) (mK M b) (mI M 29 0) (mI M 29 1))) := by
  refine Ct.of (own := RX8) rfl [some (.ref (eA E 4 0)), some (.int kd), some (.ref (eA E 29 0)), some (.ref (eA E 6 b)), none] (by decide) (Nat.le_of_ble_eq_true rfl) rfl ?_
  refine j_iln dX8_faultOf_0 rfl rfl ?_
  refine j_aln dX8_faultOf_1 rfl rfl ?_
  refine j_S2d mf_X8_isUnfit ml_X8_48 dX8_faultOf_2 (Nat.le_of_ble_eq_true rfl) (Nat.le_of_ble_eq_true rfl) (Nat.le_of_ble_eq_true rfl) ⟨(Nat.le_of_ble_eq_true rfl), (Nat.le_of_ble_eq_true rfl)⟩ c_X8_isUnfit ?_
  refine j_ifeq (tgt := 11) dX8_faultOf_5 (by decide) (fun h5 => ?_) (fun h5 => ?_)
  · have hu := bI_eq.mp h5
    refine j_iln dX8_faultOf_11 rfl rfl ?_
    refine j_biN 101 dX8_faultOf_12 rfl ?_
    refine j_iceq (tgt := 20) dX8_faultOf_14 (by decide) (fun h14 => ?_) (fun h14 => ?_)
    · obtain ⟨s, hs6, hs1⟩ := un_e hu h14
      refine j_aln dX8_faultOf_20 rfl rfl ?_
      refine j_aln dX8_faultOf_21 rfl rfl ?_
      refine j_icN 0 dX8_faultOf_22 rfl ?_
      refine j_aildN dX8_faultOf_23 rfl rfl rfl (by decide) (by omega) ?_
      refine j_aln dX8_faultOf_24 rfl rfl ?_
      refine j_icN 1 dX8_faultOf_25 rfl ?_
      refine j_aildN dX8_faultOf_26 rfl rfl rfl (by decide) (by omega) ?_
      refine j_topi hs1 ?_
      refine j_aln dX8_faultOf_27 rfl rfl ?_
      refine g_X8_1 dX8_faultOf_28 fl_X8_18 ?_
      refine j_V3n mf_X0_choose ml_X8_52 dX8_faultOf_31 (Nat.le_of_ble_eq_true rfl) (Nat.le_of_ble_eq_true rfl) (Nat.le_of_ble_eq_true rfl) ⟨(Nat.le_of_ble_eq_true rfl), (Nat.le_of_ble_eq_true rfl)⟩ (by first | assumption | decide | (simp only [nv] at *; omega)) rfl rfl (c_X0_chooseA hb (show 16 < nv 7 by decide) (show ¬ b = 16 from fun q => absurd (show b < 15 from hb) (by omega)) hs6) ?_
      refine j_aln dX8_faultOf_34 rfl rfl ?_
      refine j_aln dX8_faultOf_35 rfl rfl ?_
      refine g_X8_1 dX8_faultOf_36 fl_X8_18 ?_
      refine j_V1g mf_X8_countPieces ml_X8_56 dX8_faultOf_39 (Nat.le_of_ble_eq_true rfl) (Nat.le_of_ble_eq_true rfl) (Nat.le_of_ble_eq_true rfl) ⟨(Nat.le_of_ble_eq_true rfl), (Nat.le_of_ble_eq_true rfl)⟩ (by first | assumption | decide | (simp only [nv] at *; omega)) rfl rfl (c_X8_countPieces (show 16 < nv 7 by decide)) ?_
      intro v M9 h9
      obtain ⟨rfl, R, P, rfl⟩ := h9
      refine j_ist_4 dX8_faultOf_42 (by decide) rfl ?_
      refine j_il dX8_faultOf_44 rfl ?_
      refine j_ifne (tgt := 52) dX8_faultOf_46 (by decide) (fun h46 => ?_) (fun h46 => ?_)
      · refine j_il dX8_faultOf_52 rfl ?_
        refine j_icN 1 dX8_faultOf_54 rfl ?_
        refine j_icne (tgt := 63) dX8_faultOf_55 (by decide) (fun h55 => ?_) (fun h55 => ?_)
        · have hr : ftX kd (mI M 29) (mL M b) (mK M b) = nI 100 := by unfold ftX; rw [if_neg (by rw [hu]; decide), if_pos h14, hs1]; rw [if_neg (show ¬ nI (pcX (chA (mL M b) (mK M b) (mI M 29 0) (nI s))) = 0 from h46)]; exact if_neg h55
          refine j_biN 100 dX8_faultOf_63 rfl ?_
          exact j_iret dX8_faultOf_65 rfl (by decide) (Nat.le_of_ble_eq_true rfl) (Nat.le_of_ble_eq_true rfl) ⟨by rw [hr], frX_3 M _ R P, fun _ _ => by rw [hs1]; rfl⟩
        · have hr : ftX kd (mI M 29) (mL M b) (mK M b) = nI 45 := by unfold ftX; rw [if_neg (by rw [hu]; decide), if_pos h14, hs1]; rw [if_neg (show ¬ nI (pcX (chA (mL M b) (mK M b) (mI M 29 0) (nI s))) = 0 from h46)]; exact if_pos h55
          refine j_biN 45 dX8_faultOf_58 rfl ?_
          refine j_goto (tgt := 65) dX8_faultOf_60 (by decide) ?_
          exact j_iret dX8_faultOf_65 rfl (by decide) (Nat.le_of_ble_eq_true rfl) (Nat.le_of_ble_eq_true rfl) ⟨by rw [hr], frX_3 M _ R P, fun _ _ => by rw [hs1]; rfl⟩
      · have hr : ftX kd (mI M 29) (mL M b) (mK M b) = nI 108 := by unfold ftX; rw [if_neg (by rw [hu]; decide), if_pos h14, hs1]; exact if_pos h46
        refine j_biN 108 dX8_faultOf_49 rfl ?_
        exact j_iret dX8_faultOf_51 rfl (by decide) (Nat.le_of_ble_eq_true rfl) (Nat.le_of_ble_eq_true rfl) ⟨by rw [hr], frX_3 M _ R P, fun _ _ => by rw [hs1]; rfl⟩
    · have hr : ftX kd (mI M 29) (mL M b) (mK M b) = nI 45 := by unfold ftX; rw [if_neg (by rw [hu]; decide), if_neg h14]
      refine j_biN 45 dX8_faultOf_17 rfl ?_
      exact j_iret dX8_faultOf_19 rfl (by decide) (Nat.le_of_ble_eq_true rfl) (Nat.le_of_ble_eq_true rfl) ⟨by rw [hr], frX_rfl M _, fun _ q => absurd q h14⟩
  · have hu := bI_ne.mp h5
    have hr : ftX kd (mI M 29) (mL M b) (mK M b) = nI 120 := if_pos hu
    refine j_biN 120 dX8_faultOf_8 rfl ?_
    exact j_iret dX8_faultOf_10 rfl (by decide) (Nat.le_of_ble_eq_true rfl) (Nat.le_of_ble_eq_true rfl) ⟨by rw [hr], frX_rfl M _, fun q => absurd (hu.symm.trans q) (by decide)⟩
set_option maxRecDepth 100000 in
set_option maxHeartbeats 4000000 in
theorem c_X8_reshape {l : Launch} {E : Ev} {M : Mm} {c q : Nat} {kd : Int32} (hc : c < nv 7) (hq : q < nv 7) (hne : ¬ q = c) (hc15 : ¬ c = 15) (hc16 : ¬ c = 16) (hs : ¬ kd = nI 98 → ¬ kd = nI 99 → ¬ kd = nI 105 → ¬ kd = nI 109 → ¬ kd = nI 112 → ¬ kd = nI 104 → ∃ s, s < 6 ∧ mI M 29 1 = nI s) : Ct l E yX8_reshape cX8_reshape 5 none 4 0 0 [.ref (eA E 4 0), .int kd, .ref (eA E 29 0), .ref (eA E 7 q), .ref (eA E 7 c)] M (fun v M1 => v = none ∧ frX M M1 (fun x => x = 15 ∨ x = c) ∧ ∃ B, (bxK kd → boxOK (mI M 29) B) ∧ mL M1 c = reF kd (mI M 29) B (mL M q) (mL M c) (mL M 16)) := by
  refine Ct.of (own := RX8) rfl [some (.ref (eA E 4 0)), some (.int kd), some (.ref (eA E 29 0)), some (.ref (eA E 7 q)), some (.ref (eA E 7 c))] (by decide) (Nat.le_of_ble_eq_true rfl) rfl ?_
  refine j_iln dX8_reshape_0 rfl rfl ?_
  refine j_biN 98 dX8_reshape_1 rfl ?_
  refine j_icne (tgt := 26) dX8_reshape_3 (by decide) (fun h3 => ?_) (fun h3 => ?_)
  · refine j_iln dX8_reshape_26 rfl rfl ?_
    refine j_biN 99 dX8_reshape_27 rfl ?_
    refine j_icne (tgt := 52) dX8_reshape_29 (by decide) (fun h29 => ?_) (fun h29 => ?_)
    · refine j_iln dX8_reshape_52 rfl rfl ?_
      refine j_biN 105 dX8_reshape_53 rfl ?_
      refine j_icne (tgt := 78) dX8_reshape_55 (by decide) (fun h55 => ?_) (fun h55 => ?_)
      · refine j_iln dX8_reshape_78 rfl rfl ?_
        refine j_biN 109 dX8_reshape_79 rfl ?_
        refine j_icne (tgt := 103) dX8_reshape_81 (by decide) (fun h81 => ?_) (fun h81 => ?_)
        · refine j_iln dX8_reshape_103 rfl rfl ?_
          refine j_biN 112 dX8_reshape_104 rfl ?_
          refine j_icne (tgt := 119) dX8_reshape_106 (by decide) (fun h106 => ?_) (fun h106 => ?_)
          · refine j_iln dX8_reshape_119 rfl rfl ?_
            refine j_biN 104 dX8_reshape_120 rfl ?_
            refine j_icne (tgt := 134) dX8_reshape_122 (by decide) (fun h122 => ?_) (fun h122 => ?_)
            · obtain ⟨s, hs6, hs1⟩ := hs h3 h29 h55 h81 h106 h122
              have e1 : ntX (mI M 29 1) = s := by rw [hs1, ntX_nI (by omega)]
              have hr : ∀ B, reF kd (mI M 29) B (mL M q) (mL M c) (mL M 16) = rpX (mL M 16) (mI M 29 2) (fun k => pay (s / 2) 0 ((if s % 2 = 0 then (-1) else nI 1) * nI k)) (fun k => pay (s / 2) 1 ((if s % 2 = 0 then (-1) else nI 1) * nI k)) (fun k => pay (s / 2) 2 ((if s % 2 = 0 then (-1) else nI 1) * nI k)) (mL M c) := by intro B; unfold reF; rw [if_neg h3, if_neg h29, if_neg h55, if_neg h81, if_neg h106, if_neg h122, e1]
              refine j_aln dX8_reshape_134 rfl rfl ?_
              refine j_aln dX8_reshape_135 rfl rfl ?_
              refine j_icN 1 dX8_reshape_136 rfl ?_
              refine j_aildN dX8_reshape_137 rfl rfl rfl (by decide) (by omega) ?_
              refine j_topi hs1 ?_
              refine j_aln dX8_reshape_138 rfl rfl ?_
              refine j_icN 2 dX8_reshape_139 rfl ?_
              refine j_aildN dX8_reshape_140 rfl rfl rfl (by decide) (by omega) ?_
              refine j_al dX8_reshape_141 rfl ?_
              refine j_V3n mf_X8_push ml_X8_92 dX8_reshape_143 (Nat.le_of_ble_eq_true rfl) (Nat.le_of_ble_eq_true rfl) (Nat.le_of_ble_eq_true rfl) ⟨(Nat.le_of_ble_eq_true rfl), (Nat.le_of_ble_eq_true rfl)⟩ (by first | assumption | decide | (simp only [nv] at *; omega)) rfl rfl (c_X8_push hc hc16 hs6 rfl) ?_
              exact j_vret dX8_reshape_146 rfl (Nat.le_of_ble_eq_true rfl) (Nat.le_of_ble_eq_true rfl) ⟨rfl, ⟨rfl, rfl, fun x hx => by rw [mL_sL, if_neg (fun e => hx (Or.inr e))]⟩, mL M 15, fun hb => absurd hb (fun hb => hb.elim h3 (fun hb => hb.elim h29 h55)), by rw [mL_sL, if_pos rfl, hr]⟩
            · have hr : ∀ B, reF kd (mI M 29) B (mL M q) (mL M c) (mL M 16) = fun z => mL M c z &&& (inr (mL M q) z 6 ^^^ -1) := by intro B; unfold reF; rw [if_neg h3, if_neg h29, if_neg h55, if_neg h81, if_neg h106, if_pos h122]
              refine j_al dX8_reshape_125 rfl ?_
              refine j_aln dX8_reshape_127 rfl rfl ?_
              refine j_V1n mf_X1_takeOutInner ml_X8_89 dX8_reshape_128 (Nat.le_of_ble_eq_true rfl) (Nat.le_of_ble_eq_true rfl) (Nat.le_of_ble_eq_true rfl) ⟨(Nat.le_of_ble_eq_true rfl), (Nat.le_of_ble_eq_true rfl)⟩ (by first | assumption | decide | (simp only [nv] at *; omega)) rfl rfl (c_X1_takeOutInner hc hq hne) ?_
              refine j_goto (tgt := 146) dX8_reshape_131 (by decide) ?_
              exact j_vret dX8_reshape_146 rfl (Nat.le_of_ble_eq_true rfl) (Nat.le_of_ble_eq_true rfl) ⟨rfl, ⟨rfl, rfl, fun x hx => by rw [mL_sL, if_neg (fun e => hx (Or.inr e))]⟩, mL M 15, fun hb => absurd hb (fun hb => hb.elim h3 (fun hb => hb.elim h29 h55)), by rw [mL_sL, if_pos rfl, hr]⟩
          · have hr : ∀ B, reF kd (mI M 29) B (mL M q) (mL M c) (mL M 16) = rpX (mL M q) (mI M 29 3) (fun k => mI M 29 0 * nI k) (fun k => mI M 29 1 * nI k) (fun k => mI M 29 2 * nI k) (mL M c) := by intro B; unfold reF; rw [if_neg h3, if_neg h29, if_neg h55, if_neg h81, if_pos h106]
            refine j_aln dX8_reshape_109 rfl rfl ?_
            refine j_aln dX8_reshape_110 rfl rfl ?_
            refine j_al dX8_reshape_111 rfl ?_
            refine j_S3n mf_X8_repeat ml_X8_85 dX8_reshape_113 (Nat.le_of_ble_eq_true rfl) (Nat.le_of_ble_eq_true rfl) (Nat.le_of_ble_eq_true rfl) ⟨(Nat.le_of_ble_eq_true rfl), (Nat.le_of_ble_eq_true rfl)⟩ (c_X8_repeat hc hq hne) ?_
            refine j_goto (tgt := 146) dX8_reshape_116 (by decide) ?_
            exact j_vret dX8_reshape_146 rfl (Nat.le_of_ble_eq_true rfl) (Nat.le_of_ble_eq_true rfl) ⟨rfl, ⟨rfl, rfl, fun x hx => by rw [mL_sL, if_neg (fun e => hx (Or.inr e))]⟩, mL M 15, fun hb => absurd hb (fun hb => hb.elim h3 (fun hb => hb.elim h29 h55)), by rw [mL_sL, if_pos rfl, hr]⟩
        · have hr : ∀ B, reF kd (mI M 29) B (mL M q) (mL M c) (mL M 16) = mrX (mL M q) (mI M 29 0) (nI 2 * mI M 29 1 - nI 1) (mL M c) := by intro B; unfold reF; rw [if_neg h3, if_neg h29, if_neg h55, if_pos h81]
          refine j_aln dX8_reshape_84 rfl rfl ?_
          refine j_icN 0 dX8_reshape_85 rfl ?_
          refine j_aildN dX8_reshape_86 rfl rfl rfl (by decide) (by omega) ?_
          refine j_icN 2 dX8_reshape_87 rfl ?_
          refine j_aln dX8_reshape_88 rfl rfl ?_
          refine j_icN 1 dX8_reshape_89 rfl ?_
          refine j_aildN dX8_reshape_90 rfl rfl rfl (by decide) (by omega) ?_
          refine j_imul dX8_reshape_91 ?_
          refine j_icN 1 dX8_reshape_92 rfl ?_
          refine j_isub dX8_reshape_93 ?_
          refine j_aln dX8_reshape_94 rfl rfl ?_
          refine j_al dX8_reshape_95 rfl ?_
          refine j_S4n mf_X8_mirror ml_X8_81 dX8_reshape_97 (Nat.le_of_ble_eq_true rfl) (Nat.le_of_ble_eq_true rfl) (Nat.le_of_ble_eq_true rfl) ⟨(Nat.le_of_ble_eq_true rfl), (Nat.le_of_ble_eq_true rfl)⟩ (c_X8_mirror hc hq hne) ?_
          refine j_goto (tgt := 146) dX8_reshape_100 (by decide) ?_
          exact j_vret dX8_reshape_146 rfl (Nat.le_of_ble_eq_true rfl) (Nat.le_of_ble_eq_true rfl) ⟨rfl, ⟨rfl, rfl, fun x hx => by rw [mL_sL, if_neg (fun e => hx (Or.inr e))]⟩, mL M 15, fun hb => absurd hb (fun hb => hb.elim h3 (fun hb => hb.elim h29 h55)), by rw [mL_sL, if_pos rfl, hr]⟩
      · refine j_aln dX8_reshape_58 rfl rfl ?_
        refine g_X8_0 dX8_reshape_59 fl_X8_12 ?_
        refine j_aln dX8_reshape_62 rfl rfl ?_
        refine j_V1g mf_X1_fillBox ml_X8_67 dX8_reshape_63 (Nat.le_of_ble_eq_true rfl) (Nat.le_of_ble_eq_true rfl) (Nat.le_of_ble_eq_true rfl) ⟨(Nat.le_of_ble_eq_true rfl), (Nat.le_of_ble_eq_true rfl)⟩ (by first | assumption | decide | (simp only [nv] at *; omega)) rfl rfl (c_X1_fillBox (show 15 < nv 7 by decide)) ?_
        intro v M9 h9
        obtain ⟨rfl, B, rfl, hB⟩ := h9
        refine j_al dX8_reshape_66 rfl ?_
        refine j_aln dX8_reshape_68 rfl rfl ?_
        refine g_X8_0 dX8_reshape_69 fl_X8_12 ?_
        refine j_V1n mf_X1_keepOnly ml_X8_78 dX8_reshape_72 (Nat.le_of_ble_eq_true rfl) (Nat.le_of_ble_eq_true rfl) (Nat.le_of_ble_eq_true rfl) ⟨(Nat.le_of_ble_eq_true rfl), (Nat.le_of_ble_eq_true rfl)⟩ (by first | assumption | decide | (simp only [nv] at *; omega)) rfl rfl (c_X1_keepOnly hc (show 15 < nv 7 by decide) (fun e => hc15 e.symm)) ?_
        refine j_goto (tgt := 146) dX8_reshape_75 (by decide) ?_
        exact j_vret dX8_reshape_146 rfl (Nat.le_of_ble_eq_true rfl) (Nat.le_of_ble_eq_true rfl) ⟨rfl, ⟨rfl, rfl, fun x hx => by rw [mL_sL, if_neg (fun e => hx (Or.inr e)), mL_sL, if_neg (fun e => hx (Or.inl e))]⟩, B, fun _ => hB, by rw [mL_sL, if_pos rfl]; unfold reF; rw [if_neg h3, if_neg h29, if_pos h55]; funext z; rw [mL_sL, if_neg hc15, mL_sL, if_pos rfl]⟩
    · refine j_aln dX8_reshape_32 rfl rfl ?_
      refine g_X8_0 dX8_reshape_33 fl_X8_12 ?_
      refine j_aln dX8_reshape_36 rfl rfl ?_
      refine j_V1g mf_X1_fillBox ml_X8_67 dX8_reshape_37 (Nat.le_of_ble_eq_true rfl) (Nat.le_of_ble_eq_true rfl) (Nat.le_of_ble_eq_true rfl) ⟨(Nat.le_of_ble_eq_true rfl), (Nat.le_of_ble_eq_true rfl)⟩ (by first | assumption | decide | (simp only [nv] at *; omega)) rfl rfl (c_X1_fillBox (show 15 < nv 7 by decide)) ?_
      intro v M9 h9
      obtain ⟨rfl, B, rfl, hB⟩ := h9
      refine j_al dX8_reshape_40 rfl ?_
      refine j_aln dX8_reshape_42 rfl rfl ?_
      refine g_X8_0 dX8_reshape_43 fl_X8_12 ?_
      refine j_V1n mf_X1_takeOutAll ml_X8_75 dX8_reshape_46 (Nat.le_of_ble_eq_true rfl) (Nat.le_of_ble_eq_true rfl) (Nat.le_of_ble_eq_true rfl) ⟨(Nat.le_of_ble_eq_true rfl), (Nat.le_of_ble_eq_true rfl)⟩ (by first | assumption | decide | (simp only [nv] at *; omega)) rfl rfl (c_X1_takeOutAll hc (show 15 < nv 7 by decide) (fun e => hc15 e.symm)) ?_
      refine j_goto (tgt := 146) dX8_reshape_49 (by decide) ?_
      exact j_vret dX8_reshape_146 rfl (Nat.le_of_ble_eq_true rfl) (Nat.le_of_ble_eq_true rfl) ⟨rfl, ⟨rfl, rfl, fun x hx => by rw [mL_sL, if_neg (fun e => hx (Or.inr e)), mL_sL, if_neg (fun e => hx (Or.inl e))]⟩, B, fun _ => hB, by rw [mL_sL, if_pos rfl]; unfold reF; rw [if_neg h3, if_pos h29]; funext z; rw [mL_sL, if_neg hc15, mL_sL, if_pos rfl]⟩
  · refine j_aln dX8_reshape_6 rfl rfl ?_
    refine g_X8_0 dX8_reshape_7 fl_X8_12 ?_
    refine j_aln dX8_reshape_10 rfl rfl ?_
    refine j_V1g mf_X1_fillBox ml_X8_67 dX8_reshape_11 (Nat.le_of_ble_eq_true rfl) (Nat.le_of_ble_eq_true rfl) (Nat.le_of_ble_eq_true rfl) ⟨(Nat.le_of_ble_eq_true rfl), (Nat.le_of_ble_eq_true rfl)⟩ (by first | assumption | decide | (simp only [nv] at *; omega)) rfl rfl (c_X1_fillBox (show 15 < nv 7 by decide)) ?_
    intro v M9 h9
    obtain ⟨rfl, B, rfl, hB⟩ := h9
    refine j_al dX8_reshape_14 rfl ?_
    refine j_aln dX8_reshape_16 rfl rfl ?_
    refine g_X8_0 dX8_reshape_17 fl_X8_12 ?_
    refine j_V1n mf_X1_addAll ml_X8_71 dX8_reshape_20 (Nat.le_of_ble_eq_true rfl) (Nat.le_of_ble_eq_true rfl) (Nat.le_of_ble_eq_true rfl) ⟨(Nat.le_of_ble_eq_true rfl), (Nat.le_of_ble_eq_true rfl)⟩ (by first | assumption | decide | (simp only [nv] at *; omega)) rfl rfl (c_X1_addAll hc (show 15 < nv 7 by decide) (fun e => hc15 e.symm)) ?_
    refine j_goto (tgt := 146) dX8_reshape_23 (by decide) ?_
    exact j_vret dX8_reshape_146 rfl (Nat.le_of_ble_eq_true rfl) (Nat.le_of_ble_eq_true rfl) ⟨rfl, ⟨rfl, rfl, fun x hx => by rw [mL_sL, if_neg (fun e => hx (Or.inr e)), mL_sL, if_neg (fun e => hx (Or.inl e))]⟩, B, fun _ => hB, by rw [mL_sL, if_pos rfl]; unfold reF; rw [if_pos h3]; funext z; rw [mL_sL, if_neg hc15, mL_sL, if_pos rfl]⟩
def coP (M : Mm) (b q f : Nat) (kd : Int32) (M1 : Mm) : Prop := mI M1 = mI M ∧ M1.2.2.2 = M.2.2.2 ∧ (∀ c, ¬ (15 ≤ c ∧ c ≤ 18) → ¬ c = b → mL M1 c = mL M c) ∧ (∀ c, ¬ c = b → mK M1 c = mK M c) ∧
  (ftX kd (mI M 29) (mL M q) (mK M q) = nI 45 → ∃ B H, (bxK kd → boxOK (mI M 29) B) ∧ (kd = nI 101 → H = chA (mL M q) (mK M q) (mI M 29 0) (mI M 29 1)) ∧ mL M1 b = reF kd (mI M 29) B (mL M q) (mL M q) H ∧ mK M1 b = nmq (mL M1 b) (mL M q) (mK M q) f) ∧
  (¬ ftX kd (mI M 29) (mL M q) (mK M q) = nI 45 → mL M1 b = mL M q ∧ mK M1 b = mK M q)
theorem ft_un {kd : Int32} {a : Nat → Int32} {f K : Nat → Int64} (h : ftX kd a f K = nI 45) : unX kd a = false := by
  cases e : unX kd a
  · rfl
  · unfold ftX at h; rw [if_pos e] at h; exact absurd h (by decide)
theorem ft_nar (kd : Int32) (a : Nat → Int32) (f K : Nat → Int64) : narrow .char (.int (ftX kd a f K)) = .int (ftX kd a f K) := by
  unfold ftX
  split
  · rfl
  · split
    · split
      · rfl
      · split <;> rfl
    · rfl
set_option maxRecDepth 100000 in
set_option maxHeartbeats 4000000 in
theorem c_X8_carryOut {l : Launch} {E : Ev} {M : Mm} {b q f : Nat} {kd : Int32} (hb : b < nv 6) (hq : q < nv 6) (hne : ¬ q = b) (hf : f < 40) (hk : seven kd) (hb15 : b < 15) (hq15 : q < 15) : Ct l E yX8_carryOut cX8_carryOut 7 (some .char) 5 0 0 [.ref (eA E 4 0), .int kd, .int (nI f), .ref (eA E 29 0), .ref (eA E 6 q), .ref (eA E 6 b)] M (fun v M1 => v = some (.int (ftX kd (mI M 29) (mL M q) (mK M q))) ∧ coP M b q f kd M1) := by
  refine Ct.of (own := RX8) rfl [some (.ref (eA E 4 0)), some (.int kd), some (.int (nI f)), some (.ref (eA E 29 0)), some (.ref (eA E 6 q)), some (.ref (eA E 6 b)), none] (by decide) (Nat.le_of_ble_eq_true rfl) rfl ?_
  refine j_al dX8_carryOut_0 rfl ?_
  refine j_al dX8_carryOut_2 rfl ?_
  refine j_V1n mf_X0_copyFrom ml_X8_27 dX8_carryOut_4 (Nat.le_of_ble_eq_true rfl) (Nat.le_of_ble_eq_true rfl) (Nat.le_of_ble_eq_true rfl) ⟨(Nat.le_of_ble_eq_true rfl), (Nat.le_of_ble_eq_true rfl)⟩ (by first | assumption | decide | (simp only [nv] at *; omega)) rfl rfl (c_X0_copyFrom hb hq) ?_
  refine j_aln dX8_carryOut_7 rfl rfl ?_
  refine j_iln dX8_carryOut_8 rfl rfl ?_
  refine j_aln dX8_carryOut_9 rfl rfl ?_
  refine j_al dX8_carryOut_10 rfl ?_
  refine j_V3g mf_X8_faultOf ml_X8_33 dX8_carryOut_12 (Nat.le_of_ble_eq_true rfl) (Nat.le_of_ble_eq_true rfl) (Nat.le_of_ble_eq_true rfl) ⟨(Nat.le_of_ble_eq_true rfl), (Nat.le_of_ble_eq_true rfl)⟩ (by first | assumption | decide | (simp only [nv] at *; omega)) rfl rfl (c_X8_faultOf hq) ?_
  intro v M9 h9
  obtain ⟨rfl, ⟨f1, f2, f3⟩, hch⟩ := h9
  have hft : ftX kd (mI (sK (sL M b (mL M q)) b (mK M q)) 29) (mL (sK (sL M b (mL M q)) b (mK M q)) q) (mK (sK (sL M b (mL M q)) b (mK M q)) q) = ftX kd (mI M 29) (mL M q) (mK M q) := by rw [mL_sK, mL_sL, if_neg hne, mK_sK, if_neg hne]; rfl
  rw [hft]
  refine j_ist_6 dX8_carryOut_15 (by decide) rfl ?_
  refine j_il dX8_carryOut_17 rfl ?_
  refine j_biN 45 dX8_carryOut_19 rfl ?_
  refine j_icne (tgt := 48) dX8_carryOut_21 (by decide) (fun h21 => ?_) (fun h21 => ?_)
  · refine j_il dX8_carryOut_48 rfl ?_
    exact j_iret dX8_carryOut_50 rfl (ft_nar _ _ _ _) (Nat.le_of_ble_eq_true rfl) (Nat.le_of_ble_eq_true rfl) ⟨rfl, f1, (congrArg Prod.snd f2 : _), fun c hc hcb => by rw [f3 c (fun e => hc (by omega)), mL_sK, mL_sL, if_neg hcb], fun c hcb => by show M9.2.2.1 c = _; rw [f2]; exact if_neg hcb, fun q => absurd q h21, fun _ => ⟨by rw [f3 b (fun e => absurd hb15 (by omega)), mL_sK, mL_sL, if_pos rfl], by show M9.2.2.1 b = _; rw [f2]; exact if_pos rfl⟩⟩
  · refine j_aln dX8_carryOut_24 rfl rfl ?_
    refine j_iln dX8_carryOut_25 rfl rfl ?_
    refine j_aln dX8_carryOut_26 rfl rfl ?_
    refine j_al dX8_carryOut_27 rfl ?_
    refine g_X0_0 dX8_carryOut_29 fl_X8_37 hq ?_
    refine j_al dX8_carryOut_32 rfl ?_
    refine g_X0_0 dX8_carryOut_34 fl_X8_37 hb ?_
    refine j_V4g mf_X8_reshape ml_X8_40 dX8_carryOut_37 (Nat.le_of_ble_eq_true rfl) (Nat.le_of_ble_eq_true rfl) (Nat.le_of_ble_eq_true rfl) ⟨(Nat.le_of_ble_eq_true rfl), (Nat.le_of_ble_eq_true rfl)⟩ (by first | assumption | decide | (simp only [nv] at *; omega)) rfl rfl (c_X8_reshape (show b < 25 by omega) (show q < 25 by omega) hne (by omega) (by omega) (fun a1 a2 a3 a4 a5 a6 => by rw [f1]; exact un_e (ft_un h21) (by rcases hk with h | h | h | h | h | h | h <;> first | exact absurd h (by assumption) | exact h))) ?_
    intro v8 M8 h8
    obtain ⟨rfl, ⟨g1, g2, g3⟩, B, hB, hBe⟩ := h8
    have hLq : mL M8 q = mL M q := by rw [g3 q (fun e => e.elim (fun e => absurd hq15 (by omega)) hne), f3 q (fun e => absurd hq15 (by omega)), mL_sK, mL_sL, if_neg hne]
    have hLb : mL M9 b = mL M q := by rw [f3 b (fun e => absurd hb15 (by omega)), mL_sK, mL_sL, if_pos rfl]
    have hLq9 : mL M9 q = mL M q := by rw [f3 q (fun e => absurd hq15 (by omega)), mL_sK, mL_sL, if_neg hne]
    have hK9 : ∀ c, mK M8 c = if c = b then mK M q else mK M c := by
      intro c
      show M8.2.2.1 c = _
      rw [g2, f2]; rfl
    have hKq : mK M8 q = mK M q := by rw [hK9, if_neg hne]
    have hBe2 : mL M8 b = reF kd (mI M 29) B (mL M q) (mL M q) (mL M9 16) := by rw [hBe, f1, hLq9, hLb]; rfl
    refine j_al dX8_carryOut_40 rfl ?_
    refine j_al dX8_carryOut_42 rfl ?_
    refine j_iln dX8_carryOut_44 rfl rfl ?_
    refine j_V2n mf_X0_nameSquares ml_X8_44 dX8_carryOut_45 (Nat.le_of_ble_eq_true rfl) (Nat.le_of_ble_eq_true rfl) (Nat.le_of_ble_eq_true rfl) ⟨(Nat.le_of_ble_eq_true rfl), (Nat.le_of_ble_eq_true rfl)⟩ (by first | assumption | decide | (simp only [nv] at *; omega)) rfl rfl (c_X0_nameSquares hb hq hne hf) ?_
    refine j_il dX8_carryOut_48 rfl ?_
    exact j_iret dX8_carryOut_50 rfl (ft_nar _ _ _ _) (Nat.le_of_ble_eq_true rfl) (Nat.le_of_ble_eq_true rfl) ⟨rfl, g1.trans f1, (congrArg Prod.snd (g2.trans f2) : _), fun c hc hcb => by rw [mL_sK, g3 c (fun e => e.elim (fun e => hc (by omega)) hcb), f3 c (fun e => hc (by omega)), mL_sK, mL_sL, if_neg hcb], fun c hcb => by rw [mK_sK, if_neg hcb, hK9, if_neg hcb], fun _ => ⟨B, mL M9 16, fun hb => by have := hB hb; rw [f1] at this; exact this, fun hk => by rw [hch (ft_un h21) hk]; rw [mL_sK, mL_sL, if_neg hne]; rw [mK_sK, if_neg hne]; rfl, by rw [mL_sK]; exact hBe2, by rw [mK_sK, if_pos rfl, mL_sK, hLq, hKq]⟩, fun q => absurd h21 q⟩
