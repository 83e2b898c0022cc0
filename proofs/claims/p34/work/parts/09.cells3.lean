/-! the class Cells, third: single cells, rows, sliding; Math; Integer.bitCount -/
theorem insd_of {x y z : Int32} (h : insd x y z = true) : ∃ a b d : Nat, a < 8 ∧ b < 8 ∧ d < 8 ∧ x = nI a ∧ y = nI b ∧ z = nI d := by
  have h := of_decide_eq_true h
  have key : ∀ w : Int32, ¬ w < 0 → ¬ nI 8 ≤ w → ∃ a : Nat, a < 8 ∧ w = nI a := by
    intro w h1 h2
    obtain ⟨a, ha, rfl⟩ := nI_of h1
    exact ⟨a, Nat.lt_of_not_le fun g => h2 (nI_le g ha), rfl⟩
  obtain ⟨a, ha, e1⟩ := key x h.1 h.2.1
  obtain ⟨b, hb, e2⟩ := key y h.2.2.1 h.2.2.2.1
  obtain ⟨d, hd, e3⟩ := key z h.2.2.2.2.1 h.2.2.2.2.2
  exact ⟨a, b, d, ha, hb, hd, e1, e2, e3⟩
theorem insd_n {a b d : Nat} (ha : a < 8) (hb : b < 8) (hd : d < 8) : insd (nI a) (nI b) (nI d) = true :=
  decide_eq_true ⟨nI_pos (by omega), nI_ge ha (by omega), nI_pos (by omega), nI_ge hb (by omega), nI_pos (by omega), nI_ge hd (by omega)⟩
theorem cl8 {a : Nat} (h : a < 8) : (nI a).toNatClampNeg = a := nI_clamp (by omega)
/-- the bit of a word -/
def bw (w : Int64) (k : Nat) : Bool := w.toBitVec.getLsbD k
/-- whether a cell is in a set -/
def cel (f : Nat → Int64) (x y z : Int32) : Bool := insd x y z && bw (f z.toNatClampNeg) (y.toNatClampNeg * 8 + x.toNatClampNeg)
def ptf (f : Nat → Int64) (x y z : Int32) : Nat → Int64 := if insd x y z = true then vp_updL f z.toNatClampNeg (f z.toNatClampNeg ||| shl 1 (y.toNatClampNeg * 8 + x.toNatClampNeg)) else f
def rowI (f : Nat → Int64) (y z : Int32) : Int32 := if insd 0 y z = true then (shr (f z.toNatClampNeg) (y.toNatClampNeg * 8) &&& 255).toInt32 else 0
theorem bit1 (w : Int64) (k : Nat) : shr w k &&& 1 = 1 ↔ bw w k = true := by
  have key : (shr w k &&& 1).toBitVec = if w.toBitVec.getLsbD k then 1#64 else 0#64 := by
    apply BitVec.eq_of_getLsbD_eq
    intro i hi
    show (w.toBitVec >>> k &&& 1#64).getLsbD i = _
    rw [BitVec.getLsbD_and, BitVec.getLsbD_ushiftRight]
    by_cases h0 : i = 0
    · subst h0
      cases h : w.toBitVec.getLsbD k <;> simp [h]
    · have : (1#64).getLsbD i = false := by
        rw [BitVec.getLsbD_one]; simp [h0]
      rw [this]
      split <;> simp [this]
  constructor
  · intro h
    have h2 : (shr w k &&& 1).toBitVec = 1#64 := by rw [h]; rfl
    rw [key] at h2
    unfold bw
    split at h2
    · assumption
    · exact absurd h2 (by decide)
  · intro h
    apply Int64.toBitVec_inj.mp
    have h : w.toBitVec.getLsbD k = true := h
    rw [key, if_pos h]
    rfl
theorem c_X1_bitOfN {l : Launch} {E : Ev} {M : Mm} {a b : Nat} : Ct l E yX1_bitOf cX1_bitOf 2 (some .int) 1 0 0 [.int (nI a), .int (nI b)] M (dv (.int (nI (b * 8 + a))) M) := by
  have h := @c_X1_bitOf l E M (nI a) (nI b)
  rw [pk_mul, nI_add] at h
  exact h
set_option maxRecDepth 100000 in
set_option maxHeartbeats 4000000 in
theorem c_X1_contains {l : Launch} {E : Ev} {M : Mm} {c : Nat} {x y z : Int32} (hc : c < nv 7) : Ct l E yX1_contains cX1_contains 4 (some .boolean) 2 0 0 [.ref (eA E 7 c), .int x, .int y, .int z] M (dv (.int (bI (cel (mL M c) x y z))) M) := by
  refine Ct.of (own := RX1) rfl [some (.ref (eA E 7 c)), some (.int x), some (.int y), some (.int z)] (by decide) (Nat.le_of_ble_eq_true rfl) rfl ?_
  refine j_iln dX1_contains_0 rfl rfl ?_
  refine j_iln dX1_contains_1 rfl rfl ?_
  refine j_iln dX1_contains_2 rfl rfl ?_
  refine j_S3d mf_X1_isInside ml_X1_15 dX1_contains_3 (Nat.le_of_ble_eq_true rfl) (Nat.le_of_ble_eq_true rfl) (Nat.le_of_ble_eq_true rfl) ⟨(Nat.le_of_ble_eq_true rfl), (Nat.le_of_ble_eq_true rfl)⟩ c_X1_isInside ?_
  refine j_ifeq (tgt := 32) dX1_contains_6 (by decide) (fun h6 => ?_) (fun h6 => ?_)
  · have e9 : cel (mL M c) x y z = false := by
      unfold cel; rw [bI_eq.mp h6]; rfl
    refine j_icN 0 dX1_contains_32 rfl ?_
    exact j_iret dX1_contains_33 rfl (by first | exact bI_nar _ | rfl) (Nat.le_of_ble_eq_true rfl) (Nat.le_of_ble_eq_true rfl) ⟨by rw [e9]; rfl, rfl⟩
  · have hin := bI_ne.mp h6
    obtain ⟨a, b, d, ha, hb, hd, rfl, rfl, rfl⟩ := insd_of hin
    refine j_aln dX1_contains_9 rfl rfl ?_
    refine g_X1_0 dX1_contains_10 fl_X1_9 (by first | assumption | decide | (simp only [nv] at *; omega)) ?_
    refine j_iln dX1_contains_13 rfl rfl ?_
    refine j_aldLN dX1_contains_14 (by first | assumption | decide | (simp only [nv] at *; omega)) (by omega) ?_
    refine j_iln dX1_contains_15 rfl rfl ?_
    refine j_iln dX1_contains_16 rfl rfl ?_
    refine j_S2d mf_X1_bitOf ml_X1_19 dX1_contains_17 (Nat.le_of_ble_eq_true rfl) (Nat.le_of_ble_eq_true rfl) (Nat.le_of_ble_eq_true rfl) ⟨(Nat.le_of_ble_eq_true rfl), (Nat.le_of_ble_eq_true rfl)⟩ c_X1_bitOfN ?_
    refine j_lushrN dX1_contains_20 (by omega) ?_
    refine j_lc (v := 1) dX1_contains_21 (by decide) ?_
    refine j_land dX1_contains_22 ?_
    refine j_lc (v := 1) dX1_contains_23 (by decide) ?_
    refine j_lcmp dX1_contains_24 ?_
    refine j_ifne (tgt := 32) dX1_contains_25 (by decide) (fun h25 => ?_) (fun h25 => ?_)
    · have e9 : cel (mL M c) (nI a) (nI b) (nI d) = false := by
        unfold cel; rw [hin, cl8 ha, cl8 hb, cl8 hd, Bool.true_and]
        cases e : bw (mL M c d) (b * 8 + a)
        · rfl
        · exact absurd (lg_eq.mpr ((bit1 _ _).mpr e)) h25
      refine j_icN 0 dX1_contains_32 rfl ?_
      exact j_iret dX1_contains_33 rfl (by first | exact bI_nar _ | rfl) (Nat.le_of_ble_eq_true rfl) (Nat.le_of_ble_eq_true rfl) ⟨by rw [e9]; rfl, rfl⟩
    · have e9 : cel (mL M c) (nI a) (nI b) (nI d) = true := by
        unfold cel; rw [hin, cl8 ha, cl8 hb, cl8 hd, Bool.true_and]
        exact (bit1 _ _).mp (lg_eq.mp h25)
      refine j_icN 1 dX1_contains_28 rfl ?_
      refine j_goto (tgt := 33) dX1_contains_29 (by decide) ?_
      exact j_iret dX1_contains_33 rfl (by first | exact bI_nar _ | rfl) (Nat.le_of_ble_eq_true rfl) (Nat.le_of_ble_eq_true rfl) ⟨by rw [e9]; rfl, rfl⟩
set_option maxRecDepth 100000 in
set_option maxHeartbeats 4000000 in
theorem c_X1_put {l : Launch} {E : Ev} {M : Mm} {c : Nat} {x y z : Int32} (hc : c < nv 7) : Ct l E yX1_put cX1_put 4 none 2 0 0 [.ref (eA E 7 c), .int x, .int y, .int z] M (dn (sL M c (ptf (mL M c) x y z))) := by
  refine Ct.of (own := RX1) rfl [some (.ref (eA E 7 c)), some (.int x), some (.int y), some (.int z)] (by decide) (Nat.le_of_ble_eq_true rfl) rfl ?_
  refine j_iln dX1_put_0 rfl rfl ?_
  refine j_iln dX1_put_1 rfl rfl ?_
  refine j_iln dX1_put_2 rfl rfl ?_
  refine j_S3d mf_X1_isInside ml_X1_15 dX1_put_3 (Nat.le_of_ble_eq_true rfl) (Nat.le_of_ble_eq_true rfl) (Nat.le_of_ble_eq_true rfl) ⟨(Nat.le_of_ble_eq_true rfl), (Nat.le_of_ble_eq_true rfl)⟩ c_X1_isInside ?_
  refine j_ifeq (tgt := 25) dX1_put_6 (by decide) (fun h6 => ?_) (fun h6 => ?_)
  · have e9 : sL M c (ptf (mL M c) x y z) = M := by
      unfold ptf; rw [if_neg (by rw [bI_eq.mp h6]; decide)]; exact sL_id M c
    exact j_vret dX1_put_25 rfl (Nat.le_of_ble_eq_true rfl) (Nat.le_of_ble_eq_true rfl) ⟨rfl, by first | exact e9.symm | (unfold ptf; rw [if_pos hin, cl8 ha, cl8 hb, cl8 hd])⟩
  · have hin := bI_ne.mp h6
    obtain ⟨a, b, d, ha, hb, hd, rfl, rfl, rfl⟩ := insd_of hin
    refine j_aln dX1_put_9 rfl rfl ?_
    refine g_X1_0 dX1_put_10 fl_X1_9 (by first | assumption | decide | (simp only [nv] at *; omega)) ?_
    refine j_iln dX1_put_13 rfl rfl ?_
    refine j_dup2 dX1_put_14 rfl rfl ?_
    refine j_aldLN dX1_put_15 (by first | assumption | decide | (simp only [nv] at *; omega)) (by omega) ?_
    refine j_lc (v := 1) dX1_put_16 (by decide) ?_
    refine j_iln dX1_put_17 rfl rfl ?_
    refine j_iln dX1_put_18 rfl rfl ?_
    refine j_S2d mf_X1_bitOf ml_X1_19 dX1_put_19 (Nat.le_of_ble_eq_true rfl) (Nat.le_of_ble_eq_true rfl) (Nat.le_of_ble_eq_true rfl) ⟨(Nat.le_of_ble_eq_true rfl), (Nat.le_of_ble_eq_true rfl)⟩ c_X1_bitOfN ?_
    refine j_lshlN dX1_put_22 (by omega) ?_
    refine j_lor dX1_put_23 ?_
    refine j_astLN dX1_put_24 (by first | assumption | decide | (simp only [nv] at *; omega)) (by omega) ?_
    exact j_vret dX1_put_25 rfl (Nat.le_of_ble_eq_true rfl) (Nat.le_of_ble_eq_true rfl) ⟨rfl, by first | exact e9.symm | (unfold ptf; rw [if_pos hin, cl8 ha, cl8 hb, cl8 hd])⟩
def mxI (x y : Int32) : Int32 := if x < y then y else x
def mnI (x y : Int32) : Int32 := if y < x then y else x
/-- unsigned shift of an int by a number -/
def shI (x : Int32) (s : Nat) : Int32 := (x.toUInt32 >>> ((nI s).toUInt32 &&& Int32.toUInt32 31)).toInt32
def bci (x : Int32) : Int32 :=
  let a := x - (shI x 1 &&& 1431655765)
  let b := (a &&& 858993459) + (shI a 2 &&& 858993459)
  let c := (b + shI b 4) &&& 252645135
  let d := c + shI c 8
  let e := d + shI d 16
  e &&& nI 63
/-- a layer slid -/
def sldw (w : Int64) (bx bY : Int32) : Int64 :=
  if bx ≤ -8 ∨ nI 8 ≤ bx ∨ bY ≤ -8 ∨ nI 8 ≤ bY then 0 else
    let t := if 0 ≤ bY then shl w (bY.toNatClampNeg * 8) else shr w ((-bY).toNatClampNeg * 8)
    if 0 ≤ bx then shl t bx.toNatClampNeg &&& (72340172838076673 * (shl 255 bx.toNatClampNeg &&& 255)) else shr t (-bx).toNatClampNeg &&& (72340172838076673 * shr 255 (-bx).toNatClampNeg)
theorem sl_p {b : Int32} (h0 : 0 ≤ b) (h8 : ¬ nI 8 ≤ b) : ∃ n : Nat, n < 8 ∧ b = nI n := by
  obtain ⟨a, ha, rfl⟩ := nI_of (Int32.not_lt.mpr h0)
  exact ⟨a, Nat.lt_of_not_le fun g => h8 (nI_le g ha), rfl⟩
theorem sl_n {b : Int32} (h0 : ¬ 0 ≤ b) (h8 : ¬ b ≤ -8) : ∃ n : Nat, n < 8 ∧ -b = nI n := by
  have e1 : b.toInt < 0 := by
    have := Int32.not_le.mp h0
    rw [Int32.lt_iff_toInt_lt] at this
    simpa using this
  have e2 : -8 < b.toInt := by
    have := Int32.not_le.mp h8
    rw [Int32.lt_iff_toInt_lt] at this
    simpa using this
  refine ⟨(-b.toInt).toNat, by omega, ?_⟩
  apply Int32.toInt_inj.mp
  rw [fb_negI (by omega), nI_toInt (by omega)]
  omega
set_option maxRecDepth 100000 in
set_option maxHeartbeats 4000000 in
theorem c_X1_slide {l : Launch} {E : Ev} {M : Mm} {x : Int64} {bx bY : Int32}  : Ct l E yX1_slide cX1_slide 6 (some .long) 1 0 0 [.long x, .int bx, .int bY] M (dv (.long (sldw x bx bY)) M) := by
  refine Ct.of (own := RX1) rfl [some (.long x), none, some (.int bx), some (.int bY), none, none] (by decide) (Nat.le_of_ble_eq_true rfl) rfl ?_
  refine j_iln dX1_slide_0 rfl rfl ?_
  refine j_bi (v := (-8)) dX1_slide_1 (by decide) ?_
  refine j_icle (tgt := 24) dX1_slide_3 (by decide) (fun h3 => ?_) (fun h3 => ?_)
  · refine j_lc (v := 0) dX1_slide_24 (by decide) ?_
    exact j_lret dX1_slide_25 rfl (Nat.le_of_ble_eq_true rfl) (Nat.le_of_ble_eq_true rfl) ⟨by unfold sldw; rw [if_pos (by simp_all)], rfl⟩
  · refine j_iln dX1_slide_6 rfl rfl ?_
    refine j_biN 8 dX1_slide_7 rfl ?_
    refine j_icge (tgt := 24) dX1_slide_9 (by decide) (fun h9 => ?_) (fun h9 => ?_)
    · refine j_lc (v := 0) dX1_slide_24 (by decide) ?_
      exact j_lret dX1_slide_25 rfl (Nat.le_of_ble_eq_true rfl) (Nat.le_of_ble_eq_true rfl) ⟨by unfold sldw; rw [if_pos (by simp_all)], rfl⟩
    · refine j_iln dX1_slide_12 rfl rfl ?_
      refine j_bi (v := (-8)) dX1_slide_13 (by decide) ?_
      refine j_icle (tgt := 24) dX1_slide_15 (by decide) (fun h15 => ?_) (fun h15 => ?_)
      · refine j_lc (v := 0) dX1_slide_24 (by decide) ?_
        exact j_lret dX1_slide_25 rfl (Nat.le_of_ble_eq_true rfl) (Nat.le_of_ble_eq_true rfl) ⟨by unfold sldw; rw [if_pos (by simp_all)], rfl⟩
      · refine j_iln dX1_slide_18 rfl rfl ?_
        refine j_biN 8 dX1_slide_19 rfl ?_
        refine j_iclt (tgt := 26) dX1_slide_21 (by decide) (fun h21 => ?_) (fun h21 => ?_)
        · have hb : ¬ (bx ≤ -8 ∨ nI 8 ≤ bx ∨ bY ≤ -8 ∨ nI 8 ≤ bY) := by
            rintro (g | g | g | g)
            · exact h3 g
            · exact h9 g
            · exact h15 g
            · exact absurd h21 (Int32.not_lt.mpr g)
          have hb4 : ¬ nI 8 ≤ bY := fun g => hb (Or.inr (Or.inr (Or.inr g)))
          refine j_iln dX1_slide_26 rfl rfl ?_
          refine j_ifge (tgt := 40) dX1_slide_27 (by decide) (fun h27 => ?_) (fun h27 => ?_)
          · obtain ⟨b, hb8, rfl⟩ := sl_p h27 hb4
            have e1 : nI b * nI 8 = nI (b * 8) := pk_mul b 8
            refine j_lln dX1_slide_40 rfl rfl ?_
            refine j_iln dX1_slide_41 rfl rfl ?_
            refine j_biN 8 dX1_slide_42 rfl ?_
            refine j_imul dX1_slide_44 ?_
            refine j_lshlE (b * 8) dX1_slide_45 e1 (by omega) ?_
            refine j_lst_4 dX1_slide_46 (by decide) rfl ?_
            refine j_iln dX1_slide_48 rfl rfl ?_
            refine j_ifge (tgt := 69) dX1_slide_49 (by decide) (fun h49 => ?_) (fun h49 => ?_)
            · obtain ⟨a, ha8, rfl⟩ := sl_p h49 h9
              refine j_ll dX1_slide_69 rfl ?_
              refine j_iln dX1_slide_71 rfl rfl ?_
              refine j_lshlE a dX1_slide_72 rfl (by omega) ?_
              refine j_ldc2 dX1_slide_73 cn_X1_59 ?_
              refine j_ldc2 dX1_slide_76 cn_X1_23 ?_
              refine j_iln dX1_slide_79 rfl rfl ?_
              refine j_lshlE a dX1_slide_80 rfl (by omega) ?_
              refine j_ldc2 dX1_slide_81 cn_X1_23 ?_
              refine j_land dX1_slide_84 ?_
              refine j_lmul dX1_slide_85 ?_
              refine j_land dX1_slide_86 ?_
              exact j_lret dX1_slide_87 rfl (Nat.le_of_ble_eq_true rfl) (Nat.le_of_ble_eq_true rfl) ⟨by simp only [sldw, if_neg hb, h27, h49, if_true, if_false, *, cl8 hb8, cl8 ha8, or_self], rfl⟩
            · obtain ⟨a, ha8, hae⟩ := sl_n h49 h3
              refine j_ll dX1_slide_52 rfl ?_
              refine j_iln dX1_slide_54 rfl rfl ?_
              refine j_ineg dX1_slide_55 ?_
              refine j_lushrE a dX1_slide_56 hae (by omega) ?_
              refine j_ldc2 dX1_slide_57 cn_X1_59 ?_
              refine j_ldc2 dX1_slide_60 cn_X1_23 ?_
              refine j_iln dX1_slide_63 rfl rfl ?_
              refine j_ineg dX1_slide_64 ?_
              refine j_lushrE a dX1_slide_65 hae (by omega) ?_
              refine j_lmul dX1_slide_66 ?_
              refine j_land dX1_slide_67 ?_
              exact j_lret dX1_slide_68 rfl (Nat.le_of_ble_eq_true rfl) (Nat.le_of_ble_eq_true rfl) ⟨by simp only [sldw, if_neg hb, h27, h49, if_true, if_false, *, cl8 hb8, cl8 ha8, or_self], rfl⟩
          · obtain ⟨b, hb8, hbe⟩ := sl_n h27 h15
            have e1 : -bY * nI 8 = nI (b * 8) := by rw [hbe]; exact pk_mul b 8
            refine j_lln dX1_slide_30 rfl rfl ?_
            refine j_iln dX1_slide_31 rfl rfl ?_
            refine j_ineg dX1_slide_32 ?_
            refine j_biN 8 dX1_slide_33 rfl ?_
            refine j_imul dX1_slide_35 ?_
            refine j_lushrE (b * 8) dX1_slide_36 e1 (by omega) ?_
            refine j_goto (tgt := 46) dX1_slide_37 (by decide) ?_
            refine j_lst_4 dX1_slide_46 (by decide) rfl ?_
            refine j_iln dX1_slide_48 rfl rfl ?_
            refine j_ifge (tgt := 69) dX1_slide_49 (by decide) (fun h49 => ?_) (fun h49 => ?_)
            · obtain ⟨a, ha8, rfl⟩ := sl_p h49 h9
              refine j_ll dX1_slide_69 rfl ?_
              refine j_iln dX1_slide_71 rfl rfl ?_
              refine j_lshlE a dX1_slide_72 rfl (by omega) ?_
              refine j_ldc2 dX1_slide_73 cn_X1_59 ?_
              refine j_ldc2 dX1_slide_76 cn_X1_23 ?_
              refine j_iln dX1_slide_79 rfl rfl ?_
              refine j_lshlE a dX1_slide_80 rfl (by omega) ?_
              refine j_ldc2 dX1_slide_81 cn_X1_23 ?_
              refine j_land dX1_slide_84 ?_
              refine j_lmul dX1_slide_85 ?_
              refine j_land dX1_slide_86 ?_
              exact j_lret dX1_slide_87 rfl (Nat.le_of_ble_eq_true rfl) (Nat.le_of_ble_eq_true rfl) ⟨by simp only [sldw, if_neg hb, h27, h49, if_true, if_false, *, cl8 hb8, cl8 ha8, or_self], rfl⟩
            · obtain ⟨a, ha8, hae⟩ := sl_n h49 h3
              refine j_ll dX1_slide_52 rfl ?_
              refine j_iln dX1_slide_54 rfl rfl ?_
              refine j_ineg dX1_slide_55 ?_
              refine j_lushrE a dX1_slide_56 hae (by omega) ?_
              refine j_ldc2 dX1_slide_57 cn_X1_59 ?_
              refine j_ldc2 dX1_slide_60 cn_X1_23 ?_
              refine j_iln dX1_slide_63 rfl rfl ?_
              refine j_ineg dX1_slide_64 ?_
              refine j_lushrE a dX1_slide_65 hae (by omega) ?_
              refine j_lmul dX1_slide_66 ?_
              refine j_land dX1_slide_67 ?_
              exact j_lret dX1_slide_68 rfl (Nat.le_of_ble_eq_true rfl) (Nat.le_of_ble_eq_true rfl) ⟨by simp only [sldw, if_neg hb, h27, h49, if_true, if_false, *, cl8 hb8, cl8 ha8, or_self], rfl⟩
        · refine j_lc (v := 0) dX1_slide_24 (by decide) ?_
          exact j_lret dX1_slide_25 rfl (Nat.le_of_ble_eq_true rfl) (Nat.le_of_ble_eq_true rfl) ⟨by unfold sldw; rw [if_pos (by simp_all)], rfl⟩
