/-! the model: shifts -/
def smR (r : Nat → Int32) (T : Nat → Int32) (a : Nat) (w : Int32) (k : Nat) : Nat → Int32 := fun j => if j % 3 = a ∧ j / 3 < k ∧ ¬ T (j / 3) = 0 then r j + w else r j
theorem smR_0 (r T : Nat → Int32) (a : Nat) (w : Int32) : smR r T a w 0 = r := by
  funext j
  exact if_neg (by omega)
theorem smR_s {r T : Nat → Int32} {a : Nat} {w : Int32} {k : Nat} (ha : a < 3) (h : ¬ T k = 0) : smR r T a w (k + 1) = upd (smR r T a w k) (3 * k + a) (smR r T a w k (3 * k + a) + w) := by
  funext j
  unfold upd smR
  by_cases e : j = 3 * k + a
  · subst e
    rw [if_pos rfl, show (3 * k + a) / 3 = k by omega, if_pos ⟨by omega, by omega, h⟩, if_neg (by omega)]
  · rw [if_neg e]
    by_cases e2 : j % 3 = a
    · have e3 : (j / 3 < k + 1) ↔ (j / 3 < k) := by omega
      simp only [e3]
    · rw [if_neg (fun q => e2 q.1), if_neg (fun q => e2 q.1)]
theorem smR_n {r T : Nat → Int32} {a : Nat} {w : Int32} {k : Nat} (ha : a < 3) (h : T k = 0) : smR r T a w (k + 1) = upd (smR r T a w k) (3 * k + a) (smR r T a w k (3 * k + a) + nI 0) := by
  funext j
  unfold upd smR
  by_cases e : j = 3 * k + a
  · subst e
    rw [if_pos rfl, show (3 * k + a) / 3 = k by omega, if_neg (fun q => q.2.2 h), if_neg (by omega)]
    exact (Int32.add_zero _).symm
  · rw [if_neg e]
    by_cases e2 : j % 3 = a
    · have e3 : (j / 3 < k + 1) ↔ (j / 3 < k) := by omega
      simp only [e3]
    · rw [if_neg (fun q => e2 q.1), if_neg (fun q => e2 q.1)]
set_option maxRecDepth 100000 in
set_option maxHeartbeats 4000000 in
theorem c_X10_shifts {l : Launch} {E : Ev} {M : Mm} {cnt a : Nat} {w : Int32} (hc : mI M 12 27 = nI cnt) (hc6 : cnt ≤ 6) (ha : a < 3) : Ct l E yX10_shifts cX10_shifts 5 (some .int) 1 0 0 [.ref (eA E 12 0), .int (nI a), .int w] M (dv (.int (ctK (fun i => mI M 66 i = 0) cnt)) (sI M 60 (smR (mI M 60) (mI M 66) a w cnt))) := by
  refine Ct.of (own := RX10) rfl [some (.ref (eA E 12 0)), some (.int (nI a)), some (.int w), none, none] (by decide) (Nat.le_of_ble_eq_true rfl) rfl ?_
  have K : ∀ i, i ≤ cnt → Jd l E RX10 cX10_shifts 5 (some .int) [] (rmm 1 0 0) (QfN E (dv (.int (ctK (fun i => mI M 66 i = 0) cnt)) (sI M 60 (smR (mI M 60) (mI M 66) a w cnt))) 0 0) 0 0 5 [some (.ref (eA E 12 0)), some (.int (nI a)), some (.int w), some (.int (ctK (fun i => mI M 66 i = 0) i)), some (.int (nI i))] [] (sI M 60 (smR (mI M 60) (mI M 66) a w i)) := by
    refine up_to cnt _ ?_ (fun i hi ih => ?_)
    · refine j_il dX10_shifts_5 rfl ?_
      refine j_aln dX10_shifts_7 rfl rfl ?_
      refine g_X10_27 dX10_shifts_8 fl_X10_231 ?_
      refine j_topi hc ?_
      refine j_icgeN (tgt := 67) dX10_shifts_11 (by decide) (by omega) (by omega) (fun h11 => ?_) (fun h11 => ?_)
      · refine j_iln dX10_shifts_67 rfl rfl ?_
        exact j_iret dX10_shifts_68 rfl rfl (Nat.le_of_ble_eq_true rfl) (Nat.le_of_ble_eq_true rfl) ⟨rfl, rfl⟩
      · exact absurd (Nat.le_refl cnt) h11
    · refine j_il dX10_shifts_5 rfl ?_
      refine j_aln dX10_shifts_7 rfl rfl ?_
      refine g_X10_27 dX10_shifts_8 fl_X10_231 ?_
      refine j_topi hc ?_
      refine j_icgeN (tgt := 67) dX10_shifts_11 (by decide) (by omega) (by omega) (fun h11 => ?_) (fun h11 => ?_)
      · exact absurd h11 (by omega)
      · refine j_aln dX10_shifts_14 rfl rfl ?_
        refine g_X10_28 dX10_shifts_15 fl_X10_72 ?_
        refine j_icN 3 dX10_shifts_18 rfl ?_
        refine j_il dX10_shifts_19 rfl ?_
        refine j_imulN dX10_shifts_21 ?_
        refine j_iln dX10_shifts_22 rfl rfl ?_
        refine j_iaddN dX10_shifts_23 ?_
        refine j_dup2 dX10_shifts_24 rfl rfl ?_
        refine j_aild (3 * i + a) dX10_shifts_25 rfl rfl rfl rfl (by omega) (by decide) ?_
        refine j_aln dX10_shifts_26 rfl rfl ?_
        refine g_X10_35 dX10_shifts_27 fl_X10_90 ?_
        refine j_il dX10_shifts_30 rfl ?_
        refine j_azldN dX10_shifts_32 rfl rfl rfl (by decide) (by omega) ?_
        refine j_ifeq (tgt := 40) dX10_shifts_33 (by decide) (fun h33 => ?_) (fun h33 => ?_)
        · have hz : mI M 66 i = 0 := h33
          have hm := smR_n (r := mI M 60) (w := w) ha hz
          refine j_icN 0 dX10_shifts_40 rfl ?_
          refine j_iadd dX10_shifts_41 ?_
          refine j_aist (3 * i + a) dX10_shifts_42 rfl (fun _ => rfl) rfl rfl (by omega) (by decide) rfl ?_
          refine j_iln dX10_shifts_43 rfl rfl ?_
          refine j_aln dX10_shifts_44 rfl rfl ?_
          refine g_X10_35 dX10_shifts_45 fl_X10_90 ?_
          refine j_il dX10_shifts_48 rfl ?_
          refine j_azldN dX10_shifts_50 rfl rfl rfl (by decide) (by omega) ?_
          refine j_ifeq (tgt := 58) dX10_shifts_51 (by decide) (fun h51 => ?_) (fun h51 => ?_)
          · have hz2 : mI M 66 i = 0 := h51
            have hg : ctK (fun i => mI M 66 i = 0) (i + 1) = ctK (fun i => mI M 66 i = 0) i + nI 0 := ctK_t (P := (fun i => mI M 66 i = 0)) hz2
            refine j_icN 0 dX10_shifts_58 rfl ?_
            refine j_iadd dX10_shifts_59 ?_
            refine j_ist_3 dX10_shifts_60 (by decide) rfl ?_
            refine j_incN_4 1 dX10_shifts_61 rfl (by decide) rfl ?_
            refine j_goto (tgt := 5) dX10_shifts_64 (by decide) ?_
            rw [hg] at ih
            first | exact absurd hz2 hz | exact absurd hz hz2 | (refine j_mem ?_ ih; rw [sI_sI, hm]; rfl)
          · have hz2 : ¬ mI M 66 i = 0 := h51
            have hg : ctK (fun i => mI M 66 i = 0) (i + 1) = ctK (fun i => mI M 66 i = 0) i + nI 1 := ctK_f (P := (fun i => mI M 66 i = 0)) hz2
            refine j_icN 1 dX10_shifts_54 rfl ?_
            refine j_goto (tgt := 59) dX10_shifts_55 (by decide) ?_
            refine j_iadd dX10_shifts_59 ?_
            refine j_ist_3 dX10_shifts_60 (by decide) rfl ?_
            refine j_incN_4 1 dX10_shifts_61 rfl (by decide) rfl ?_
            refine j_goto (tgt := 5) dX10_shifts_64 (by decide) ?_
            rw [hg] at ih
            first | exact absurd hz2 hz | exact absurd hz hz2 | (refine j_mem ?_ ih; rw [sI_sI, hm]; rfl)
        · have hz : ¬ mI M 66 i = 0 := h33
          have hm := smR_s (r := mI M 60) (w := w) ha hz
          refine j_iln dX10_shifts_36 rfl rfl ?_
          refine j_goto (tgt := 41) dX10_shifts_37 (by decide) ?_
          refine j_iadd dX10_shifts_41 ?_
          refine j_aist (3 * i + a) dX10_shifts_42 rfl (fun _ => rfl) rfl rfl (by omega) (by decide) rfl ?_
          refine j_iln dX10_shifts_43 rfl rfl ?_
          refine j_aln dX10_shifts_44 rfl rfl ?_
          refine g_X10_35 dX10_shifts_45 fl_X10_90 ?_
          refine j_il dX10_shifts_48 rfl ?_
          refine j_azldN dX10_shifts_50 rfl rfl rfl (by decide) (by omega) ?_
          refine j_ifeq (tgt := 58) dX10_shifts_51 (by decide) (fun h51 => ?_) (fun h51 => ?_)
          · have hz2 : mI M 66 i = 0 := h51
            have hg : ctK (fun i => mI M 66 i = 0) (i + 1) = ctK (fun i => mI M 66 i = 0) i + nI 0 := ctK_t (P := (fun i => mI M 66 i = 0)) hz2
            refine j_icN 0 dX10_shifts_58 rfl ?_
            refine j_iadd dX10_shifts_59 ?_
            refine j_ist_3 dX10_shifts_60 (by decide) rfl ?_
            refine j_incN_4 1 dX10_shifts_61 rfl (by decide) rfl ?_
            refine j_goto (tgt := 5) dX10_shifts_64 (by decide) ?_
            rw [hg] at ih
            first | exact absurd hz2 hz | exact absurd hz hz2 | (refine j_mem ?_ ih; rw [sI_sI, hm]; rfl)
          · have hz2 : ¬ mI M 66 i = 0 := h51
            have hg : ctK (fun i => mI M 66 i = 0) (i + 1) = ctK (fun i => mI M 66 i = 0) i + nI 1 := ctK_f (P := (fun i => mI M 66 i = 0)) hz2
            refine j_icN 1 dX10_shifts_54 rfl ?_
            refine j_goto (tgt := 59) dX10_shifts_55 (by decide) ?_
            refine j_iadd dX10_shifts_59 ?_
            refine j_ist_3 dX10_shifts_60 (by decide) rfl ?_
            refine j_incN_4 1 dX10_shifts_61 rfl (by decide) rfl ?_
            refine j_goto (tgt := 5) dX10_shifts_64 (by decide) ?_
            rw [hg] at ih
            first | exact absurd hz2 hz | exact absurd hz hz2 | (refine j_mem ?_ ih; rw [sI_sI, hm]; rfl)
  refine j_icN 0 dX10_shifts_0 rfl ?_
  refine j_ist_3 dX10_shifts_1 (by decide) rfl ?_
  refine j_icN 0 dX10_shifts_2 rfl ?_
  refine j_ist_4 dX10_shifts_3 (by decide) rfl ?_
  have K0 := K 0 (by omega)
  rw [ctK_0, smR_0, sI_id] at K0
  exact K0
