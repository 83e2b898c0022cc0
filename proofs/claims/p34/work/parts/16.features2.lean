/-! Features: the row turned -/
def shf (r : Nat → Int32) (a b : Nat) : Nat → Int32 := fun j => if j = b then r a else if a ≤ j ∧ j < b then r (j + 1) else if b < j ∧ j ≤ a then r (j - 1) else r j
set_option maxRecDepth 100000 in
set_option maxHeartbeats 4000000 in
theorem c_X2_shift {l : Launch} {E : Ev} {M : Mm} {a b : Nat} (ha : a < 12) (hb : b < 12) : Ct l E yX2_shift cX2_shift 5 none 1 0 0 [.ref (eA E 2 0), .int (nI a), .int (nI b)] M (dn (sI M 24 (shf (mI M 24) a b))) := by
  refine Ct.of (own := RX2) rfl [some (.ref (eA E 2 0)), some (.int (nI a)), some (.int (nI b)), none, none] (by decide) (Nat.le_of_ble_eq_true rfl) rfl ?_
  have T : ∀ (g : Nat → Int32) (i : Nat), upd g b (mI M 24 a) = shf (mI M 24) a b → Jd l E RX2 cX2_shift 5 none [] (rmm 1 0 0) (QfN E (dn (sI M 24 (shf (mI M 24) a b))) 0 0) 0 0 69 [some (.ref (eA E 2 0)), some (.int (nI a)), some (.int (nI b)), some (.int (mI M 24 a)), some (.int (nI i))] [] (sI M 24 g) := by
    intro g i hg
    refine j_aln dX2_shift_69 rfl rfl ?_
    refine g_X2_1 dX2_shift_70 fl_X2_18 ?_
    refine j_iln dX2_shift_73 rfl rfl ?_
    refine j_iln dX2_shift_74 rfl rfl ?_
    refine j_aistN dX2_shift_75 rfl (fun _ => rfl) rfl (by decide) (by omega) ?_
    exact j_vret dX2_shift_76 rfl (Nat.le_of_ble_eq_true rfl) (Nat.le_of_ble_eq_true rfl) ⟨rfl, by rw [sI_sI]; exact congrArg _ hg⟩
  have K2 : ∀ i, b < a → b ≤ i → i ≤ a → Jd l E RX2 cX2_shift 5 none [] (rmm 1 0 0) (QfN E (dn (sI M 24 (shf (mI M 24) a b))) 0 0) 0 0 41 [some (.ref (eA E 2 0)), some (.int (nI a)), some (.int (nI b)), some (.int (mI M 24 a)), some (.int (nI i))] [] (sI M 24 (fun j => if i < j ∧ j ≤ a then mI M 24 (j - 1) else mI M 24 j)) := by
    intro i hba
    induction i with
    | zero =>
      intro hb1 hia
      have h : 0 = b := by omega
      refine j_il dX2_shift_41 rfl ?_
      refine j_iln dX2_shift_43 rfl rfl ?_
      refine j_icleN (tgt := 69) dX2_shift_44 (by decide) (by omega) (by omega) (fun h44 => ?_) (fun h44 => ?_)
      · exact T _ _ (by
          funext j
          unfold upd shf
          simp only []
          split
          · rfl
          · rw [if_neg (show ¬ (a ≤ j ∧ j < b) by omega), ← h])
      · exact absurd (Nat.le_refl b) (by omega)
    | succ i ih =>
      intro hb1 hia
      by_cases h : i + 1 = b
      · skip
        refine j_il dX2_shift_41 rfl ?_
        refine j_iln dX2_shift_43 rfl rfl ?_
        refine j_icleN (tgt := 69) dX2_shift_44 (by decide) (by omega) (by omega) (fun h44 => ?_) (fun h44 => ?_)
        · exact T _ _ (by
            funext j
            unfold upd shf
            simp only []
            split
            · rfl
            · rw [if_neg (show ¬ (a ≤ j ∧ j < b) by omega), ← h])
        · exact absurd (Nat.le_refl b) (by omega)
      · skip
        refine j_il dX2_shift_41 rfl ?_
        refine j_iln dX2_shift_43 rfl rfl ?_
        refine j_icleN (tgt := 69) dX2_shift_44 (by decide) (by omega) (by omega) (fun h44 => ?_) (fun h44 => ?_)
        · exact absurd h44 (by omega)
        · refine j_aln dX2_shift_47 rfl rfl ?_
          refine g_X2_1 dX2_shift_48 fl_X2_18 ?_
          refine j_il dX2_shift_51 rfl ?_
          refine j_aln dX2_shift_53 rfl rfl ?_
          refine g_X2_1 dX2_shift_54 fl_X2_18 ?_
          refine j_il dX2_shift_57 rfl ?_
          refine j_icN 1 dX2_shift_59 rfl ?_
          refine j_isubN dX2_shift_60 (by omega) ?_
          refine j_aildN dX2_shift_61 rfl rfl rfl (by decide) (by omega) ?_
          refine j_aistN dX2_shift_62 rfl (fun _ => rfl) rfl (by decide) (by omega) ?_
          refine j_decN_4 dX2_shift_63 (by decide) rfl ?_
          refine j_goto (tgt := 41) dX2_shift_66 (by decide) ?_
          refine j_mem ?_ (ih (by omega) (by omega))
          rw [sI_sI]
          congr 1
          funext j
          simp only [upd, mI_sI, if_true]
          by_cases e9 : j = i + 1
          · subst e9
            rw [if_pos rfl, if_neg (by omega), if_pos (by omega)]
          · have e4 : (i < j ∧ j ≤ a) ↔ (i + 1 < j ∧ j ≤ a) := by omega
            simp only [e9, if_false, e4]
  have K : ∀ i, i ≤ b → a ≤ i → Jd l E RX2 cX2_shift 5 none [] (rmm 1 0 0) (QfN E (dn (sI M 24 (shf (mI M 24) a b))) 0 0) 0 0 10 [some (.ref (eA E 2 0)), some (.int (nI a)), some (.int (nI b)), some (.int (mI M 24 a)), some (.int (nI i))] [] (sI M 24 (fun j => if a ≤ j ∧ j < i then mI M 24 (j + 1) else mI M 24 j)) := by
    refine up_to b _ ?_ (fun i hi ih => ?_)
    · intro hai
      refine j_il dX2_shift_10 rfl ?_
      refine j_iln dX2_shift_12 rfl rfl ?_
      refine j_icgeN (tgt := 38) dX2_shift_13 (by decide) (by omega) (by omega) (fun h13 => ?_) (fun h13 => ?_)
      · refine j_iln dX2_shift_38 rfl rfl ?_
        refine j_ist_4 dX2_shift_39 (by decide) rfl ?_
        refine j_il dX2_shift_41 rfl ?_
        refine j_iln dX2_shift_43 rfl rfl ?_
        refine j_icleN (tgt := 69) dX2_shift_44 (by decide) (by omega) (by omega) (fun h44 => ?_) (fun h44 => ?_)
        · exact T _ _ (by
            funext j
            unfold upd shf
            simp only []
            split
            · rfl
            · rw [if_neg (show ¬ (b < j ∧ j ≤ a) by omega)])
        · exact absurd h44 (by omega)
      · exact absurd (Nat.le_refl b) (by omega)
    · intro hai
      refine j_il dX2_shift_10 rfl ?_
      refine j_iln dX2_shift_12 rfl rfl ?_
      refine j_icgeN (tgt := 38) dX2_shift_13 (by decide) (by omega) (by omega) (fun h13 => ?_) (fun h13 => ?_)
      · exact absurd h13 (by omega)
      · refine j_aln dX2_shift_16 rfl rfl ?_
        refine g_X2_1 dX2_shift_17 fl_X2_18 ?_
        refine j_il dX2_shift_20 rfl ?_
        refine j_aln dX2_shift_22 rfl rfl ?_
        refine g_X2_1 dX2_shift_23 fl_X2_18 ?_
        refine j_il dX2_shift_26 rfl ?_
        refine j_icN 1 dX2_shift_28 rfl ?_
        refine j_iaddN dX2_shift_29 ?_
        refine j_aildN dX2_shift_30 rfl rfl rfl (by decide) (by omega) ?_
        refine j_aistN dX2_shift_31 rfl (fun _ => rfl) rfl (by decide) (by omega) ?_
        refine j_incN_4 1 dX2_shift_32 rfl (by decide) rfl ?_
        refine j_goto (tgt := 10) dX2_shift_35 (by decide) ?_
        refine j_mem ?_ (ih (by omega))
        rw [sI_sI]
        congr 1
        funext j
        simp only [upd, mI_sI, if_true]
        by_cases e9 : j = i
        · subst e9
          rw [if_pos rfl, if_neg (by omega), if_pos (by omega)]
        · have e4 : (a ≤ j ∧ j < i + 1) ↔ (a ≤ j ∧ j < i) := by omega
          simp only [e9, if_false, e4]
  refine j_aln dX2_shift_0 rfl rfl ?_
  refine g_X2_1 dX2_shift_1 fl_X2_18 ?_
  refine j_iln dX2_shift_4 rfl rfl ?_
  refine j_aildN dX2_shift_5 rfl rfl rfl (by decide) (by omega) ?_
  refine j_ist_3 dX2_shift_6 (by decide) rfl ?_
  refine j_iln dX2_shift_7 rfl rfl ?_
  refine j_ist_4 dX2_shift_8 (by decide) rfl ?_
  by_cases hab : a ≤ b
  · refine j_mem ?_ (K a hab (Nat.le_refl a))
    rw [show (fun j => if a ≤ j ∧ j < a then mI M 24 (j + 1) else mI M 24 j) = mI M 24 from funext fun j => if_neg (by omega)]
    exact (sI_id M 24).symm
  · skip
    refine j_il dX2_shift_10 rfl ?_
    refine j_iln dX2_shift_12 rfl rfl ?_
    refine j_icgeN (tgt := 38) dX2_shift_13 (by decide) (by omega) (by omega) (fun h13 => ?_) (fun h13 => ?_)
    · refine j_iln dX2_shift_38 rfl rfl ?_
      refine j_ist_4 dX2_shift_39 (by decide) rfl ?_
      refine j_mem ?_ (K2 a (by omega) (by omega) (Nat.le_refl a))
      rw [show (fun j => if a < j ∧ j ≤ a then mI M 24 (j - 1) else mI M 24 j) = mI M 24 from funext fun j => if_neg (by omega)]
      exact (sI_id M 24).symm
    · exact absurd h13 (by omega)
theorem mn_nI {a b : Nat} (ha : a < 2 ^ 31) (hb : b < 2 ^ 31) : mnI (nI a) (nI b) = nI (Nat.min a b) := by
  unfold mnI
  by_cases h : b < a
  · rw [if_pos ((nI_ltI hb ha).mpr h), show Nat.min a b = b from Nat.min_eq_right (by omega)]
  · rw [if_neg (fun g => h ((nI_ltI hb ha).mp g)), show Nat.min a b = a from Nat.min_eq_left (by omega)]
def tkM (M : Mm) (p cnt bar : Nat) : Mm := sI (sI M 24 (shf (mI M 24) p (cnt - 1))) 2 (upd (upd (mI M 2) 5 (nI (cnt - 1))) 7 (nI (Nat.min bar (cnt - 1))))
set_option maxRecDepth 100000 in
set_option maxHeartbeats 4000000 in
theorem c_X2_takeOutAt {l : Launch} {E : Ev} {M : Mm} {p cnt bar : Nat} (hp : p < cnt) (hcnt : mI M 2 5 = nI cnt) (hbar : mI M 2 7 = nI bar) (hc12 : cnt ≤ 12) (hb12 : bar ≤ 12) : Ct l E yX2_takeOutAt cX2_takeOutAt 2 none 2 0 0 [.ref (eA E 2 0), .int (nI p)] M (dn (tkM M p cnt bar)) := by
  refine Ct.of (own := RX2) rfl [some (.ref (eA E 2 0)), some (.int (nI p))] (by decide) (Nat.le_of_ble_eq_true rfl) rfl ?_
  refine j_aln dX2_takeOutAt_0 rfl rfl ?_
  refine j_iln dX2_takeOutAt_1 rfl rfl ?_
  refine j_aln dX2_takeOutAt_2 rfl rfl ?_
  refine g_X2_5 dX2_takeOutAt_3 fl_X2_33 ?_
  refine j_topi hcnt ?_
  refine j_icN 1 dX2_takeOutAt_6 rfl ?_
  refine j_isubN dX2_takeOutAt_7 (by omega) ?_
  refine j_V2n mf_X2_shift ml_X2_51 dX2_takeOutAt_8 (Nat.le_of_ble_eq_true rfl) (Nat.le_of_ble_eq_true rfl) (Nat.le_of_ble_eq_true rfl) ⟨(Nat.le_of_ble_eq_true rfl), (Nat.le_of_ble_eq_true rfl)⟩ (by first | assumption | decide | (simp only [nv] at *; omega)) rfl rfl (c_X2_shift (show p < 12 by omega) (show cnt - 1 < 12 by omega)) ?_
  refine j_aln dX2_takeOutAt_11 rfl rfl ?_
  refine j_dup dX2_takeOutAt_12 rfl ?_
  refine g_X2_5 dX2_takeOutAt_13 fl_X2_33 ?_
  refine j_topi hcnt ?_
  refine j_icN 1 dX2_takeOutAt_16 rfl ?_
  refine j_isubN dX2_takeOutAt_17 (by omega) ?_
  refine p_X2_5 dX2_takeOutAt_18 fl_X2_33 ?_
  refine j_aln dX2_takeOutAt_21 rfl rfl ?_
  refine j_aln dX2_takeOutAt_22 rfl rfl ?_
  refine g_X2_7 dX2_takeOutAt_23 fl_X2_44 ?_
  refine j_topi hbar ?_
  refine j_aln dX2_takeOutAt_26 rfl rfl ?_
  refine g_X2_5 dX2_takeOutAt_27 fl_X2_33 ?_
  refine j_topi (show _ = nI (cnt - 1) from rfl) ?_
  refine j_mmin dX2_takeOutAt_30 ml_X2_55 (Nat.le_of_ble_eq_true rfl) (Nat.le_of_ble_eq_true rfl) (Nat.le_of_ble_eq_true rfl) (Nat.le_of_ble_eq_true rfl) ?_
  refine j_topi (mn_nI (by omega) (by omega)) ?_
  refine p_X2_7 dX2_takeOutAt_33 fl_X2_44 ?_
  exact j_vret dX2_takeOutAt_36 rfl (Nat.le_of_ble_eq_true rfl) (Nat.le_of_ble_eq_true rfl) ⟨rfl, by unfold tkM; rw [sI_sI]; rfl⟩
