/-! the model: its row -/
def tkR (r : Nat → Int32) (p c : Nat) : Nat → Int32 := fun j => if p ≤ j ∧ j < c then r (j + 1) else r j
theorem tkR_0 (r : Nat → Int32) (p : Nat) : tkR r p p = r := by
  funext j
  exact if_neg (by omega)
theorem tkR_s {r : Nat → Int32} {p i : Nat} (h : p ≤ i) : tkR r p (i + 1) = upd (tkR r p i) i (tkR r p i (i + 1)) := by
  funext j
  unfold upd tkR
  by_cases e : j = i
  · subst e
    rw [if_pos ⟨h, by omega⟩, if_pos rfl, if_neg (by omega)]
  · rw [if_neg e]
    have e3 : (p ≤ j ∧ j < i + 1) ↔ (p ≤ j ∧ j < i) := by omega
    simp only [e3]
def moR (r : Nat → Int32) (i c : Nat) : Nat → Int32 := fun j => if i < j ∧ j ≤ c then r (j - 1) else r j
theorem moR_0 (r : Nat → Int32) (c : Nat) : moR r c c = r := by
  funext j
  exact if_neg (by omega)
theorem moR_s {r : Nat → Int32} {i c : Nat} (h : i + 1 ≤ c) : moR r i c = upd (moR r (i + 1) c) (i + 1) (moR r (i + 1) c i) := by
  funext j
  unfold upd moR
  by_cases e : j = i + 1
  · subst e
    rw [if_pos ⟨by omega, h⟩, if_pos rfl, if_neg (by omega)]
    rfl
  · rw [if_neg e]
    have e3 : (i < j ∧ j ≤ c) ↔ (i + 1 < j ∧ j ≤ c) := by omega
    simp only [e3]
abbrev tkS (M : Mm) (p cnt : Nat) : Mm := sI (sI M 44 (tkR (mI M 44) p (cnt - 1))) 12 (upd (mI M 12) 6 (nI (cnt - 1)))
abbrev ptS (M : Mm) (a b cnt : Nat) : Mm := sI (sI (tkS M a cnt) 44 (upd (moR (tkR (mI M 44) a (cnt - 1)) b (cnt - 1)) b (mI M 44 a))) 12 (upd (mI (tkS M a cnt) 12) 6 (nI cnt))
set_option maxRecDepth 100000 in
set_option maxHeartbeats 4000000 in
theorem c_X10_takes {l : Launch} {E : Ev} {M : Mm} {p cnt : Nat} (hp : p < cnt) (hc : mI M 12 6 = nI cnt) (hc12 : cnt ≤ 12) : Ct l E yX10_takes cX10_takes 3 none 1 0 0 [.ref (eA E 12 0), .int (nI p)] M (dn (tkS M p cnt)) := by
  refine Ct.of (own := RX10) rfl [some (.ref (eA E 12 0)), some (.int (nI p)), none] (by decide) (Nat.le_of_ble_eq_true rfl) rfl ?_
  have K : ∀ i, i ≤ (cnt - 1) → p ≤ i → Jd l E RX10 cX10_takes 3 none [] (rmm 1 0 0) (QfN E (dn (tkS M p cnt)) 0 0) 0 0 2 [some (.ref (eA E 12 0)), some (.int (nI p)), some (.int (nI i))] [] (sI M 44 (tkR (mI M 44) p i)) := by
    refine up_to (cnt - 1) _ ?_ (fun i hi ih => ?_)
    · intro hpi
      refine j_iln dX10_takes_2 rfl rfl ?_
      refine j_aln dX10_takes_3 rfl rfl ?_
      refine g_X10_6 dX10_takes_4 fl_X10_131 ?_
      refine j_topi hc ?_
      refine j_icN 1 dX10_takes_7 rfl ?_
      refine j_isubN dX10_takes_8 (by omega) ?_
      refine j_icgeN (tgt := 32) dX10_takes_9 (by decide) (by omega) (by omega) (fun h9 => ?_) (fun h9 => ?_)
      · refine j_aln dX10_takes_32 rfl rfl ?_
        refine j_dup dX10_takes_33 rfl ?_
        refine g_X10_6 dX10_takes_34 fl_X10_131 ?_
        refine j_topi hc ?_
        refine j_icN 1 dX10_takes_37 rfl ?_
        refine j_isubN dX10_takes_38 (by omega) ?_
        refine p_X10_6 dX10_takes_39 fl_X10_131 ?_
        exact j_vret dX10_takes_42 rfl (Nat.le_of_ble_eq_true rfl) (Nat.le_of_ble_eq_true rfl) ⟨rfl, rfl⟩
      · exact absurd (Nat.le_refl (cnt - 1)) h9
    · intro hpi
      refine j_iln dX10_takes_2 rfl rfl ?_
      refine j_aln dX10_takes_3 rfl rfl ?_
      refine g_X10_6 dX10_takes_4 fl_X10_131 ?_
      refine j_topi hc ?_
      refine j_icN 1 dX10_takes_7 rfl ?_
      refine j_isubN dX10_takes_8 (by omega) ?_
      refine j_icgeN (tgt := 32) dX10_takes_9 (by decide) (by omega) (by omega) (fun h9 => ?_) (fun h9 => ?_)
      · exact absurd h9 (by omega)
      · refine j_aln dX10_takes_12 rfl rfl ?_
        refine g_X10_8 dX10_takes_13 fl_X10_23 ?_
        refine j_iln dX10_takes_16 rfl rfl ?_
        refine j_aln dX10_takes_17 rfl rfl ?_
        refine g_X10_8 dX10_takes_18 fl_X10_23 ?_
        refine j_iln dX10_takes_21 rfl rfl ?_
        refine j_icN 1 dX10_takes_22 rfl ?_
        refine j_iaddN dX10_takes_23 ?_
        refine j_aildN dX10_takes_24 rfl rfl rfl (by decide) (by omega) ?_
        refine j_aistN dX10_takes_25 rfl (fun _ => rfl) rfl (by decide) (by omega) ?_
        refine j_incN_2 1 dX10_takes_26 rfl (by decide) rfl ?_
        refine j_goto (tgt := 2) dX10_takes_29 (by decide) ?_
        refine j_mem ?_ (ih (by omega))
        rw [sI_sI, tkR_s hpi]; rfl
  refine j_iln dX10_takes_0 rfl rfl ?_
  refine j_ist_2 dX10_takes_1 (by decide) rfl ?_
  have K0 := K p (by omega) (Nat.le_refl p)
  rw [tkR_0, sI_id] at K0
  exact K0
set_option maxRecDepth 100000 in
set_option maxHeartbeats 4000000 in
theorem c_X10_puts {l : Launch} {E : Ev} {M : Mm} {a b cnt : Nat} (ha : a < cnt) (hb : b < cnt) (hc : mI M 12 6 = nI cnt) (hc12 : cnt ≤ 12) : Ct l E yX10_puts cX10_puts 5 none 2 0 0 [.ref (eA E 12 0), .int (nI a), .int (nI b)] M (dn (ptS M a b cnt)) := by
  refine Ct.of (own := RX10) rfl [some (.ref (eA E 12 0)), some (.int (nI a)), some (.int (nI b)), none, none] (by decide) (Nat.le_of_ble_eq_true rfl) rfl ?_
  have T : Jd l E RX10 cX10_puts 5 none [] (rmm 2 0 0) (QfN E (dn (ptS M a b cnt)) 0 0) 0 0 46 [some (.ref (eA E 12 0)), some (.int (nI a)), some (.int (nI b)), some (.int (mI M 44 a)), some (.int (nI b))] [] (sI (tkS M a cnt) 44 (moR (tkR (mI M 44) a (cnt - 1)) b (cnt - 1))) := by
    refine j_aln dX10_puts_46 rfl rfl ?_
    refine g_X10_8 dX10_puts_47 fl_X10_23 ?_
    refine j_iln dX10_puts_50 rfl rfl ?_
    refine j_iln dX10_puts_51 rfl rfl ?_
    refine j_aistN dX10_puts_52 rfl (fun _ => rfl) rfl (by decide) (by omega) ?_
    refine j_aln dX10_puts_53 rfl rfl ?_
    refine j_dup dX10_puts_54 rfl ?_
    refine g_X10_6 dX10_puts_55 fl_X10_131 ?_
    refine j_topi (show _ = nI (cnt - 1) from rfl) ?_
    refine j_icN 1 dX10_puts_58 rfl ?_
    refine j_iaddN dX10_puts_59 ?_
    refine p_X10_6 dX10_puts_60 fl_X10_131 ?_
    exact j_vret dX10_puts_63 rfl (Nat.le_of_ble_eq_true rfl) (Nat.le_of_ble_eq_true rfl) ⟨rfl, by rw [sI_sI, show cnt - 1 + 1 = cnt by omega]; rfl⟩
  have K2 : ∀ i, b ≤ i → i ≤ cnt - 1 → Jd l E RX10 cX10_puts 5 none [] (rmm 2 0 0) (QfN E (dn (ptS M a b cnt)) 0 0) 0 0 18 [some (.ref (eA E 12 0)), some (.int (nI a)), some (.int (nI b)), some (.int (mI M 44 a)), some (.int (nI i))] [] (sI (tkS M a cnt) 44 (moR (tkR (mI M 44) a (cnt - 1)) i (cnt - 1))) := by
    intro i
    induction i with
    | zero =>
      intro hb1 hic
      obtain rfl : b = 0 := by omega
      refine j_il dX10_puts_18 rfl ?_
      refine j_iln dX10_puts_20 rfl rfl ?_
      refine j_icleN (tgt := 46) dX10_puts_21 (by decide) (by omega) (by omega) (fun h21 => ?_) (fun h21 => ?_)
      · exact T
      · exact absurd (Nat.le_refl 0) h21
    | succ i ih =>
      intro hb1 hic
      by_cases h : b = i + 1
      · subst h
        refine j_il dX10_puts_18 rfl ?_
        refine j_iln dX10_puts_20 rfl rfl ?_
        refine j_icleN (tgt := 46) dX10_puts_21 (by decide) (by omega) (by omega) (fun h21 => ?_) (fun h21 => ?_)
        · exact T
        · exact absurd (Nat.le_refl (i + 1)) h21
      · skip
        refine j_il dX10_puts_18 rfl ?_
        refine j_iln dX10_puts_20 rfl rfl ?_
        refine j_icleN (tgt := 46) dX10_puts_21 (by decide) (by omega) (by omega) (fun h21 => ?_) (fun h21 => ?_)
        · exact absurd h21 (by omega)
        · refine j_aln dX10_puts_24 rfl rfl ?_
          refine g_X10_8 dX10_puts_25 fl_X10_23 ?_
          refine j_il dX10_puts_28 rfl ?_
          refine j_aln dX10_puts_30 rfl rfl ?_
          refine g_X10_8 dX10_puts_31 fl_X10_23 ?_
          refine j_il dX10_puts_34 rfl ?_
          refine j_icN 1 dX10_puts_36 rfl ?_
          refine j_isubN dX10_puts_37 (by omega) ?_
          refine j_aildN dX10_puts_38 rfl rfl rfl (by decide) (by omega) ?_
          refine j_aistN dX10_puts_39 rfl (fun _ => rfl) rfl (by decide) (by omega) ?_
          refine j_decN_4 dX10_puts_40 (by decide) rfl ?_
          refine j_goto (tgt := 18) dX10_puts_43 (by decide) ?_
          refine j_mem ?_ (ih (by omega) (by omega))
          rw [sI_sI, moR_s (show i + 1 ≤ cnt - 1 by omega)]; rfl
  refine j_aln dX10_puts_0 rfl rfl ?_
  refine g_X10_8 dX10_puts_1 fl_X10_23 ?_
  refine j_iln dX10_puts_4 rfl rfl ?_
  refine j_aildN dX10_puts_5 rfl rfl rfl (by decide) (by omega) ?_
  refine j_ist_3 dX10_puts_6 (by decide) rfl ?_
  refine j_aln dX10_puts_7 rfl rfl ?_
  refine j_iln dX10_puts_8 rfl rfl ?_
  refine j_V1n mf_X10_takes ml_X10_170 dX10_puts_9 (Nat.le_of_ble_eq_true rfl) (Nat.le_of_ble_eq_true rfl) (Nat.le_of_ble_eq_true rfl) ⟨(Nat.le_of_ble_eq_true rfl), (Nat.le_of_ble_eq_true rfl)⟩ (by first | assumption | decide | (simp only [nv] at *; omega)) rfl rfl (c_X10_takes ha hc hc12) ?_
  refine j_aln dX10_puts_12 rfl rfl ?_
  refine g_X10_6 dX10_puts_13 fl_X10_131 ?_
  refine j_topi (show _ = nI (cnt - 1) from rfl) ?_
  refine j_ist_4 dX10_puts_16 (by decide) rfl ?_
  have K0 := K2 (cnt - 1) (by omega) (Nat.le_refl _)
  refine j_mem ?_ K0
  rw [moR_0]
  exact (sI_id (tkS M a cnt) 44).symm
