/-! the class Cells, second: growing, seeds, sliding, boxes -/
def inr (f : Nat → Int64) (z : Nat) : Nat → Int64
  | 0 => f z
  | k + 1 => inr f z k &&& bsd f k z
def nbr (f : Nat → Int64) (z : Nat) : Nat → Int64
  | 0 => f z
  | k + 1 => nbr f z k ||| bsd f k z
def sameL (f g : Nat → Int64) : Bool := (List.range 8).all (fun z => decide (f z = g z))
theorem sameL_iff {f g : Nat → Int64} : sameL f g = true ↔ ∀ z, z < 8 → f z = g z := by
  simp [sameL, List.all_eq_true]
theorem sameL_t {f g : Nat → Int64} (h : ∀ z, z < 8 → f z = g z) : sameL f g = true := sameL_iff.mpr h
theorem sameL_f {f g : Nat → Int64} (h : ¬ ∀ z, z < 8 → f z = g z) : sameL f g = false := by
  cases e : sameL f g
  · rfl
  · exact absurd (sameL_iff.mp e) h
/-- one growing within b, row by row in place -/
def gwr (f b : Nat → Int64) : Nat → Nat → Int64
  | 0 => f
  | i + 1 => vp_updL (gwr f b i) i (nbr (gwr f b i) i 6 &&& b i)
def gwf (f b : Nat → Int64) : Nat → Bool
  | 0 => false
  | i + 1 => gwf f b i || decide (nbr (gwr f b i) i 6 &&& b i ≠ gwr f b i i)
theorem lg_ne {x y : Int64} : ¬ lg_cmp x y = 0 ↔ x ≠ y := by
  constructor
  · intro h e; subst e; exact h (by simp [lg_cmp])
  · intro h e
    unfold lg_cmp at e
    simp only [h, if_false] at e
    split at e <;> exact absurd e (by decide)
theorem lg_eq {x y : Int64} : lg_cmp x y = 0 ↔ x = y := by
  constructor
  · intro h; exact Classical.byContradiction fun e => lg_ne.mpr e h
  · rintro rfl; simp [lg_cmp]
theorem bI_ne {b : Bool} : ¬ bI b = 0 ↔ b = true := by cases b <;> simp [bI]
theorem bI_eq {b : Bool} : bI b = 0 ↔ b = false := by cases b <;> simp [bI]
theorem bI_nar (b : Bool) : narrow .boolean (.int (bI b)) = .int (bI b) := by cases b <;> rfl
theorem bI_vp (b : Bool) : vp_nar .boolean (bI b) = bI b := by cases b <;> rfl
set_option maxRecDepth 100000 in
set_option maxHeartbeats 4000000 in
theorem c_X1_isSameAs {l : Launch} {E : Ev} {M : Mm} {c q : Nat} (hc : c < nv 7) (ho : q < nv 7) : Ct l E yX1_isSameAs cX1_isSameAs 3 (some .boolean) 1 0 0 [.ref (eA E 7 c), .ref (eA E 7 q)] M (dv (.int (bI (sameL (mL M c) (mL M q)))) M) := by
  refine Ct.of (own := RX1) rfl [some (.ref (eA E 7 c)), some (.ref (eA E 7 q)), none] (by decide) (Nat.le_of_ble_eq_true rfl) rfl ?_
  have K : ∀ i, i ≤ 8 → (∀ z, z < i → mL M c z = mL M q z) → Jd l E RX1 cX1_isSameAs 3 (some .boolean) [] (rmm 1 0 0) (QfN E (dv (.int (bI (sameL (mL M c) (mL M q)))) M) 0 0) 0 0 2 [some (.ref (eA E 7 c)), some (.ref (eA E 7 q)), some (.int (nI i))] [] M := by
    refine up_to 8 _ ?_ (fun i hi ih => ?_)
    · intro hall
      refine j_iln dX1_isSameAs_2 rfl rfl ?_
      refine j_biN 8 dX1_isSameAs_3 rfl ?_
      refine j_icgeN (tgt := 32) dX1_isSameAs_5 (by decide) (by omega) (by omega) (fun h5 => ?_) (fun h5 => ?_)
      · refine j_icN 1 dX1_isSameAs_32 rfl ?_
        exact j_iret dX1_isSameAs_33 rfl rfl (Nat.le_of_ble_eq_true rfl) (Nat.le_of_ble_eq_true rfl) ⟨by rw [sameL_t hall]; rfl, rfl⟩
      · exact absurd (Nat.le_refl 8) h5
    · intro hall
      refine j_iln dX1_isSameAs_2 rfl rfl ?_
      refine j_biN 8 dX1_isSameAs_3 rfl ?_
      refine j_icgeN (tgt := 32) dX1_isSameAs_5 (by decide) (by omega) (by omega) (fun h5 => ?_) (fun h5 => ?_)
      · exact absurd h5 (by omega)
      · refine j_aln dX1_isSameAs_8 rfl rfl ?_
        refine g_X1_0 dX1_isSameAs_9 fl_X1_9 (by first | assumption | decide | (simp only [nv] at *; omega)) ?_
        refine j_iln dX1_isSameAs_12 rfl rfl ?_
        refine j_aldLN dX1_isSameAs_13 (by first | assumption | decide | (simp only [nv] at *; omega)) (by omega) ?_
        refine j_aln dX1_isSameAs_14 rfl rfl ?_
        refine g_X1_0 dX1_isSameAs_15 fl_X1_9 (by first | assumption | decide | (simp only [nv] at *; omega)) ?_
        refine j_iln dX1_isSameAs_18 rfl rfl ?_
        refine j_aldLN dX1_isSameAs_19 (by first | assumption | decide | (simp only [nv] at *; omega)) (by omega) ?_
        refine j_lcmp dX1_isSameAs_20 ?_
        refine j_ifeq (tgt := 26) dX1_isSameAs_21 (by decide) (fun h21 => ?_) (fun h21 => ?_)
        · refine j_incN_2 1 dX1_isSameAs_26 rfl (by decide) rfl ?_
          refine j_goto (tgt := 2) dX1_isSameAs_29 (by decide) ?_
          exact ih (fun z hz => by
            rcases Nat.lt_or_ge z i with h | h
            · exact hall z h
            · rw [show z = i by omega]; exact lg_eq.mp h21)
        · refine j_icN 0 dX1_isSameAs_24 rfl ?_
          exact j_iret dX1_isSameAs_25 rfl rfl (Nat.le_of_ble_eq_true rfl) (Nat.le_of_ble_eq_true rfl) ⟨by rw [sameL_f (fun h => h21 (lg_eq.mpr (h i hi)))]; rfl, rfl⟩
  refine j_icN 0 dX1_isSameAs_0 rfl ?_
  refine j_ist_2 dX1_isSameAs_1 (by decide) rfl ?_
  exact K 0 (by omega) (fun z hz => absurd hz (by omega))
set_option maxRecDepth 100000 in
set_option maxHeartbeats 4000000 in
theorem c_X1_takeOutInner {l : Launch} {E : Ev} {M : Mm} {c q : Nat} (hc : c < nv 7) (ho : q < nv 7) (hne : ¬ q = c) : Ct l E yX1_takeOutInner cX1_takeOutInner 6 none 2 0 0 [.ref (eA E 7 c), .ref (eA E 7 q)] M (dn (sL M c (fun z => mL M c z &&& (inr (mL M q) z 6 ^^^ -1)))) := by
  refine Ct.of (own := RX1) rfl [some (.ref (eA E 7 c)), some (.ref (eA E 7 q)), none, none, none, none] (by decide) (Nat.le_of_ble_eq_true rfl) rfl ?_
  have K : ∀ i, i ≤ 8 → ∀ o3 o5 : Option Value, nc none = true → Jd l E RX1 cX1_takeOutInner 6 none [] (rmm 2 0 0) (QfN E (dn (sL M c (fun z => mL M c z &&& (inr (mL M q) z 6 ^^^ -1)))) 0 0) 0 0 2 [some (.ref (eA E 7 c)), some (.ref (eA E 7 q)), some (.int (nI i)), o3, none, o5] [] (sL M c (wsL (mL M c) (fun z => mL M c z &&& (inr (mL M q) z 6 ^^^ -1)) i)) := by
    refine up_to 8 _ ?_ (fun i hi ih => ?_)
    · intro o3 o5 hn
      refine j_iln dX1_takeOutInner_2 rfl rfl ?_
      refine j_biN 8 dX1_takeOutInner_3 rfl ?_
      refine j_icgeN (tgt := 61) dX1_takeOutInner_5 (by decide) (by omega) (by omega) (fun h5 => ?_) (fun h5 => ?_)
      · refine j_sim (sim_w _ _ (Nat.le_refl 8)) ?_
        exact j_vret dX1_takeOutInner_61 rfl (Nat.le_of_ble_eq_true rfl) (Nat.le_of_ble_eq_true rfl) ⟨rfl, rfl⟩
      · exact absurd (Nat.le_refl 8) h5
    · intro o3 o5 hn
      have KK : ∀ k, k ≤ 6 → Jd l E RX1 cX1_takeOutInner 6 none [] (rmm 2 0 0) (QfN E (dn (sL M c (fun z => mL M c z &&& (inr (mL M q) z 6 ^^^ -1)))) 0 0) 0 0 18 [some (.ref (eA E 7 c)), some (.ref (eA E 7 q)), some (.int (nI i)), some (.long (inr (mL M q) i k)), none, some (.int (nI k))] [] (sL M c (wsL (mL M c) (fun z => mL M c z &&& (inr (mL M q) z 6 ^^^ -1)) i)) := by
        refine up_to 6 _ ?_ (fun k hk ihk => ?_)
        · refine j_il dX1_takeOutInner_18 rfl ?_
          refine j_biN 6 dX1_takeOutInner_20 rfl ?_
          refine j_icgeN (tgt := 41) dX1_takeOutInner_22 (by decide) (by omega) (by omega) (fun h22 => ?_) (fun h22 => ?_)
          · refine j_aln dX1_takeOutInner_41 rfl rfl ?_
            refine g_X1_0 dX1_takeOutInner_42 fl_X1_9 (by first | assumption | decide | (simp only [nv] at *; omega)) ?_
            refine j_iln dX1_takeOutInner_45 rfl rfl ?_
            refine j_dup2 dX1_takeOutInner_46 rfl rfl ?_
            refine j_aldLN dX1_takeOutInner_47 (by first | assumption | decide | (simp only [nv] at *; omega)) (by omega) ?_
            refine j_lln dX1_takeOutInner_48 rfl rfl ?_
            refine j_ldc2 dX1_takeOutInner_49 cn_X1_31 ?_
            refine j_lxor dX1_takeOutInner_52 ?_
            refine j_land dX1_takeOutInner_53 ?_
            refine j_astLN dX1_takeOutInner_54 (by first | assumption | decide | (simp only [nv] at *; omega)) (by omega) ?_
            refine j_incN_2 1 dX1_takeOutInner_55 rfl (by decide) rfl ?_
            refine j_goto (tgt := 2) dX1_takeOutInner_58 (by decide) ?_
            refine j_mem ?_ (ih (some (.long (inr (mL M q) i 6))) (some (.int (nI 6))) rfl)
            rw [sL_sL, mL_sL, if_pos rfl, wsL_s]
            rw [wsL_at]
          · exact absurd (Nat.le_refl 6) h22
        · refine j_il dX1_takeOutInner_18 rfl ?_
          refine j_biN 6 dX1_takeOutInner_20 rfl ?_
          refine j_icgeN (tgt := 41) dX1_takeOutInner_22 (by decide) (by omega) (by omega) (fun h22 => ?_) (fun h22 => ?_)
          · exact absurd h22 (by omega)
          · refine j_lln dX1_takeOutInner_25 rfl rfl ?_
            refine j_aln dX1_takeOutInner_26 rfl rfl ?_
            refine j_il dX1_takeOutInner_27 rfl ?_
            refine j_iln dX1_takeOutInner_29 rfl rfl ?_
            refine j_V2d mf_X1_besideAt ml_X1_33 dX1_takeOutInner_30 (Nat.le_of_ble_eq_true rfl) (Nat.le_of_ble_eq_true rfl) (Nat.le_of_ble_eq_true rfl) ⟨(Nat.le_of_ble_eq_true rfl), (Nat.le_of_ble_eq_true rfl)⟩ (by first | assumption | decide | (simp only [nv] at *; omega)) rfl rfl (c_X1_besideAt ho (by omega) hi) ?_
            rw [mL_sL, if_neg hne]
            refine j_land dX1_takeOutInner_33 ?_
            refine j_lst_3 dX1_takeOutInner_34 (by decide) rfl ?_
            refine j_incN_5 1 dX1_takeOutInner_35 rfl (by decide) rfl ?_
            refine j_goto (tgt := 18) dX1_takeOutInner_38 (by decide) ?_
            exact ihk
      refine j_iln dX1_takeOutInner_2 rfl rfl ?_
      refine j_biN 8 dX1_takeOutInner_3 rfl ?_
      refine j_icgeN (tgt := 61) dX1_takeOutInner_5 (by decide) (by omega) (by omega) (fun h5 => ?_) (fun h5 => ?_)
      · exact absurd h5 (by omega)
      · refine j_aln dX1_takeOutInner_8 rfl rfl ?_
        refine g_X1_0 dX1_takeOutInner_9 fl_X1_9 (by first | assumption | decide | (simp only [nv] at *; omega)) ?_
        refine j_iln dX1_takeOutInner_12 rfl rfl ?_
        refine j_aldLN dX1_takeOutInner_13 (by first | assumption | decide | (simp only [nv] at *; omega)) (by omega) ?_
        rw [mL_sL, if_neg hne]
        refine j_lst_3 dX1_takeOutInner_14 (by decide) rfl ?_
        refine j_icN 0 dX1_takeOutInner_15 rfl ?_
        refine j_ist_5 dX1_takeOutInner_16 (by decide) rfl ?_
        exact KK 0 (by omega)
  refine j_icN 0 dX1_takeOutInner_0 rfl ?_
  refine j_ist_2 dX1_takeOutInner_1 (by decide) rfl ?_
  have K0 := K 0 (by omega) none none (by rfl)
  rw [wsL_0, sL_id] at K0
  exact K0
set_option maxRecDepth 100000 in
set_option maxHeartbeats 4000000 in
theorem c_X1_growWithin {l : Launch} {E : Ev} {M : Mm} {c q : Nat} (hc : c < nv 7) (ho : q < nv 7) (hne : ¬ q = c) : Ct l E yX1_growWithin cX1_growWithin 7 (some .boolean) 2 0 0 [.ref (eA E 7 c), .ref (eA E 7 q)] M (dv (.int (bI (gwf (mL M c) (mL M q) 8))) (sL M c (gwr (mL M c) (mL M q) 8))) := by
  refine Ct.of (own := RX1) rfl [some (.ref (eA E 7 c)), some (.ref (eA E 7 q)), none, none, none, none, none] (by decide) (Nat.le_of_ble_eq_true rfl) rfl ?_
  have K : ∀ i, i ≤ 8 → ∀ o4 o6 : Option Value, Jd l E RX1 cX1_growWithin 7 (some .boolean) [] (rmm 2 0 0) (QfN E (dv (.int (bI (gwf (mL M c) (mL M q) 8))) (sL M c (gwr (mL M c) (mL M q) 8))) 0 0) 0 0 4 [some (.ref (eA E 7 c)), some (.ref (eA E 7 q)), some (.int (bI (gwf (mL M c) (mL M q) i))), some (.int (nI i)), o4, none, o6] [] (sL M c (gwr (mL M c) (mL M q) i)) := by
    refine up_to 8 _ ?_ (fun i hi ih => ?_)
    · intro o4 o6
      refine j_iln dX1_growWithin_4 rfl rfl ?_
      refine j_biN 8 dX1_growWithin_5 rfl ?_
      refine j_icgeN (tgt := 93) dX1_growWithin_7 (by decide) (by omega) (by omega) (fun h7 => ?_) (fun h7 => ?_)
      · refine j_iln dX1_growWithin_93 rfl rfl ?_
        exact j_iret dX1_growWithin_94 rfl (bI_nar _) (Nat.le_of_ble_eq_true rfl) (Nat.le_of_ble_eq_true rfl) ⟨rfl, rfl⟩
      · exact absurd (Nat.le_refl 8) h7
    · intro o4 o6
      have KK : ∀ k, k ≤ 6 → Jd l E RX1 cX1_growWithin 7 (some .boolean) [] (rmm 2 0 0) (QfN E (dv (.int (bI (gwf (mL M c) (mL M q) 8))) (sL M c (gwr (mL M c) (mL M q) 8))) 0 0) 0 0 21 [some (.ref (eA E 7 c)), some (.ref (eA E 7 q)), some (.int (bI (gwf (mL M c) (mL M q) i))), some (.int (nI i)), some (.long (nbr (gwr (mL M c) (mL M q) i) i k)), none, some (.int (nI k))] [] (sL M c (gwr (mL M c) (mL M q) i)) := by
        refine up_to 6 _ ?_ (fun k hk ihk => ?_)
        · refine j_il dX1_growWithin_21 rfl ?_
          refine j_biN 6 dX1_growWithin_23 rfl ?_
          refine j_icgeN (tgt := 46) dX1_growWithin_25 (by decide) (by omega) (by omega) (fun h25 => ?_) (fun h25 => ?_)
          · refine j_ll dX1_growWithin_46 rfl ?_
            refine j_aln dX1_growWithin_48 rfl rfl ?_
            refine g_X1_0 dX1_growWithin_49 fl_X1_9 (by first | assumption | decide | (simp only [nv] at *; omega)) ?_
            refine j_iln dX1_growWithin_52 rfl rfl ?_
            refine j_aldLN dX1_growWithin_53 (by first | assumption | decide | (simp only [nv] at *; omega)) (by omega) ?_
            refine j_land dX1_growWithin_54 ?_
            rw [mL_sL, if_neg hne]
            refine j_lst_4 dX1_growWithin_55 (by decide) rfl ?_
            refine j_iln dX1_growWithin_57 rfl rfl ?_
            refine j_ifne (tgt := 73) dX1_growWithin_58 (by decide) (fun h58 => ?_) (fun h58 => ?_)
            · refine j_icN 1 dX1_growWithin_73 rfl ?_
              refine j_goto (tgt := 78) dX1_growWithin_74 (by decide) ?_
              refine j_ist_2 dX1_growWithin_78 (by decide) rfl ?_
              refine j_aln dX1_growWithin_79 rfl rfl ?_
              refine g_X1_0 dX1_growWithin_80 fl_X1_9 (by first | assumption | decide | (simp only [nv] at *; omega)) ?_
              refine j_iln dX1_growWithin_83 rfl rfl ?_
              refine j_ll dX1_growWithin_84 rfl ?_
              refine j_astLN dX1_growWithin_86 (by first | assumption | decide | (simp only [nv] at *; omega)) (by omega) ?_
              refine j_incN_3 1 dX1_growWithin_87 rfl (by decide) rfl ?_
              refine j_goto (tgt := 4) dX1_growWithin_90 (by decide) ?_
              refine j_eq ?_ rfl ?_ (ih (some (.long (nbr (gwr (mL M c) (mL M q) i) i 6 &&& mL M q i))) (some (.int (nI 6))))
              · clear ih; simp_all [gwf, bI_ne, bI_eq, lg_eq, lg_ne, mL_sL, bI] <;> rfl
              · rw [sL_sL, mL_sL, if_pos rfl]; rfl
            · refine j_ll dX1_growWithin_61 rfl ?_
              refine j_aln dX1_growWithin_63 rfl rfl ?_
              refine g_X1_0 dX1_growWithin_64 fl_X1_9 (by first | assumption | decide | (simp only [nv] at *; omega)) ?_
              refine j_iln dX1_growWithin_67 rfl rfl ?_
              refine j_aldLN dX1_growWithin_68 (by first | assumption | decide | (simp only [nv] at *; omega)) (by omega) ?_
              refine j_lcmp dX1_growWithin_69 ?_
              refine j_ifeq (tgt := 77) dX1_growWithin_70 (by decide) (fun h70 => ?_) (fun h70 => ?_)
              · refine j_icN 0 dX1_growWithin_77 rfl ?_
                refine j_ist_2 dX1_growWithin_78 (by decide) rfl ?_
                refine j_aln dX1_growWithin_79 rfl rfl ?_
                refine g_X1_0 dX1_growWithin_80 fl_X1_9 (by first | assumption | decide | (simp only [nv] at *; omega)) ?_
                refine j_iln dX1_growWithin_83 rfl rfl ?_
                refine j_ll dX1_growWithin_84 rfl ?_
                refine j_astLN dX1_growWithin_86 (by first | assumption | decide | (simp only [nv] at *; omega)) (by omega) ?_
                refine j_incN_3 1 dX1_growWithin_87 rfl (by decide) rfl ?_
                refine j_goto (tgt := 4) dX1_growWithin_90 (by decide) ?_
                refine j_eq ?_ rfl ?_ (ih (some (.long (nbr (gwr (mL M c) (mL M q) i) i 6 &&& mL M q i))) (some (.int (nI 6))))
                · clear ih; simp_all [gwf, bI_ne, bI_eq, lg_eq, lg_ne, mL_sL, bI] <;> rfl
                · rw [sL_sL, mL_sL, if_pos rfl]; rfl
              · refine j_icN 1 dX1_growWithin_73 rfl ?_
                refine j_goto (tgt := 78) dX1_growWithin_74 (by decide) ?_
                refine j_ist_2 dX1_growWithin_78 (by decide) rfl ?_
                refine j_aln dX1_growWithin_79 rfl rfl ?_
                refine g_X1_0 dX1_growWithin_80 fl_X1_9 (by first | assumption | decide | (simp only [nv] at *; omega)) ?_
                refine j_iln dX1_growWithin_83 rfl rfl ?_
                refine j_ll dX1_growWithin_84 rfl ?_
                refine j_astLN dX1_growWithin_86 (by first | assumption | decide | (simp only [nv] at *; omega)) (by omega) ?_
                refine j_incN_3 1 dX1_growWithin_87 rfl (by decide) rfl ?_
                refine j_goto (tgt := 4) dX1_growWithin_90 (by decide) ?_
                refine j_eq ?_ rfl ?_ (ih (some (.long (nbr (gwr (mL M c) (mL M q) i) i 6 &&& mL M q i))) (some (.int (nI 6))))
                · clear ih; simp_all [gwf, bI_ne, bI_eq, lg_eq, lg_ne, mL_sL, bI] <;> rfl
                · rw [sL_sL, mL_sL, if_pos rfl]; rfl
          · exact absurd (Nat.le_refl 6) h25
        · refine j_il dX1_growWithin_21 rfl ?_
          refine j_biN 6 dX1_growWithin_23 rfl ?_
          refine j_icgeN (tgt := 46) dX1_growWithin_25 (by decide) (by omega) (by omega) (fun h25 => ?_) (fun h25 => ?_)
          · exact absurd h25 (by omega)
          · refine j_ll dX1_growWithin_28 rfl ?_
            refine j_aln dX1_growWithin_30 rfl rfl ?_
            refine j_il dX1_growWithin_31 rfl ?_
            refine j_iln dX1_growWithin_33 rfl rfl ?_
            refine j_V2d mf_X1_besideAt ml_X1_33 dX1_growWithin_34 (Nat.le_of_ble_eq_true rfl) (Nat.le_of_ble_eq_true rfl) (Nat.le_of_ble_eq_true rfl) ⟨(Nat.le_of_ble_eq_true rfl), (Nat.le_of_ble_eq_true rfl)⟩ (by first | assumption | decide | (simp only [nv] at *; omega)) rfl rfl (c_X1_besideAt hc (by omega) hi) ?_
            rw [mL_sL, if_pos rfl]
            refine j_lor dX1_growWithin_37 ?_
            refine j_lst_4 dX1_growWithin_38 (by decide) rfl ?_
            refine j_incN_6 1 dX1_growWithin_40 rfl (by decide) rfl ?_
            refine j_goto (tgt := 21) dX1_growWithin_43 (by decide) ?_
            exact ihk
      refine j_iln dX1_growWithin_4 rfl rfl ?_
      refine j_biN 8 dX1_growWithin_5 rfl ?_
      refine j_icgeN (tgt := 93) dX1_growWithin_7 (by decide) (by omega) (by omega) (fun h7 => ?_) (fun h7 => ?_)
      · exact absurd h7 (by omega)
      · refine j_aln dX1_growWithin_10 rfl rfl ?_
        refine g_X1_0 dX1_growWithin_11 fl_X1_9 (by first | assumption | decide | (simp only [nv] at *; omega)) ?_
        refine j_iln dX1_growWithin_14 rfl rfl ?_
        refine j_aldLN dX1_growWithin_15 (by first | assumption | decide | (simp only [nv] at *; omega)) (by omega) ?_
        refine j_lst_4 dX1_growWithin_16 (by decide) rfl ?_
        rw [mL_sL, if_pos rfl]
        refine j_icN 0 dX1_growWithin_18 rfl ?_
        refine j_ist_6 dX1_growWithin_19 (by decide) rfl ?_
        exact KK 0 (by omega)
  refine j_icN 0 dX1_growWithin_0 rfl ?_
  refine j_ist_2 dX1_growWithin_1 (by decide) rfl ?_
  refine j_icN 0 dX1_growWithin_2 rfl ?_
  refine j_ist_3 dX1_growWithin_3 (by decide) rfl ?_
  have K0 := K 0 (by omega) none none
  rw [show gwr (mL M c) (mL M q) 0 = mL M c from rfl, sL_id] at K0
  exact K0
set_option maxRecDepth 100000 in
set_option maxHeartbeats 4000000 in
theorem c_X1_takeSeedOf {l : Launch} {E : Ev} {M : Mm} {c q : Nat} (hc : c < nv 7) (ho : q < nv 7) (hne : ¬ q = c) : Ct l E yX1_takeSeedOf cX1_takeSeedOf 3 (some .boolean) 2 0 0 [.ref (eA E 7 c), .ref (eA E 7 q)] M (fun v M1 => ((∀ z, z < 8 → mL M q z = 0) ∧ v = some (.int 0) ∧ M1 = sL M c (fun _ => 0)) ∨ ∃ z, z < 8 ∧ (∀ y, y < z → mL M q y = 0) ∧ mL M q z ≠ 0 ∧ v = some (.int 1) ∧ M1 = sL M c (fun y => if y = z then lob (mL M q z) else 0)) := by
  refine Ct.of (own := RX1) rfl [some (.ref (eA E 7 c)), some (.ref (eA E 7 q)), none] (by decide) (Nat.le_of_ble_eq_true rfl) rfl ?_
  have K : ∀ i, i ≤ 8 → (∀ z, z < i → mL M q z = 0) → Jd l E RX1 cX1_takeSeedOf 3 (some .boolean) [] (rmm 2 0 0) (QfN E (fun v M1 => ((∀ z, z < 8 → mL M q z = 0) ∧ v = some (.int 0) ∧ M1 = sL M c (fun _ => 0)) ∨ ∃ z, z < 8 ∧ (∀ y, y < z → mL M q y = 0) ∧ mL M q z ≠ 0 ∧ v = some (.int 1) ∧ M1 = sL M c (fun y => if y = z then lob (mL M q z) else 0)) 0 0) 0 0 6 [some (.ref (eA E 7 c)), some (.ref (eA E 7 q)), some (.int (nI i))] [] (sL M c (fun _ => 0)) := by
    refine up_to 8 _ ?_ (fun i hi ih => ?_)
    · intro hall
      refine j_iln dX1_takeSeedOf_6 rfl rfl ?_
      refine j_biN 8 dX1_takeSeedOf_7 rfl ?_
      refine j_icgeN (tgt := 46) dX1_takeSeedOf_9 (by decide) (by omega) (by omega) (fun h9 => ?_) (fun h9 => ?_)
      · refine j_icN 0 dX1_takeSeedOf_46 rfl ?_
        exact j_iret dX1_takeSeedOf_47 rfl rfl (Nat.le_of_ble_eq_true rfl) (Nat.le_of_ble_eq_true rfl) (Or.inl ⟨hall, rfl, rfl⟩)
      · exact absurd (Nat.le_refl 8) h9
    · intro hall
      refine j_iln dX1_takeSeedOf_6 rfl rfl ?_
      refine j_biN 8 dX1_takeSeedOf_7 rfl ?_
      refine j_icgeN (tgt := 46) dX1_takeSeedOf_9 (by decide) (by omega) (by omega) (fun h9 => ?_) (fun h9 => ?_)
      · exact absurd h9 (by omega)
      · refine j_aln dX1_takeSeedOf_12 rfl rfl ?_
        refine g_X1_0 dX1_takeSeedOf_13 fl_X1_9 (by first | assumption | decide | (simp only [nv] at *; omega)) ?_
        refine j_iln dX1_takeSeedOf_16 rfl rfl ?_
        refine j_aldLN dX1_takeSeedOf_17 (by first | assumption | decide | (simp only [nv] at *; omega)) (by omega) ?_
        refine j_lc (v := 0) dX1_takeSeedOf_18 (by decide) ?_
        refine j_lcmp dX1_takeSeedOf_19 ?_
        refine j_ifeq (tgt := 40) dX1_takeSeedOf_20 (by decide) (fun h20 => ?_) (fun h20 => ?_)
        · refine j_incN_2 1 dX1_takeSeedOf_40 rfl (by decide) rfl ?_
          refine j_goto (tgt := 6) dX1_takeSeedOf_43 (by decide) ?_
          exact ih (fun z hz => by
            rcases Nat.lt_or_ge z i with h | h
            · exact hall z h
            · rw [show z = i by omega]; have h9 := lg_eq.mp h20; rwa [mL_sL, if_neg hne] at h9)
        · refine j_aln dX1_takeSeedOf_23 rfl rfl ?_
          refine g_X1_0 dX1_takeSeedOf_24 fl_X1_9 (by first | assumption | decide | (simp only [nv] at *; omega)) ?_
          refine j_iln dX1_takeSeedOf_27 rfl rfl ?_
          refine j_aln dX1_takeSeedOf_28 rfl rfl ?_
          refine g_X1_0 dX1_takeSeedOf_29 fl_X1_9 (by first | assumption | decide | (simp only [nv] at *; omega)) ?_
          refine j_iln dX1_takeSeedOf_32 rfl rfl ?_
          refine j_aldLN dX1_takeSeedOf_33 (by first | assumption | decide | (simp only [nv] at *; omega)) (by omega) ?_
          refine j_S1d mf_J13_lowestOneBit_067f4 ml_X1_68 dX1_takeSeedOf_34 (Nat.le_of_ble_eq_true rfl) (Nat.le_of_ble_eq_true rfl) (Nat.le_of_ble_eq_true rfl) ⟨(Nat.le_of_ble_eq_true rfl), (Nat.le_of_ble_eq_true rfl)⟩ c_J13_lowestOneBit_067f4 ?_
          refine j_astLN dX1_takeSeedOf_37 (by first | assumption | decide | (simp only [nv] at *; omega)) (by omega) ?_
          refine j_icN 1 dX1_takeSeedOf_38 rfl ?_
          exact j_iret dX1_takeSeedOf_39 rfl rfl (Nat.le_of_ble_eq_true rfl) (Nat.le_of_ble_eq_true rfl) (Or.inr ⟨i, hi, hall, (by have h9 := lg_ne.mp h20; rwa [mL_sL, if_neg hne] at h9), rfl, (by rw [sL_sL, mL_sL, mL_sL, if_pos rfl, if_neg hne]; congr 1)⟩)
  refine j_aln dX1_takeSeedOf_0 rfl rfl ?_
  refine j_V0n mf_X1_clear ml_X1_43 dX1_takeSeedOf_1 (Nat.le_of_ble_eq_true rfl) (Nat.le_of_ble_eq_true rfl) (Nat.le_of_ble_eq_true rfl) ⟨(Nat.le_of_ble_eq_true rfl), (Nat.le_of_ble_eq_true rfl)⟩ (by first | assumption | decide | (simp only [nv] at *; omega)) rfl rfl (c_X1_clear hc) ?_
  refine j_icN 0 dX1_takeSeedOf_4 rfl ?_
  refine j_ist_2 dX1_takeSeedOf_5 (by decide) rfl ?_
  exact K 0 (by omega) (fun z hz => absurd hz (by omega))
