/-! the object: a feature added -/
/-- the place of a kind in the row of kinds -/
def kix (c : Int32) : Int32 := if c = nI 98 then nI 0 else if c = nI 99 then nI 1 else if c = nI 105 then nI 2 else if c = nI 109 then nI 3 else if c = nI 112 then nI 4 else if c = nI 104 then nI 5 else if c = nI 101 then nI 6 else -1
theorem kix_t {c : Int32} (h : ¬ kix c < 0) : seven c := by
  unfold kix at h
  unfold seven
  by_cases h1 : c = nI 98
  · exact Or.inl h1
  · by_cases h2 : c = nI 99
    · exact Or.inr (Or.inl h2)
    · by_cases h3 : c = nI 105
      · exact Or.inr (Or.inr (Or.inl h3))
      · by_cases h4 : c = nI 109
        · exact Or.inr (Or.inr (Or.inr (Or.inl h4)))
        · by_cases h5 : c = nI 112
          · exact Or.inr (Or.inr (Or.inr (Or.inr (Or.inl h5))))
          · by_cases h6 : c = nI 104
            · exact Or.inr (Or.inr (Or.inr (Or.inr (Or.inr (Or.inl h6)))))
            · by_cases h7 : c = nI 101
              · exact Or.inr (Or.inr (Or.inr (Or.inr (Or.inr (Or.inr h7)))))
              · rw [if_neg h1, if_neg h2, if_neg h3, if_neg h4, if_neg h5, if_neg h6, if_neg h7] at h
                exact absurd (by decide) h
theorem kix_f {c : Int32} (h : kix c < 0) : ¬ seven c := by
  intro q
  rcases q with q | q | q | q | q | q | q <;> subst q <;> exact absurd h (by decide)
theorem sv_vp {c : Int32} (h : seven c) : vp_nar .char c = c := by
  rcases h with q | q | q | q | q | q | q <;> subst q <;> rfl
/-- String.indexOf on the constant row of kinds, as a rule to be proved by its own text -/
def IxR (l : Launch) (E : Ev) : Prop := ∀ (Qf : List Frame → Array Value → State → State → Prop) (lv : Nat) (ls : List (Option Value)) (M : Mm) (c : Int32), ls[1]? = some (some (.int c)) → 6 ≤ lv → Jd l E RX9 cX9_addFeature 7 (some .int) [] (rmm lv 1 6) Qf 0 0 6 ls [.int (kix c)] M → Jd l E RX9 cX9_addFeature 7 (some .int) [] (rmm lv 1 6) Qf 0 0 0 ls [] M
def adN (fr : Nat → Nat) (cnt g : Nat) : Nat → Nat := fun j => if j = cnt then g else fr j
theorem app_t {M : Mm} {g cnt bar t : Nat} {c x y z : Int32} (h : ¬ (t = 2 ∨ t = 24 ∨ t = 25 ∨ t = 26)) : mI (appM M g cnt bar c x y z) t = mI M t := by
  unfold appM app1
  simp only [mI_sI]
  rw [if_neg (by omega), if_neg (by omega), if_neg (by omega), if_neg (by omega)]
theorem app_24 {M : Mm} {g cnt bar : Nat} {c x y z : Int32} : mI (appM M g cnt bar c x y z) 24 = upd (mI M 24) cnt (nI g) := rfl
theorem app_25 {M : Mm} {g cnt bar : Nat} {c x y z : Int32} : mI (appM M g cnt bar c x y z) 25 = upd (mI M 25) g c := rfl
theorem app_row {M : Mm} {fr : Nat → Nat} {g cnt bar : Nat} {c x y z : Int32} (hg : g < 40) (hrow : ∀ k, k < cnt → mI M 24 k = nI (fr k) ∧ fr k < 40) : ∀ k, k < cnt + 1 → mI (appM M g cnt bar c x y z) 24 k = nI (adN fr cnt g k) ∧ adN fr cnt g k < 40 := by
  intro k hk
  rw [app_24]
  unfold upd adN
  by_cases h : k = cnt
  · rw [if_pos h, if_pos h]; exact ⟨rfl, hg⟩
  · rw [if_neg h, if_neg h]; exact hrow k (by omega)
theorem app_kd {M : Mm} {fr : Nat → Nat} {g cnt bar : Nat} {c x y z : Int32} (hfg : ∀ k, k < cnt → fr k < g) (hs : seven c) (hkd : ∀ k, k < cnt → seven (mI M 25 (fr k))) : ∀ k, k < cnt + 1 → seven (mI (appM M g cnt bar c x y z) 25 (adN fr cnt g k)) := by
  intro k hk
  rw [app_25]
  unfold upd adN
  by_cases h : k = cnt
  · rw [if_pos h, if_pos rfl]; exact hs
  · have := hfg k (by omega)
    rw [if_neg h, if_neg (by omega)]; exact hkd k (by omega)
theorem app_inj {fr : Nat → Nat} {g cnt : Nat} (hfg : ∀ k, k < cnt → fr k < g) (h : ∀ i j, i < cnt → j < cnt → fr i = fr j → i = j) : ∀ i j, i < cnt + 1 → j < cnt + 1 → adN fr cnt g i = adN fr cnt g j → i = j := by
  intro i j hi hj e
  unfold adN at e
  by_cases h1 : i = cnt
  · by_cases h2 : j = cnt
    · omega
    · have := hfg j (by omega)
      rw [if_pos h1, if_neg h2] at e
      omega
  · have := hfg i (by omega)
    by_cases h2 : j = cnt
    · rw [if_neg h1, if_pos h2] at e
      omega
    · rw [if_neg h1, if_neg h2] at e
      exact h i j (by omega) (by omega) e
set_option maxRecDepth 100000 in
set_option maxHeartbeats 4000000 in
theorem c_X9_addFeature {l : Launch} {E : Ev} {M : Mm} (hl9 : l.stackTraces = false) {cnt bar bc g : Nat} {fr : Nat → Nat} {kd x y z : Int32} (hix : IxR l E) (hcnt : mI M 2 5 = nI cnt) (hc12 : cnt ≤ 12) (hrow : ∀ k, k < cnt → mI M 24 k = nI (fr k) ∧ fr k < 40) (hbar : mI M 2 7 = nI bar) (hbr : bar ≤ cnt) (hbc : mI M 1 11 = nI bc) (hbc12 : bc ≤ 12) (hkd : ∀ k, k < cnt → seven (mI M 25 (fr k))) (hinj : ∀ i j, i < cnt → j < cnt → fr i = fr j → i = j) (hof : ∀ g, g < 40 → vp_nar .boolean (mI M 27 g) = mI M 27 g) (hg : mI M 2 6 = nI g) (hg40 : g ≤ 40) (hfg : ∀ k, k < cnt → fr k < g) : CtX l E yX9_addFeature cX9_addFeature 7 (some .int) 7 [.ref (eA E 0 0), .int kd, .int x, .int y, .int z] M (fun v M1 => (seven kd ∧ aT x y z = true) ∧ (cnt < 12 ∧ g < 40) ∧ nbO M cnt fr (nI g) = false ∧ v = some (.int (nI g)) ∧ cocP (appM M g cnt bar kd x y z) (if bar = cnt then cnt + 1 else bar) bc (adN fr cnt g) M1) (fun c9 M1 => ((¬ (seven kd ∧ aT x y z = true) ∧ c9 = "java/lang/IllegalArgumentException") ∨ ((seven kd ∧ aT x y z = true) ∧ ¬ (cnt < 12 ∧ g < 40) ∧ c9 = "java/lang/IllegalStateException") ∨ ((seven kd ∧ aT x y z = true) ∧ (cnt < 12 ∧ g < 40) ∧ nbO M cnt fr (nI g) = true ∧ c9 = "java/lang/UnsupportedOperationException")) ∧ M1 = M) := by
  refine CtX.of (own := RX9) rfl [some (.ref (eA E 0 0)), some (.int kd), some (.int x), some (.int y), some (.int z), none, none] (by decide) (Nat.le_of_ble_eq_true rfl) rfl ?_
  refine hix _ _ _ _ kd rfl (Nat.le_of_ble_eq_true rfl) ?_
  refine j_iflt (tgt := 19) dX9_addFeature_6 (by decide) (fun h6 => ?_) (fun h6 => ?_)
  · have hx : ¬ (seven kd ∧ aT x y z = true) := fun q => kix_f h6 q.1
    exact j_throwS (text := "no such kind or dimension") hl9 thr_36 (by decide +kernel) dX9_addFeature_19 dX9_addFeature_22 dX9_addFeature_23 dX9_addFeature_25 dX9_addFeature_28 (Nat.le_of_ble_eq_true rfl) (Nat.le_of_ble_eq_true rfl) ⟨Or.inl ⟨hx, rfl⟩, rfl⟩
  · refine j_iln dX9_addFeature_9 rfl rfl ?_
    refine j_iln dX9_addFeature_10 rfl rfl ?_
    refine j_il dX9_addFeature_11 rfl ?_
    refine j_S3d mf_X9_areTerms ml_X9_99 dX9_addFeature_13 (Nat.le_of_ble_eq_true rfl) (Nat.le_of_ble_eq_true rfl) (Nat.le_of_ble_eq_true rfl) ⟨(Nat.le_of_ble_eq_true rfl), (Nat.le_of_ble_eq_true rfl)⟩ c_X9_areTerms ?_
    refine j_ifne (tgt := 29) dX9_addFeature_16 (by decide) (fun h16 => ?_) (fun h16 => ?_)
    · have hk : (seven kd ∧ aT x y z = true) := ⟨kix_t h6, bI_ne.mp h16⟩
      refine j_aln dX9_addFeature_29 rfl rfl ?_
      refine g_X9_0 dX9_addFeature_30 fl_X9_10 ?_
      refine g_X3_0 dX9_addFeature_33 fl_X9_43 ?_
      refine j_ast_5 dX9_addFeature_36 (by decide) rfl ?_
      refine j_al dX9_addFeature_38 rfl ?_
      refine g_X2_5 dX9_addFeature_40 fl_X9_104 ?_
      refine j_topi hcnt ?_
      refine j_biN 12 dX9_addFeature_43 rfl ?_
      refine j_icgeN (tgt := 58) dX9_addFeature_45 (by decide) (by omega) (by omega) (fun h45 => ?_) (fun h45 => ?_)
      · have hy : ¬ (cnt < 12 ∧ g < 40) := fun q => absurd q.1 (by omega)
        exact j_throwS (text := "no more features or numbers") hl9 thr_111 (by decide +kernel) dX9_addFeature_58 dX9_addFeature_61 dX9_addFeature_62 dX9_addFeature_64 dX9_addFeature_67 (Nat.le_of_ble_eq_true rfl) (Nat.le_of_ble_eq_true rfl) ⟨Or.inr (Or.inl ⟨hk, hy, rfl⟩), rfl⟩
      · have h45 : cnt < 12 := by omega
        refine j_al dX9_addFeature_48 rfl ?_
        refine g_X2_6 dX9_addFeature_50 fl_X9_108 ?_
        refine j_topi hg ?_
        refine j_biN 40 dX9_addFeature_53 rfl ?_
        refine j_icltN (tgt := 68) dX9_addFeature_55 (by decide) (by omega) (by omega) (fun h55 => ?_) (fun h55 => ?_)
        · refine j_al dX9_addFeature_68 rfl ?_
          refine j_al dX9_addFeature_70 rfl ?_
          refine g_X2_6 dX9_addFeature_72 fl_X9_108 ?_
          refine j_topi hg ?_
          refine j_V1d mf_X2_isNeededByOther ml_X9_116 dX9_addFeature_75 (Nat.le_of_ble_eq_true rfl) (Nat.le_of_ble_eq_true rfl) (Nat.le_of_ble_eq_true rfl) ⟨(Nat.le_of_ble_eq_true rfl), (Nat.le_of_ble_eq_true rfl)⟩ (by first | assumption | decide | (simp only [nv] at *; omega)) rfl rfl (c_X2_isNeededByOther hcnt hc12 hrow) ?_
          refine j_ifeq (tgt := 91) dX9_addFeature_78 (by decide) (fun h78 => ?_) (fun h78 => ?_)
          · have hnb := bI_eq.mp h78
            refine j_al dX9_addFeature_91 rfl ?_
            refine j_iln dX9_addFeature_93 rfl rfl ?_
            refine j_iln dX9_addFeature_94 rfl rfl ?_
            refine j_iln dX9_addFeature_95 rfl rfl ?_
            refine j_il dX9_addFeature_96 rfl ?_
            refine j_V4d mf_X2_append ml_X9_119 dX9_addFeature_98 (Nat.le_of_ble_eq_true rfl) (Nat.le_of_ble_eq_true rfl) (Nat.le_of_ble_eq_true rfl) ⟨(Nat.le_of_ble_eq_true rfl), (Nat.le_of_ble_eq_true rfl)⟩ (by first | assumption | decide | (simp only [nv] at *; omega)) rfl rfl (c_X2_append hg hcnt hbar h55 h45 (by omega) (sv_vp hk.1)) ?_
            refine j_ist_6 dX9_addFeature_101 (by decide) rfl ?_
            refine j_aln dX9_addFeature_103 rfl rfl ?_
            refine g_X9_0 dX9_addFeature_104 fl_X9_10 ?_
            refine j_V0g mf_X3_carryOutChanged ml_X9_83 dX9_addFeature_107 (Nat.le_of_ble_eq_true rfl) (Nat.le_of_ble_eq_true rfl) (Nat.le_of_ble_eq_true rfl) ⟨(Nat.le_of_ble_eq_true rfl), (Nat.le_of_ble_eq_true rfl)⟩ (by first | assumption | decide | (simp only [nv] at *; omega)) rfl rfl (c_X3_carryOutChanged (M := (appM M g cnt bar kd x y z)) (cnt := cnt + 1) (bar := (if bar = cnt then cnt + 1 else bar)) (bc := bc) (fr := adN fr cnt g) rfl hbc (by split <;> omega) (by omega) hbc12 (app_row h55 hrow) (app_kd hfg hk.1 hkd) (app_inj hfg hinj) (fun q hq => by rw [app_t (by decide)]; exact hof q hq)) ?_
            intro v9 M9 h9
            obtain ⟨rfl, hco⟩ := h9
            refine j_il dX9_addFeature_110 rfl ?_
            exact j_iretX dX9_addFeature_112 rfl rfl (Nat.le_of_ble_eq_true rfl) (Nat.le_of_ble_eq_true rfl) ⟨hk, ⟨h45, h55⟩, hnb, rfl, hco⟩
          · have hnb := bI_ne.mp h78
            exact j_throwS (text := "a feature would stand ahead of one that it needs") hl9 thr_57 (by decide +kernel) dX9_addFeature_81 dX9_addFeature_84 dX9_addFeature_85 dX9_addFeature_87 dX9_addFeature_90 (Nat.le_of_ble_eq_true rfl) (Nat.le_of_ble_eq_true rfl) ⟨Or.inr (Or.inr ⟨hk, ⟨h45, h55⟩, hnb, rfl⟩), rfl⟩
        · have hy : ¬ (cnt < 12 ∧ g < 40) := fun q => h55 q.2
          exact j_throwS (text := "no more features or numbers") hl9 thr_111 (by decide +kernel) dX9_addFeature_58 dX9_addFeature_61 dX9_addFeature_62 dX9_addFeature_64 dX9_addFeature_67 (Nat.le_of_ble_eq_true rfl) (Nat.le_of_ble_eq_true rfl) ⟨Or.inr (Or.inl ⟨hk, hy, rfl⟩), rfl⟩
    · have hx : ¬ (seven kd ∧ aT x y z = true) := fun q => by have e := bI_eq.mp h16; rw [q.2] at e; exact absurd e (by decide)
      exact j_throwS (text := "no such kind or dimension") hl9 thr_36 (by decide +kernel) dX9_addFeature_19 dX9_addFeature_22 dX9_addFeature_23 dX9_addFeature_25 dX9_addFeature_28 (Nat.le_of_ble_eq_true rfl) (Nat.le_of_ble_eq_true rfl) ⟨Or.inl ⟨hx, rfl⟩, rfl⟩
