/-! the class Body -/
def wsK (f g : Nat → Int64) (i : Nat) : Nat → Int64 := fun z => if z < i then g z else f z
theorem sim_wK {M : Mm} {c N : Nat} (f g : Nat → Int64) (hN : 288 ≤ N) : Sim (sK M c (wsL f g N)) (sK M c g) := sim_K fun z hz => by simp [wsL, Nat.lt_of_lt_of_le hz hN]
theorem tb40 : ∀ f, f < 40 → ∀ k, k < 6 → (((nI f >>> (nI k &&& 31)) &&& nI 1 = nI 1) ↔ f.testBit k = true) := by decide +kernel
theorem c_X0_indexOf {l : Launch} {E : Ev} {M : Mm} {s k z : Nat} : Ct l E yX0_indexOf cX0_indexOf 3 (some .int) 1 0 0 [.int (nI s), .int (nI k), .int (nI z)] M (dv (.int (nI ((s * 6 + k) * 8 + z))) M) := by
  refine Ct.of (own := RX0) rfl [some (.int (nI s)), some (.int (nI k)), some (.int (nI z))] (by decide) (Nat.le_of_ble_eq_true rfl) rfl ?_
  refine j_iln dX0_indexOf_0 rfl rfl ?_
  refine j_biN 6 dX0_indexOf_1 rfl ?_
  refine j_imulN dX0_indexOf_3 ?_
  refine j_iln dX0_indexOf_4 rfl rfl ?_
  refine j_iaddN dX0_indexOf_5 ?_
  refine j_biN 8 dX0_indexOf_6 rfl ?_
  refine j_imulN dX0_indexOf_8 ?_
  refine j_iln dX0_indexOf_9 rfl rfl ?_
  refine j_iaddN dX0_indexOf_10 ?_
  exact j_iret dX0_indexOf_11 rfl rfl (Nat.le_of_ble_eq_true rfl) (Nat.le_of_ble_eq_true rfl) ⟨rfl, rfl⟩
set_option maxRecDepth 100000 in
set_option maxHeartbeats 4000000 in
theorem c_X0_clear {l : Launch} {E : Ev} {M : Mm} {b : Nat} (hb : b < nv 6) : Ct l E yX0_clear cX0_clear 2 none 2 0 0 [.ref (eA E 6 b)] M (dn (sK (sL M b (fun _ => 0)) b (fun _ => 0))) := by
  refine Ct.of (own := RX0) rfl [some (.ref (eA E 6 b)), none] (by decide) (Nat.le_of_ble_eq_true rfl) rfl ?_
  have K : ∀ i, i ≤ 288 → Jd l E RX0 cX0_clear 2 none [] (rmm 2 0 0) (QfN E (dn (sK (sL M b (fun _ => 0)) b (fun _ => 0))) 0 0) 0 0 9 [some (.ref (eA E 6 b)), some (.int (nI i))] [] (sK (sL M b (fun _ => 0)) b (wsL (mK M b) (fun _ => 0) i)) := by
    refine up_to 288 _ ?_ (fun i hi ih => ?_)
    · refine j_iln dX0_clear_9 rfl rfl ?_
      refine j_siN 288 dX0_clear_10 rfl ?_
      refine j_icgeN (tgt := 29) dX0_clear_13 (by decide) (by omega) (by omega) (fun h13 => ?_) (fun h13 => ?_)
      · refine j_sim (sim_wK _ _ (Nat.le_refl 288)) ?_
        exact j_vret dX0_clear_29 rfl (Nat.le_of_ble_eq_true rfl) (Nat.le_of_ble_eq_true rfl) ⟨rfl, rfl⟩
      · exact absurd (Nat.le_refl 288) h13
    · refine j_iln dX0_clear_9 rfl rfl ?_
      refine j_siN 288 dX0_clear_10 rfl ?_
      refine j_icgeN (tgt := 29) dX0_clear_13 (by decide) (by omega) (by omega) (fun h13 => ?_) (fun h13 => ?_)
      · exact absurd h13 (by omega)
      · refine j_aln dX0_clear_16 rfl rfl ?_
        refine g_X0_1 dX0_clear_17 fl_X0_18 (by first | assumption | decide | (simp only [nv] at *; omega)) ?_
        refine j_iln dX0_clear_20 rfl rfl ?_
        refine j_lc (v := 0) dX0_clear_21 (by decide) ?_
        refine j_astKN dX0_clear_22 (by first | assumption | decide | (simp only [nv] at *; omega)) (by omega) ?_
        refine j_incN_1 1 dX0_clear_23 rfl (by decide) rfl ?_
        refine j_goto (tgt := 9) dX0_clear_26 (by decide) ?_
        refine j_mem ?_ ih
        rw [sK_sK, mK_sK, if_pos rfl, wsL_s rfl]
  refine j_aln dX0_clear_0 rfl rfl ?_
  refine g_X0_0 dX0_clear_1 fl_X0_12 (by first | assumption | decide | (simp only [nv] at *; omega)) ?_
  refine j_V0n mf_X1_clear ml_X0_22 dX0_clear_4 (Nat.le_of_ble_eq_true rfl) (Nat.le_of_ble_eq_true rfl) (Nat.le_of_ble_eq_true rfl) ⟨(Nat.le_of_ble_eq_true rfl), (Nat.le_of_ble_eq_true rfl)⟩ (Nat.lt_of_lt_of_le hb (by decide)) rfl rfl (c_X1_clear (Nat.lt_of_lt_of_le hb (by decide))) ?_
  refine j_icN 0 dX0_clear_7 rfl ?_
  refine j_ist_1 dX0_clear_8 (by decide) rfl ?_
  have K0 := K 0 (by omega)
  rw [wsL_0, show mK M b = mK (sL M b (fun _ => 0)) b from rfl, sK_id] at K0
  exact K0
set_option maxRecDepth 100000 in
set_option maxHeartbeats 4000000 in
theorem c_X0_copyFrom {l : Launch} {E : Ev} {M : Mm} {b q : Nat} (hb : b < nv 6) (hq : q < nv 6) : Ct l E yX0_copyFrom cX0_copyFrom 2 none 2 0 0 [.ref (eA E 6 b), .ref (eA E 6 q)] M (dn (sK (sL M b (mL M q)) b (mK M q))) := by
  refine Ct.of (own := RX0) rfl [some (.ref (eA E 6 b)), some (.ref (eA E 6 q))] (by decide) (Nat.le_of_ble_eq_true rfl) rfl ?_
  refine j_aln dX0_copyFrom_0 rfl rfl ?_
  refine g_X0_0 dX0_copyFrom_1 fl_X0_12 (by first | assumption | decide | (simp only [nv] at *; omega)) ?_
  refine j_aln dX0_copyFrom_4 rfl rfl ?_
  refine g_X0_0 dX0_copyFrom_5 fl_X0_12 (by first | assumption | decide | (simp only [nv] at *; omega)) ?_
  refine j_V1n mf_X1_copyFrom ml_X0_25 dX0_copyFrom_8 (Nat.le_of_ble_eq_true rfl) (Nat.le_of_ble_eq_true rfl) (Nat.le_of_ble_eq_true rfl) ⟨(Nat.le_of_ble_eq_true rfl), (Nat.le_of_ble_eq_true rfl)⟩ (Nat.lt_of_lt_of_le hb (by decide)) rfl rfl (c_X1_copyFrom (Nat.lt_of_lt_of_le hb (by decide)) (Nat.lt_of_lt_of_le hq (by decide))) ?_
  refine j_aln dX0_copyFrom_11 rfl rfl ?_
  refine g_X0_1 dX0_copyFrom_12 fl_X0_18 (by first | assumption | decide | (simp only [nv] at *; omega)) ?_
  refine j_ic (v := 0) dX0_copyFrom_15 (by decide) ?_
  refine j_aln dX0_copyFrom_16 rfl rfl ?_
  refine g_X0_1 dX0_copyFrom_17 fl_X0_18 (by first | assumption | decide | (simp only [nv] at *; omega)) ?_
  refine j_ic (v := 0) dX0_copyFrom_20 (by decide) ?_
  refine j_si (v := 288) dX0_copyFrom_21 (by decide) ?_
  refine j_cpyK dX0_copyFrom_24 ml_X0_29 ac_native ac_static ac_init (by assumption) (by assumption) (by decide) (Nat.le_of_ble_eq_true rfl) (by decide +kernel) ?_
  refine j_sim (sim_K (g := mK M q) (fun z hz => ?_)) ?_
  · simp [va_cpy, hz, mK_sL]
  exact j_vret dX0_copyFrom_27 rfl (Nat.le_of_ble_eq_true rfl) (Nat.le_of_ble_eq_true rfl) ⟨rfl, rfl⟩
def nmq (cb cq kq : Nat → Int64) (f i : Nat) : Int64 :=
  ((kq i &&& sqa cq (i / 48) (i % 8)) &&& sqa cb (i / 48) (i % 8)) ||| (if f.testBit (i / 8 % 6) = true then sqa cb (i / 48) (i % 8) &&& (sqa cq (i / 48) (i % 8) ^^^ -1) else 0)
def dnm (s z k i : Nat) : Bool := decide (i / 48 < s ∨ i / 48 = s ∧ (i % 8 < z ∨ i % 8 = z ∧ i / 8 % 6 < k))
def nmw (kb cb cq kq : Nat → Int64) (f s z k : Nat) : Nat → Int64 := fun i => if dnm s z k i = true then nmq cb cq kq f i else kb i
theorem nmw_0 (kb cb cq kq : Nat → Int64) (f : Nat) : nmw kb cb cq kq f 0 0 0 = kb := by
  funext i
  simp [nmw, dnm]
theorem nmw_k {kb cb cq kq : Nat → Int64} {f s z k : Nat} (hs : s < 6) (hz : z < 8) (hk : k < 6) {v : Int64} (hv : v = nmq cb cq kq f ((s * 6 + k) * 8 + z)) : vp_updL (nmw kb cb cq kq f s z k) ((s * 6 + k) * 8 + z) v = nmw kb cb cq kq f s z (k + 1) := by
  funext i
  unfold vp_updL nmw
  by_cases h : i = (s * 6 + k) * 8 + z
  · subst h
    have e : dnm s z (k + 1) ((s * 6 + k) * 8 + z) = true := by
      unfold dnm
      apply decide_eq_true
      omega
    rw [if_pos rfl, if_pos e, hv]
  · rw [if_neg h]
    have e : dnm s z k i = dnm s z (k + 1) i := by
      unfold dnm
      apply decide_eq_decide.mpr
      omega
    rw [e]
theorem nmw_z {kb cb cq kq : Nat → Int64} {f s z : Nat} : nmw kb cb cq kq f s z 6 = nmw kb cb cq kq f s (z + 1) 0 := by
  funext i
  unfold nmw
  have e : dnm s z 6 i = dnm s (z + 1) 0 i := by
    unfold dnm
    apply decide_eq_decide.mpr
    omega
  rw [e]
theorem nmw_s {kb cb cq kq : Nat → Int64} {f s : Nat} : nmw kb cb cq kq f s 8 0 = nmw kb cb cq kq f (s + 1) 0 0 := by
  funext i
  unfold nmw
  have e : dnm s 8 0 i = dnm (s + 1) 0 0 i := by
    unfold dnm
    apply decide_eq_decide.mpr
    omega
  rw [e]
theorem nmw_6 {M : Mm} {b : Nat} {kb cb cq kq : Nat → Int64} {f : Nat} : Sim (sK M b (nmw kb cb cq kq f 6 0 0)) (sK M b (nmq cb cq kq f)) := sim_K fun i hi => by
  unfold nmw
  rw [if_pos]
  unfold dnm
  apply decide_eq_true
  omega
theorem nmq_at {cb cq kq : Nat → Int64} {f s z k : Nat} (hs : s < 6) (hz : z < 8) (hk : k < 6) : nmq cb cq kq f ((s * 6 + k) * 8 + z) = ((kq ((s * 6 + k) * 8 + z) &&& sqa cq s z) &&& sqa cb s z) ||| (if f.testBit k = true then sqa cb s z &&& (sqa cq s z ^^^ -1) else 0) := by
  have e1 : ((s * 6 + k) * 8 + z) / 48 = s := by omega
  have e2 : ((s * 6 + k) * 8 + z) % 8 = z := by omega
  have e3 : ((s * 6 + k) * 8 + z) / 8 % 6 = k := by omega
  unfold nmq
  rw [e1, e2, e3]
set_option maxRecDepth 100000 in
set_option maxHeartbeats 4000000 in
theorem c_X0_nameSquares {l : Launch} {E : Ev} {M : Mm} {b q f : Nat} (hb : b < nv 6) (hq : q < nv 6) (hne : ¬ q = b) (hf : f < 40) : Ct l E yX0_nameSquares cX0_nameSquares 13 none 3 0 0 [.ref (eA E 6 b), .ref (eA E 6 q), .int (nI f)] M (dn (sK M b (nmq (mL M b) (mL M q) (mK M q) f))) := by
  refine Ct.of (own := RX0) rfl [some (.ref (eA E 6 b)), some (.ref (eA E 6 q)), some (.int (nI f)), none, none, none, none, none, none, none, none, none, none] (by decide) (Nat.le_of_ble_eq_true rfl) rfl ?_
  have KS : ∀ s, s ≤ 6 → ∀ (o4 o5 o7 o9 oa oc : Option Value), Jd l E RX0 cX0_nameSquares 13 none [] (rmm 3 0 0) (QfN E (dn (sK M b (nmq (mL M b) (mL M q) (mK M q) f))) 0 0) 0 0 2 [some (.ref (eA E 6 b)), some (.ref (eA E 6 q)), some (.int (nI f)), some (.int (nI s)), o4, o5, none, o7, none, o9, oa, none, oc] [] (sK M b (nmw (mK M b) (mL M b) (mL M q) (mK M q) f s 0 0)) := by
    refine up_to 6 _ ?_ (fun s hs ih => ?_)
    · intro o4 o5 o7 o9 oa oc
      refine j_iln dX0_nameSquares_2 rfl rfl ?_
      refine j_biN 6 dX0_nameSquares_3 rfl ?_
      refine j_icgeN (tgt := 128) dX0_nameSquares_5 (by decide) (by omega) (by omega) (fun h5 => ?_) (fun h5 => ?_)
      · refine j_sim nmw_6 ?_
        exact j_vret dX0_nameSquares_128 rfl (Nat.le_of_ble_eq_true rfl) (Nat.le_of_ble_eq_true rfl) ⟨rfl, rfl⟩
      · exact absurd (Nat.le_refl 6) h5
    · intro o4 o5 o7 o9 oa oc
      have KZ : ∀ z, z ≤ 8 → ∀ (o5 o7 o9 oa oc : Option Value), Jd l E RX0 cX0_nameSquares 13 none [] (rmm 3 0 0) (QfN E (dn (sK M b (nmq (mL M b) (mL M q) (mK M q) f))) 0 0) 0 0 11 [some (.ref (eA E 6 b)), some (.ref (eA E 6 q)), some (.int (nI f)), some (.int (nI s)), some (.int (nI z)), o5, none, o7, none, o9, oa, none, oc] [] (sK M b (nmw (mK M b) (mL M b) (mL M q) (mK M q) f s z 0)) := by
        refine up_to 8 _ ?_ (fun z hz ihz => ?_)
        · intro o5 o7 o9 oa oc
          refine j_il dX0_nameSquares_11 rfl ?_
          refine j_biN 8 dX0_nameSquares_13 rfl ?_
          refine j_icgeN (tgt := 122) dX0_nameSquares_15 (by decide) (by omega) (by omega) (fun h15 => ?_) (fun h15 => ?_)
          · refine j_incN_3 1 dX0_nameSquares_122 rfl (by decide) rfl ?_
            refine j_goto (tgt := 2) dX0_nameSquares_125 (by decide) ?_
            rw [nmw_s]
            exact ih _ _ _ _ _ _
          · exact absurd (Nat.le_refl 8) h15
        · intro o5 o7 o9 oa oc
          have KK : ∀ k, k ≤ 6 → ∀ (oa oc : Option Value), Jd l E RX0 cX0_nameSquares 13 none [] (rmm 3 0 0) (QfN E (dn (sK M b (nmq (mL M b) (mL M q) (mK M q) f))) 0 0) 0 0 45 [some (.ref (eA E 6 b)), some (.ref (eA E 6 q)), some (.int (nI f)), some (.int (nI s)), some (.int (nI z)), some (.long (sqa (mL M q) s z)), none, some (.long (sqa (mL M b) s z)), none, some (.int (nI k)), oa, none, oc] [] (sK M b (nmw (mK M b) (mL M b) (mL M q) (mK M q) f s z k)) := by
            refine up_to 6 _ ?_ (fun k hk ihk => ?_)
            · intro oa oc
              refine j_il dX0_nameSquares_45 rfl ?_
              refine j_biN 6 dX0_nameSquares_47 rfl ?_
              refine j_icgeN (tgt := 116) dX0_nameSquares_49 (by decide) (by omega) (by omega) (fun h49 => ?_) (fun h49 => ?_)
              · refine j_incN_4 1 dX0_nameSquares_116 rfl (by decide) rfl ?_
                refine j_goto (tgt := 11) dX0_nameSquares_119 (by decide) ?_
                rw [nmw_z]
                exact ihz _ _ _ _ _
              · exact absurd (Nat.le_refl 6) h49
            · intro oa oc
              refine j_il dX0_nameSquares_45 rfl ?_
              refine j_biN 6 dX0_nameSquares_47 rfl ?_
              refine j_icgeN (tgt := 116) dX0_nameSquares_49 (by decide) (by omega) (by omega) (fun h49 => ?_) (fun h49 => ?_)
              · exact absurd h49 (by omega)
              · refine j_iln dX0_nameSquares_52 rfl rfl ?_
                refine j_il dX0_nameSquares_53 rfl ?_
                refine j_ishr dX0_nameSquares_55 ?_
                refine j_icN 1 dX0_nameSquares_56 rfl ?_
                refine j_iand dX0_nameSquares_57 ?_
                refine j_icN 1 dX0_nameSquares_58 rfl ?_
                refine j_icne (tgt := 74) dX0_nameSquares_59 (by decide) (fun h59 => ?_) (fun h59 => ?_)
                · refine j_lc (v := 0) dX0_nameSquares_74 (by decide) ?_
                  refine j_lst_10 dX0_nameSquares_75 (by decide) rfl ?_
                  refine j_iln dX0_nameSquares_77 rfl rfl ?_
                  refine j_il dX0_nameSquares_78 rfl ?_
                  refine j_il dX0_nameSquares_80 rfl ?_
                  refine j_S3d mf_X0_indexOf ml_X0_41 dX0_nameSquares_82 (Nat.le_of_ble_eq_true rfl) (Nat.le_of_ble_eq_true rfl) (Nat.le_of_ble_eq_true rfl) ⟨(Nat.le_of_ble_eq_true rfl), (Nat.le_of_ble_eq_true rfl)⟩ c_X0_indexOf ?_
                  refine j_ist_12 dX0_nameSquares_85 (by decide) rfl ?_
                  refine j_aln dX0_nameSquares_87 rfl rfl ?_
                  refine g_X0_1 dX0_nameSquares_88 fl_X0_18 (by first | assumption | decide | (simp only [nv] at *; omega)) ?_
                  refine j_il dX0_nameSquares_91 rfl ?_
                  refine j_aln dX0_nameSquares_93 rfl rfl ?_
                  refine g_X0_1 dX0_nameSquares_94 fl_X0_18 (by first | assumption | decide | (simp only [nv] at *; omega)) ?_
                  refine j_il dX0_nameSquares_97 rfl ?_
                  refine j_aldKN dX0_nameSquares_99 (by first | assumption | decide | (simp only [nv] at *; omega)) (by omega) ?_
                  refine j_ll dX0_nameSquares_100 rfl ?_
                  refine j_land dX0_nameSquares_102 ?_
                  refine j_ll dX0_nameSquares_103 rfl ?_
                  refine j_land dX0_nameSquares_105 ?_
                  refine j_ll dX0_nameSquares_106 rfl ?_
                  refine j_lor dX0_nameSquares_108 ?_
                  refine j_astKN dX0_nameSquares_109 (by first | assumption | decide | (simp only [nv] at *; omega)) (by omega) ?_
                  refine j_incN_9 1 dX0_nameSquares_110 rfl (by decide) rfl ?_
                  refine j_goto (tgt := 45) dX0_nameSquares_113 (by decide) ?_
                  refine j_mem ?_ (ihk _ _)
                  rw [sK_sK, mK_sK, if_pos rfl, nmw_k hs hz hk]
                  rw [nmq_at hs hz hk, mK_sK, if_neg hne]
                  first | rw [if_pos (by first | exact h59 | exact (tb40 f hf _ hk).mp h59)] | rw [if_neg (fun g9 => h59 ((tb40 f hf _ hk).mpr g9))]
                · refine j_ll dX0_nameSquares_62 rfl ?_
                  refine j_ll dX0_nameSquares_64 rfl ?_
                  refine j_ldc2 dX0_nameSquares_66 cn_X0_39 ?_
                  refine j_lxor dX0_nameSquares_69 ?_
                  refine j_land dX0_nameSquares_70 ?_
                  refine j_goto (tgt := 75) dX0_nameSquares_71 (by decide) ?_
                  refine j_lst_10 dX0_nameSquares_75 (by decide) rfl ?_
                  refine j_iln dX0_nameSquares_77 rfl rfl ?_
                  refine j_il dX0_nameSquares_78 rfl ?_
                  refine j_il dX0_nameSquares_80 rfl ?_
                  refine j_S3d mf_X0_indexOf ml_X0_41 dX0_nameSquares_82 (Nat.le_of_ble_eq_true rfl) (Nat.le_of_ble_eq_true rfl) (Nat.le_of_ble_eq_true rfl) ⟨(Nat.le_of_ble_eq_true rfl), (Nat.le_of_ble_eq_true rfl)⟩ c_X0_indexOf ?_
                  refine j_ist_12 dX0_nameSquares_85 (by decide) rfl ?_
                  refine j_aln dX0_nameSquares_87 rfl rfl ?_
                  refine g_X0_1 dX0_nameSquares_88 fl_X0_18 (by first | assumption | decide | (simp only [nv] at *; omega)) ?_
                  refine j_il dX0_nameSquares_91 rfl ?_
                  refine j_aln dX0_nameSquares_93 rfl rfl ?_
                  refine g_X0_1 dX0_nameSquares_94 fl_X0_18 (by first | assumption | decide | (simp only [nv] at *; omega)) ?_
                  refine j_il dX0_nameSquares_97 rfl ?_
                  refine j_aldKN dX0_nameSquares_99 (by first | assumption | decide | (simp only [nv] at *; omega)) (by omega) ?_
                  refine j_ll dX0_nameSquares_100 rfl ?_
                  refine j_land dX0_nameSquares_102 ?_
                  refine j_ll dX0_nameSquares_103 rfl ?_
                  refine j_land dX0_nameSquares_105 ?_
                  refine j_ll dX0_nameSquares_106 rfl ?_
                  refine j_lor dX0_nameSquares_108 ?_
                  refine j_astKN dX0_nameSquares_109 (by first | assumption | decide | (simp only [nv] at *; omega)) (by omega) ?_
                  refine j_incN_9 1 dX0_nameSquares_110 rfl (by decide) rfl ?_
                  refine j_goto (tgt := 45) dX0_nameSquares_113 (by decide) ?_
                  refine j_mem ?_ (ihk _ _)
                  rw [sK_sK, mK_sK, if_pos rfl, nmw_k hs hz hk]
                  rw [nmq_at hs hz hk, mK_sK, if_neg hne]
                  first | rw [if_pos (by first | exact h59 | exact (tb40 f hf _ hk).mp h59)] | rw [if_neg (fun g9 => h59 ((tb40 f hf _ hk).mpr g9))]
          refine j_il dX0_nameSquares_11 rfl ?_
          refine j_biN 8 dX0_nameSquares_13 rfl ?_
          refine j_icgeN (tgt := 122) dX0_nameSquares_15 (by decide) (by omega) (by omega) (fun h15 => ?_) (fun h15 => ?_)
          · exact absurd h15 (by omega)
          · refine j_aln dX0_nameSquares_18 rfl rfl ?_
            refine g_X0_0 dX0_nameSquares_19 fl_X0_12 (by first | assumption | decide | (simp only [nv] at *; omega)) ?_
            refine j_iln dX0_nameSquares_22 rfl rfl ?_
            refine j_il dX0_nameSquares_23 rfl ?_
            refine j_V2d mf_X1_squaresAt ml_X0_35 dX0_nameSquares_25 (Nat.le_of_ble_eq_true rfl) (Nat.le_of_ble_eq_true rfl) (Nat.le_of_ble_eq_true rfl) ⟨(Nat.le_of_ble_eq_true rfl), (Nat.le_of_ble_eq_true rfl)⟩ (Nat.lt_of_lt_of_le hq (by decide)) rfl rfl (c_X1_squaresAt (Nat.lt_of_lt_of_le hq (by decide)) hs hz) ?_
            refine j_lst_5 dX0_nameSquares_28 (by decide) rfl ?_
            refine j_aln dX0_nameSquares_30 rfl rfl ?_
            refine g_X0_0 dX0_nameSquares_31 fl_X0_12 (by first | assumption | decide | (simp only [nv] at *; omega)) ?_
            refine j_iln dX0_nameSquares_34 rfl rfl ?_
            refine j_il dX0_nameSquares_35 rfl ?_
            refine j_V2d mf_X1_squaresAt ml_X0_35 dX0_nameSquares_37 (Nat.le_of_ble_eq_true rfl) (Nat.le_of_ble_eq_true rfl) (Nat.le_of_ble_eq_true rfl) ⟨(Nat.le_of_ble_eq_true rfl), (Nat.le_of_ble_eq_true rfl)⟩ (Nat.lt_of_lt_of_le hb (by decide)) rfl rfl (c_X1_squaresAt (Nat.lt_of_lt_of_le hb (by decide)) hs hz) ?_
            refine j_lst_7 dX0_nameSquares_40 (by decide) rfl ?_
            refine j_icN 0 dX0_nameSquares_42 rfl ?_
            refine j_ist_9 dX0_nameSquares_43 (by decide) rfl ?_
            exact KK 0 (by omega) _ _
      refine j_iln dX0_nameSquares_2 rfl rfl ?_
      refine j_biN 6 dX0_nameSquares_3 rfl ?_
      refine j_icgeN (tgt := 128) dX0_nameSquares_5 (by decide) (by omega) (by omega) (fun h5 => ?_) (fun h5 => ?_)
      · exact absurd h5 (by omega)
      · refine j_icN 0 dX0_nameSquares_8 rfl ?_
        refine j_ist_4 dX0_nameSquares_9 (by decide) rfl ?_
        exact KZ 0 (by omega) _ _ _ _ _
  refine j_icN 0 dX0_nameSquares_0 rfl ?_
  refine j_ist_3 dX0_nameSquares_1 (by decide) rfl ?_
  have K0 := KS 0 (by omega) none none none none none none
  rw [nmw_0, sK_id] at K0
  exact K0
