/-! the class Body, second: squares of a name, makers; Measures; Views -/
def chk (c k : Nat → Int64) (f s z : Nat) : Nat → Int64
  | 0 => sqa c s z
  | j + 1 => chk c k f s z j &&& (if f.testBit j = true then k ((s * 6 + j) * 8 + z) else k ((s * 6 + j) * 8 + z) ^^^ -1)
set_option maxRecDepth 100000 in
set_option maxHeartbeats 4000000 in
theorem c_X0_choose {l : Launch} {E : Ev} {M : Mm} {b c f s : Nat} (hb : b < nv 6) (hc : c < nv 7) (hne : ¬ b = c) (hf : f < 40) (hs : s < 6) : Ct l E yX0_choose cX0_choose 10 none 3 0 0 [.ref (eA E 6 b), .int (nI f), .int (nI s), .ref (eA E 7 c)] M (dn (sL M c (fun z => chk (mL M b) (mK M b) f s z 6))) := by
  refine Ct.of (own := RX0) rfl [some (.ref (eA E 6 b)), some (.int (nI f)), some (.int (nI s)), some (.ref (eA E 7 c)), none, none, none, none, none, none] (by decide) (Nat.le_of_ble_eq_true rfl) rfl ?_
  have KZ : ∀ z, z ≤ 8 → ∀ (o5 o7 o8 : Option Value), Jd l E RX0 cX0_choose 10 none [] (rmm 3 0 0) (QfN E (dn (sL M c (fun z => chk (mL M b) (mK M b) f s z 6))) 0 0) 0 0 18 [some (.ref (eA E 6 b)), some (.int (nI f)), some (.int (nI s)), some (.ref (eA E 7 c)), some (.int (nI z)), o5, none, o7, o8, none] [] (sL M c (wsL (fun _ => 0) (fun z => chk (mL M b) (mK M b) f s z 6) z)) := by
    refine up_to 8 _ ?_ (fun z hz ihz => ?_)
    · intro o5 o7 o8
      refine j_il dX0_choose_18 rfl ?_
      refine j_biN 8 dX0_choose_20 rfl ?_
      refine j_icgeN (tgt := 109) dX0_choose_22 (by decide) (by omega) (by omega) (fun h22 => ?_) (fun h22 => ?_)
      · refine j_sim (sim_w _ _ (Nat.le_refl 8)) ?_
        exact j_vret dX0_choose_109 rfl (Nat.le_of_ble_eq_true rfl) (Nat.le_of_ble_eq_true rfl) ⟨rfl, rfl⟩
      · exact absurd (Nat.le_refl 8) h22
    · intro o5 o7 o8
      have KK : ∀ k, k ≤ 6 → ∀ (o8 : Option Value), Jd l E RX0 cX0_choose 10 none [] (rmm 3 0 0) (QfN E (dn (sL M c (fun z => chk (mL M b) (mK M b) f s z 6))) 0 0) 0 0 40 [some (.ref (eA E 6 b)), some (.int (nI f)), some (.int (nI s)), some (.ref (eA E 7 c)), some (.int (nI z)), some (.long (chk (mL M b) (mK M b) f s z k)), none, some (.int (nI k)), o8, none] [] (sL M c (wsL (fun _ => 0) (fun z => chk (mL M b) (mK M b) f s z 6) z)) := by
        refine up_to 6 _ ?_ (fun k hk ihk => ?_)
        · intro o8
          refine j_il dX0_choose_40 rfl ?_
          refine j_biN 6 dX0_choose_42 rfl ?_
          refine j_icgeN (tgt := 94) dX0_choose_44 (by decide) (by omega) (by omega) (fun h44 => ?_) (fun h44 => ?_)
          · refine j_aln dX0_choose_94 rfl rfl ?_
            refine g_X1_0 dX0_choose_95 fl_X0_45 (by first | assumption | decide | (simp only [nv] at *; omega)) ?_
            refine j_il dX0_choose_98 rfl ?_
            refine j_ll dX0_choose_100 rfl ?_
            refine j_astLN dX0_choose_102 (by first | assumption | decide | (simp only [nv] at *; omega)) (by omega) ?_
            refine j_incN_4 1 dX0_choose_103 rfl (by decide) rfl ?_
            refine j_goto (tgt := 18) dX0_choose_106 (by decide) ?_
            refine j_mem ?_ (ihz _ _ _)
            rw [sL_sL, mL_sL, if_pos rfl, wsL_s rfl]
          · exact absurd (Nat.le_refl 6) h44
        · intro o8
          refine j_il dX0_choose_40 rfl ?_
          refine j_biN 6 dX0_choose_42 rfl ?_
          refine j_icgeN (tgt := 94) dX0_choose_44 (by decide) (by omega) (by omega) (fun h44 => ?_) (fun h44 => ?_)
          · exact absurd h44 (by omega)
          · refine j_aln dX0_choose_47 rfl rfl ?_
            refine g_X0_1 dX0_choose_48 fl_X0_18 (by first | assumption | decide | (simp only [nv] at *; omega)) ?_
            refine j_iln dX0_choose_51 rfl rfl ?_
            refine j_il dX0_choose_52 rfl ?_
            refine j_il dX0_choose_54 rfl ?_
            refine j_S3d mf_X0_indexOf ml_X0_41 dX0_choose_56 (Nat.le_of_ble_eq_true rfl) (Nat.le_of_ble_eq_true rfl) (Nat.le_of_ble_eq_true rfl) ⟨(Nat.le_of_ble_eq_true rfl), (Nat.le_of_ble_eq_true rfl)⟩ c_X0_indexOf ?_
            refine j_aldKN dX0_choose_59 (by first | assumption | decide | (simp only [nv] at *; omega)) (by omega) ?_
            refine j_lst_8 dX0_choose_60 (by decide) rfl ?_
            refine j_ll dX0_choose_62 rfl ?_
            refine j_iln dX0_choose_64 rfl rfl ?_
            refine j_il dX0_choose_65 rfl ?_
            refine j_ishr dX0_choose_67 ?_
            refine j_icN 1 dX0_choose_68 rfl ?_
            refine j_iand dX0_choose_69 ?_
            refine j_icN 1 dX0_choose_70 rfl ?_
            refine j_icne (tgt := 79) dX0_choose_71 (by decide) (fun h71 => ?_) (fun h71 => ?_)
            · refine j_ll dX0_choose_79 rfl ?_
              refine j_ldc2 dX0_choose_81 cn_X0_39 ?_
              refine j_lxor dX0_choose_84 ?_
              refine j_land dX0_choose_85 ?_
              refine j_lst_5 dX0_choose_86 (by decide) rfl ?_
              refine j_incN_7 1 dX0_choose_88 rfl (by decide) rfl ?_
              refine j_goto (tgt := 40) dX0_choose_91 (by decide) ?_
              refine j_eq ?_ rfl rfl (ihk (some (.long (mK M b ((s * 6 + k) * 8 + z)))))
              simp only [chk]
              first | rw [if_pos (by first | exact h71 | exact (tb40 f hf _ hk).mp h71)] | rw [if_neg (fun g9 => h71 ((tb40 f hf _ hk).mpr g9))]
              rfl
            · refine j_ll dX0_choose_74 rfl ?_
              refine j_goto (tgt := 85) dX0_choose_76 (by decide) ?_
              refine j_land dX0_choose_85 ?_
              refine j_lst_5 dX0_choose_86 (by decide) rfl ?_
              refine j_incN_7 1 dX0_choose_88 rfl (by decide) rfl ?_
              refine j_goto (tgt := 40) dX0_choose_91 (by decide) ?_
              refine j_eq ?_ rfl rfl (ihk (some (.long (mK M b ((s * 6 + k) * 8 + z)))))
              simp only [chk]
              first | rw [if_pos (by first | exact h71 | exact (tb40 f hf _ hk).mp h71)] | rw [if_neg (fun g9 => h71 ((tb40 f hf _ hk).mpr g9))]
              rfl
      refine j_il dX0_choose_18 rfl ?_
      refine j_biN 8 dX0_choose_20 rfl ?_
      refine j_icgeN (tgt := 109) dX0_choose_22 (by decide) (by omega) (by omega) (fun h22 => ?_) (fun h22 => ?_)
      · exact absurd h22 (by omega)
      · refine j_aln dX0_choose_25 rfl rfl ?_
        refine g_X0_0 dX0_choose_26 fl_X0_12 (by first | assumption | decide | (simp only [nv] at *; omega)) ?_
        refine j_iln dX0_choose_29 rfl rfl ?_
        refine j_il dX0_choose_30 rfl ?_
        refine j_V2d mf_X1_squaresAt ml_X0_35 dX0_choose_32 (Nat.le_of_ble_eq_true rfl) (Nat.le_of_ble_eq_true rfl) (Nat.le_of_ble_eq_true rfl) ⟨(Nat.le_of_ble_eq_true rfl), (Nat.le_of_ble_eq_true rfl)⟩ (Nat.lt_of_lt_of_le hb (by decide)) rfl rfl (c_X1_squaresAt (Nat.lt_of_lt_of_le hb (by decide)) hs hz) ?_
        rw [show mL (sL M c (wsL (fun _ => 0) (fun z => chk (mL M b) (mK M b) f s z 6) z)) b = mL M b from by rw [mL_sL, if_neg hne]]
        refine j_lst_5 dX0_choose_35 (by decide) rfl ?_
        refine j_icN 0 dX0_choose_37 rfl ?_
        refine j_ist_7 dX0_choose_38 (by decide) rfl ?_
        exact KK 0 (by omega) _
  refine j_aln dX0_choose_0 rfl rfl ?_
  refine j_V0n mf_X1_clear ml_X0_22 dX0_choose_1 (Nat.le_of_ble_eq_true rfl) (Nat.le_of_ble_eq_true rfl) (Nat.le_of_ble_eq_true rfl) ⟨(Nat.le_of_ble_eq_true rfl), (Nat.le_of_ble_eq_true rfl)⟩ hc rfl rfl (c_X1_clear hc) ?_
  refine j_iln dX0_choose_4 rfl rfl ?_
  refine j_ifltN (tgt := 14) dX0_choose_5 (by decide) (by omega) ?_
  refine j_iln dX0_choose_8 rfl rfl ?_
  refine j_biN 40 dX0_choose_9 rfl ?_
  refine j_icltN (tgt := 15) dX0_choose_11 (by decide) (by omega) (by omega) (fun h11 => ?_) (fun h11 => ?_)
  · refine j_icN 0 dX0_choose_15 rfl ?_
    refine j_ist_4 dX0_choose_16 (by decide) rfl ?_
    have K0 := KZ 0 (by omega) none none none
    rw [wsL_0] at K0
    exact K0
  · exact absurd hf h11
set_option maxRecDepth 100000 in
set_option maxHeartbeats 4000000 in
theorem c_X0_chooseO {l : Launch} {E : Ev} {M : Mm} {b c : Nat} {x y : Int32} (hc : c < nv 7) (hx : x < 0 ∨ nI 40 ≤ x) : Ct l E yX0_choose cX0_choose 10 none 3 0 0 [.ref (eA E 6 b), .int x, .int y, .ref (eA E 7 c)] M (dn (sL M c (fun _ => 0))) := by
  refine Ct.of (own := RX0) rfl [some (.ref (eA E 6 b)), some (.int x), some (.int y), some (.ref (eA E 7 c)), none, none, none, none, none, none] (by decide) (Nat.le_of_ble_eq_true rfl) rfl ?_
  refine j_aln dX0_choose_0 rfl rfl ?_
  refine j_V0n mf_X1_clear ml_X0_22 dX0_choose_1 (Nat.le_of_ble_eq_true rfl) (Nat.le_of_ble_eq_true rfl) (Nat.le_of_ble_eq_true rfl) ⟨(Nat.le_of_ble_eq_true rfl), (Nat.le_of_ble_eq_true rfl)⟩ hc rfl rfl (c_X1_clear hc) ?_
  refine j_iln dX0_choose_4 rfl rfl ?_
  refine j_iflt (tgt := 14) dX0_choose_5 (by decide) (fun h5 => ?_) (fun h5 => ?_)
  · exact j_vret dX0_choose_14 rfl (Nat.le_of_ble_eq_true rfl) (Nat.le_of_ble_eq_true rfl) ⟨rfl, rfl⟩
  · refine j_iln dX0_choose_8 rfl rfl ?_
    refine j_biN 40 dX0_choose_9 rfl ?_
    refine j_iclt (tgt := 15) dX0_choose_11 (by decide) (fun h11 => ?_) (fun h11 => ?_)
    · exact absurd hx (by rintro (g | g); exact h5 g; exact absurd h11 (Int32.not_lt.mpr g))
    · exact j_vret dX0_choose_14 rfl (Nat.le_of_ble_eq_true rfl) (Nat.le_of_ble_eq_true rfl) ⟨rfl, rfl⟩
def mko (k : Nat → Int64) (s z a : Nat) : Nat → Int32
  | 0 => nI 0
  | j + 1 => mko k s z a j ||| ((shr (k ((s * 6 + j) * 8 + z)) a &&& 1).toInt32 <<< (nI j &&& 31))
def mkr (c k : Nat → Int64) (x y z s : Nat) : Int32 := if bw (sqa c s z) (y * 8 + x) = true then mko k s z (y * 8 + x) 6 else -1
theorem bit0 (w : Int64) (k : Nat) : shr w k &&& 1 = 0 ↔ bw w k = false := by
  have key : (shr w k &&& 1).toBitVec = if w.toBitVec.getLsbD k then 1#64 else 0#64 := by
    apply BitVec.eq_of_getLsbD_eq
    intro i hi
    show (w.toBitVec >>> k &&& 1#64).getLsbD i = _
    rw [BitVec.getLsbD_and, BitVec.getLsbD_ushiftRight]
    by_cases h0 : i = 0
    · subst h0
      cases h : w.toBitVec.getLsbD k <;> simp [h]
    · have : (1#64).getLsbD i = false := by
        rw [BitVec.getLsbD_one]; simp [h0]
      rw [this]
      split <;> simp [this]
  constructor
  · intro h
    have h2 : (shr w k &&& 1).toBitVec = 0#64 := by rw [h]; rfl
    rw [key] at h2
    unfold bw
    split at h2
    · exact absurd h2 (by decide)
    · rename_i g; exact Bool.eq_false_iff.mpr g
  · intro h
    have h : w.toBitVec.getLsbD k = false := h
    apply Int64.toBitVec_inj.mp
    rw [key, h]
    rfl
set_option maxRecDepth 100000 in
set_option maxHeartbeats 4000000 in
theorem c_X0_makerOf {l : Launch} {E : Ev} {M : Mm} {b x y z s : Nat} (hb : b < nv 6) (hx : x < 8) (hy : y < 8) (hz : z < 8) (hs : s < 6) : Ct l E yX0_makerOf cX0_makerOf 8 (some .int) 3 0 0 [.ref (eA E 6 b), .int (nI x), .int (nI y), .int (nI z), .int (nI s)] M (dv (.int (mkr (mL M b) (mK M b) x y z s)) M) := by
  refine Ct.of (own := RX0) rfl [some (.ref (eA E 6 b)), some (.int (nI x)), some (.int (nI y)), some (.int (nI z)), some (.int (nI s)), none, none, none] (by decide) (Nat.le_of_ble_eq_true rfl) rfl ?_
  have KK : bw (sqa (mL M b) s z) (y * 8 + x) = true → ∀ k, k ≤ 6 → Jd l E RX0 cX0_makerOf 8 (some .int) [] (rmm 3 0 0) (QfN E (dv (.int (mkr (mL M b) (mK M b) x y z s)) M) 0 0) 0 0 35 [some (.ref (eA E 6 b)), some (.int (nI x)), some (.int (nI y)), some (.int (nI z)), some (.int (nI s)), some (.int (nI (y * 8 + x))), some (.int (mko (mK M b) s z (y * 8 + x) k)), some (.int (nI k))] [] M := by
    intro hbit
    have KK2 : ∀ k, k ≤ 6 → Jd l E RX0 cX0_makerOf 8 (some .int) [] (rmm 3 0 0) (QfN E (dv (.int (mkr (mL M b) (mK M b) x y z s)) M) 0 0) 0 0 35 [some (.ref (eA E 6 b)), some (.int (nI x)), some (.int (nI y)), some (.int (nI z)), some (.int (nI s)), some (.int (nI (y * 8 + x))), some (.int (mko (mK M b) s z (y * 8 + x) k)), some (.int (nI k))] [] M := by
      refine up_to 6 _ ?_ (fun k hk ih => ?_)
      · refine j_il dX0_makerOf_35 rfl ?_
        refine j_biN 6 dX0_makerOf_37 rfl ?_
        refine j_icgeN (tgt := 75) dX0_makerOf_39 (by decide) (by omega) (by omega) (fun h39 => ?_) (fun h39 => ?_)
        · refine j_il dX0_makerOf_75 rfl ?_
          exact j_iret dX0_makerOf_77 rfl rfl (Nat.le_of_ble_eq_true rfl) (Nat.le_of_ble_eq_true rfl) ⟨by unfold mkr; rw [if_pos hbit], rfl⟩
        · exact absurd (Nat.le_refl 6) h39
      · refine j_il dX0_makerOf_35 rfl ?_
        refine j_biN 6 dX0_makerOf_37 rfl ?_
        refine j_icgeN (tgt := 75) dX0_makerOf_39 (by decide) (by omega) (by omega) (fun h39 => ?_) (fun h39 => ?_)
        · exact absurd h39 (by omega)
        · refine j_il dX0_makerOf_42 rfl ?_
          refine j_aln dX0_makerOf_44 rfl rfl ?_
          refine g_X0_1 dX0_makerOf_45 fl_X0_18 (by first | assumption | decide | (simp only [nv] at *; omega)) ?_
          refine j_il dX0_makerOf_48 rfl ?_
          refine j_il dX0_makerOf_50 rfl ?_
          refine j_iln dX0_makerOf_52 rfl rfl ?_
          refine j_S3d mf_X0_indexOf ml_X0_41 dX0_makerOf_53 (Nat.le_of_ble_eq_true rfl) (Nat.le_of_ble_eq_true rfl) (Nat.le_of_ble_eq_true rfl) ⟨(Nat.le_of_ble_eq_true rfl), (Nat.le_of_ble_eq_true rfl)⟩ c_X0_indexOf ?_
          refine j_aldKN dX0_makerOf_56 (by first | assumption | decide | (simp only [nv] at *; omega)) (by omega) ?_
          refine j_il dX0_makerOf_57 rfl ?_
          refine j_lushrN dX0_makerOf_59 (by omega) ?_
          refine j_lc (v := 1) dX0_makerOf_60 (by decide) ?_
          refine j_land dX0_makerOf_61 ?_
          refine j_l2i dX0_makerOf_62 ?_
          refine j_il dX0_makerOf_63 rfl ?_
          refine j_ishl dX0_makerOf_65 ?_
          refine j_ior dX0_makerOf_66 ?_
          refine j_ist_6 dX0_makerOf_67 (by decide) rfl ?_
          refine j_incN_7 1 dX0_makerOf_69 rfl (by decide) rfl ?_
          refine j_goto (tgt := 35) dX0_makerOf_72 (by decide) ?_
          exact ih
    exact KK2
  refine j_iln dX0_makerOf_0 rfl rfl ?_
  refine j_iln dX0_makerOf_1 rfl rfl ?_
  refine j_S2d mf_X1_bitOf ml_X0_48 dX0_makerOf_2 (Nat.le_of_ble_eq_true rfl) (Nat.le_of_ble_eq_true rfl) (Nat.le_of_ble_eq_true rfl) ⟨(Nat.le_of_ble_eq_true rfl), (Nat.le_of_ble_eq_true rfl)⟩ c_X1_bitOfN ?_
  refine j_ist_5 dX0_makerOf_5 (by decide) rfl ?_
  refine j_aln dX0_makerOf_7 rfl rfl ?_
  refine g_X0_0 dX0_makerOf_8 fl_X0_12 (by first | assumption | decide | (simp only [nv] at *; omega)) ?_
  refine j_il dX0_makerOf_11 rfl ?_
  refine j_iln dX0_makerOf_13 rfl rfl ?_
  refine j_V2d mf_X1_squaresAt ml_X0_35 dX0_makerOf_14 (Nat.le_of_ble_eq_true rfl) (Nat.le_of_ble_eq_true rfl) (Nat.le_of_ble_eq_true rfl) ⟨(Nat.le_of_ble_eq_true rfl), (Nat.le_of_ble_eq_true rfl)⟩ (Nat.lt_of_lt_of_le hb (by decide)) rfl rfl (c_X1_squaresAt (Nat.lt_of_lt_of_le hb (by decide)) hs hz) ?_
  refine j_il dX0_makerOf_17 rfl ?_
  refine j_lushrN dX0_makerOf_19 (by omega) ?_
  refine j_lc (v := 1) dX0_makerOf_20 (by decide) ?_
  refine j_land dX0_makerOf_21 ?_
  refine j_lc (v := 0) dX0_makerOf_22 (by decide) ?_
  refine j_lcmp dX0_makerOf_23 ?_
  refine j_ifne (tgt := 29) dX0_makerOf_24 (by decide) (fun h24 => ?_) (fun h24 => ?_)
  · have hbit : bw (sqa (mL M b) s z) (y * 8 + x) = true := by
      cases e : bw (sqa (mL M b) s z) (y * 8 + x)
      · exact absurd (lg_eq.mpr ((bit0 _ _).mpr e)) h24
      · rfl
    refine j_icN 0 dX0_makerOf_29 rfl ?_
    refine j_ist_6 dX0_makerOf_30 (by decide) rfl ?_
    refine j_icN 0 dX0_makerOf_32 rfl ?_
    refine j_ist_7 dX0_makerOf_33 (by decide) rfl ?_
    exact KK hbit 0 (by omega)
  · have hbit : bw (sqa (mL M b) s z) (y * 8 + x) = false := (bit0 _ _).mp (lg_eq.mp h24)
    refine j_ic (v := (-1)) dX0_makerOf_27 (by decide) ?_
    exact j_iret dX0_makerOf_28 rfl rfl (Nat.le_of_ble_eq_true rfl) (Nat.le_of_ble_eq_true rfl) ⟨by unfold mkr; rw [if_neg (by rw [hbit]; decide)], rfl⟩
