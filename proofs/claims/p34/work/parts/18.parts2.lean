/-! Parts: mates and what is shared -/
theorem nn_lt {x : Int32} {n : Nat} (hn : n < 2 ^ 31) (h0 : ¬ x < 0) (h1 : ¬ nI n ≤ x) : ∃ w, w < n ∧ x = nI w := by
  have e0 : 0 ≤ x.toInt := by
    have := Int32.not_lt.mp h0
    rw [Int32.le_iff_toInt_le] at this
    exact this
  have e1 : x.toInt < n := by
    have := Int32.not_le.mp h1
    rw [Int32.lt_iff_toInt_lt, nI_toInt hn] at this
    exact this
  exact ⟨x.toInt.toNat, by omega, Int32.toInt_inj.mp (by rw [nI_toInt (by omega)]; omega)⟩
theorem isPt_nI {p : Nat} (h : p < 6) : isPt (nI p) := Or.inr ⟨p, h, rfl⟩
def tieG (M : Mm) (mc a : Nat) (x y : Int32) (held : Bool) : Int32 := grp M mc (nI a) (if held = true then y else x)
def tieB (M : Mm) (a : Nat) (x y d : Int32) (held : Bool) : Int32 := if held = true then -(d - apX (mI M 34) a x y) else d - apX (mI M 34) a x y
def tieM (M : Mm) (cnt mc a : Nat) (x y d : Int32) (held : Bool) : Mm :=
  sI (sI (sI (sI (sI (sI M 34 (slM (mI M 34) a (tieG M mc a x y held) (tieB M a x y d held) cnt)) 35 (upd (mI M 35) mc (nI a))) 36 (upd (mI M 36) mc x)) 37 (upd (mI M 37) mc y)) 38 (upd (mI M 38) mc d)) 5 (upd (mI M 5) 3 (nI (mc + 1)))
def fitX (M : Mm) (mc : Nat) : Bool := (List.range mc).all (fun k => decide (apX (mI M 34) (ntX (mI M 35 k)) (mI M 36 k) (mI M 37 k) = mI M 38 k))
theorem fit_t {M : Mm} {mc : Nat} (h : ∀ k, k < mc → apX (mI M 34) (ntX (mI M 35 k)) (mI M 36 k) (mI M 37 k) = mI M 38 k) : fitX M mc = true :=
  List.all_eq_true.mpr fun k hk => decide_eq_true (h k (List.mem_range.mp hk))
theorem fit_f {M : Mm} {mc k : Nat} (hk : k < mc) (h : ¬ apX (mI M 34) (ntX (mI M 35 k)) (mI M 36 k) (mI M 37 k) = mI M 38 k) : fitX M mc = false := by
  cases e : fitX M mc
  · rfl
  · exact absurd (of_decide_eq_true (List.all_eq_true.mp e k (List.mem_range.mpr hk))) h
def csK (A B : Nat → Int64) (x y z : Int32) : Nat → Int32
  | 0 => nI 0
  | k + 1 => if ¬ nI k + z < 0 ∧ ¬ nI 8 ≤ nI k + z then csK A B x y z k + bcl (sldw (A k) x y &&& B (ntX (nI k + z))) else csK A B x y z k
theorem csK_0 (A B : Nat → Int64) (x y z : Int32) : csK A B x y z 0 = nI 0 := by rw [csK]
theorem csK_s (A B : Nat → Int64) (x y z : Int32) (k : Nat) : csK A B x y z (k + 1) = if ¬ nI k + z < 0 ∧ ¬ nI 8 ≤ nI k + z then csK A B x y z k + bcl (sldw (A k) x y &&& B (ntX (nI k + z))) else csK A B x y z k := by rw [csK]
def csX (A B : Nat → Int64) (x y z : Int32) : Int32 := csK A B x y z 8
set_option maxRecDepth 100000 in
set_option maxHeartbeats 4000000 in
theorem c_X6_tie {l : Launch} {E : Ev} {M : Mm} {cnt mc a : Nat} {x y d : Int32} {held : Bool} (hc : mI M 5 2 = nI cnt) (hc6 : cnt ≤ 6) (hmc : mI M 5 3 = nI mc) (hmc12 : mc ≤ 12) (hm1 : mc < 12) (ha : a < 3) (hx : isPt x) (hy : isPt y) (hh : tdX M mc (nI a) x (-1) = held) : Ct l E yX6_tie cX6_tie 9 (some .int) 4 0 0 [.ref (eA E 5 0), .int (nI a), .int x, .int y, .int d] M (dv (.int (nI (if tieB M a x y d held = 0 then 0 else slN (tieG M mc a x y held) cnt))) (tieM M cnt mc a x y d held)) := by
  refine Ct.of (own := RX6) rfl [some (.ref (eA E 5 0)), some (.int (nI a)), some (.int x), some (.int y), some (.int d), none, none, none, none] (by decide) (Nat.le_of_ble_eq_true rfl) rfl ?_
  refine j_il dX6_tie_0 rfl ?_
  refine j_aln dX6_tie_2 rfl rfl ?_
  refine j_iln dX6_tie_3 rfl rfl ?_
  refine j_iln dX6_tie_4 rfl rfl ?_
  refine j_iln dX6_tie_5 rfl rfl ?_
  refine j_V3d mf_X6_apart ml_X6_56 dX6_tie_6 (Nat.le_of_ble_eq_true rfl) (Nat.le_of_ble_eq_true rfl) (Nat.le_of_ble_eq_true rfl) ⟨(Nat.le_of_ble_eq_true rfl), (Nat.le_of_ble_eq_true rfl)⟩ (by first | assumption | decide | (simp only [nv] at *; omega)) rfl rfl (c_X6_apart ha hx hy) ?_
  refine j_isub dX6_tie_9 ?_
  refine j_ist_5 dX6_tie_10 (by decide) rfl ?_
  refine j_aln dX6_tie_12 rfl rfl ?_
  refine j_iln dX6_tie_13 rfl rfl ?_
  refine j_iln dX6_tie_14 rfl rfl ?_
  refine j_ic (v := (-1)) dX6_tie_15 (by decide) ?_
  refine j_V3d mf_X6_areTied ml_X6_60 dX6_tie_16 (Nat.le_of_ble_eq_true rfl) (Nat.le_of_ble_eq_true rfl) (Nat.le_of_ble_eq_true rfl) ⟨(Nat.le_of_ble_eq_true rfl), (Nat.le_of_ble_eq_true rfl)⟩ (by first | assumption | decide | (simp only [nv] at *; omega)) rfl rfl (c_X6_areTied hmc hmc12) ?_
  rw [hh]
  cases held
  · skip
    refine j_ist_6 dX6_tie_19 (by decide) rfl ?_
    refine j_aln dX6_tie_21 rfl rfl ?_
    refine j_iln dX6_tie_22 rfl rfl ?_
    refine j_il dX6_tie_23 rfl ?_
    refine j_ifeq (tgt := 32) dX6_tie_25 (by decide) (fun h25 => ?_) (fun h25 => ?_)
    · refine j_iln dX6_tie_32 rfl rfl ?_
      refine j_V2d mf_X6_groupOf ml_X6_53 dX6_tie_33 (Nat.le_of_ble_eq_true rfl) (Nat.le_of_ble_eq_true rfl) (Nat.le_of_ble_eq_true rfl) ⟨(Nat.le_of_ble_eq_true rfl), (Nat.le_of_ble_eq_true rfl)⟩ (by first | assumption | decide | (simp only [nv] at *; omega)) rfl rfl (c_X6_groupOf hmc hmc12) ?_
      refine j_ist_7 dX6_tie_36 (by decide) rfl ?_
      refine j_aln dX6_tie_38 rfl rfl ?_
      refine j_iln dX6_tie_39 rfl rfl ?_
      refine j_il dX6_tie_40 rfl ?_
      refine j_il dX6_tie_42 rfl ?_
      refine j_ifeq (tgt := 53) dX6_tie_44 (by decide) (fun h44 => ?_) (fun h44 => ?_)
      · refine j_il dX6_tie_53 rfl ?_
        refine j_V3d mf_X6_slideGroup ml_X6_64 dX6_tie_55 (Nat.le_of_ble_eq_true rfl) (Nat.le_of_ble_eq_true rfl) (Nat.le_of_ble_eq_true rfl) ⟨(Nat.le_of_ble_eq_true rfl), (Nat.le_of_ble_eq_true rfl)⟩ (by first | assumption | decide | (simp only [nv] at *; omega)) rfl rfl (c_X6_slideGroup hc hc6 ha) ?_
        refine j_ist_8 dX6_tie_58 (by decide) rfl ?_
        refine j_aln dX6_tie_60 rfl rfl ?_
        refine g_X6_5 dX6_tie_61 fl_X6_25 ?_
        refine j_aln dX6_tie_64 rfl rfl ?_
        refine g_X6_3 dX6_tie_65 fl_X6_50 ?_
        refine j_topi hmc ?_
        refine j_iln dX6_tie_68 rfl rfl ?_
        refine j_aistN dX6_tie_69 rfl (fun _ => rfl) rfl (by decide) (by omega) ?_
        refine j_aln dX6_tie_70 rfl rfl ?_
        refine g_X6_6 dX6_tie_71 fl_X6_28 ?_
        refine j_aln dX6_tie_74 rfl rfl ?_
        refine g_X6_3 dX6_tie_75 fl_X6_50 ?_
        refine j_topi hmc ?_
        refine j_iln dX6_tie_78 rfl rfl ?_
        refine j_aistN dX6_tie_79 rfl (fun _ => rfl) rfl (by decide) (by omega) ?_
        refine j_aln dX6_tie_80 rfl rfl ?_
        refine g_X6_7 dX6_tie_81 fl_X6_31 ?_
        refine j_aln dX6_tie_84 rfl rfl ?_
        refine g_X6_3 dX6_tie_85 fl_X6_50 ?_
        refine j_topi hmc ?_
        refine j_iln dX6_tie_88 rfl rfl ?_
        refine j_aistN dX6_tie_89 rfl (fun _ => rfl) rfl (by decide) (by omega) ?_
        refine j_aln dX6_tie_90 rfl rfl ?_
        refine g_X6_8 dX6_tie_91 fl_X6_34 ?_
        refine j_aln dX6_tie_94 rfl rfl ?_
        refine g_X6_3 dX6_tie_95 fl_X6_50 ?_
        refine j_topi hmc ?_
        refine j_il dX6_tie_98 rfl ?_
        refine j_aistN dX6_tie_100 rfl (fun _ => rfl) rfl (by decide) (by omega) ?_
        refine j_aln dX6_tie_101 rfl rfl ?_
        refine j_dup dX6_tie_102 rfl ?_
        refine g_X6_3 dX6_tie_103 fl_X6_50 ?_
        refine j_topi hmc ?_
        refine j_icN 1 dX6_tie_106 rfl ?_
        refine j_iaddN dX6_tie_107 ?_
        refine p_X6_3 dX6_tie_108 fl_X6_50 ?_
        refine j_il dX6_tie_111 rfl ?_
        exact j_iret dX6_tie_113 rfl rfl (Nat.le_of_ble_eq_true rfl) (Nat.le_of_ble_eq_true rfl) ⟨rfl, rfl⟩
      · exact absurd (show bI false = 0 from rfl) h44
    · exact absurd (show bI false = 0 from rfl) h25
  · skip
    refine j_ist_6 dX6_tie_19 (by decide) rfl ?_
    refine j_aln dX6_tie_21 rfl rfl ?_
    refine j_iln dX6_tie_22 rfl rfl ?_
    refine j_il dX6_tie_23 rfl ?_
    refine j_ifeq (tgt := 32) dX6_tie_25 (by decide) (fun h25 => ?_) (fun h25 => ?_)
    · exact absurd h25 (by decide)
    · refine j_iln dX6_tie_28 rfl rfl ?_
      refine j_goto (tgt := 33) dX6_tie_29 (by decide) ?_
      refine j_V2d mf_X6_groupOf ml_X6_53 dX6_tie_33 (Nat.le_of_ble_eq_true rfl) (Nat.le_of_ble_eq_true rfl) (Nat.le_of_ble_eq_true rfl) ⟨(Nat.le_of_ble_eq_true rfl), (Nat.le_of_ble_eq_true rfl)⟩ (by first | assumption | decide | (simp only [nv] at *; omega)) rfl rfl (c_X6_groupOf hmc hmc12) ?_
      refine j_ist_7 dX6_tie_36 (by decide) rfl ?_
      refine j_aln dX6_tie_38 rfl rfl ?_
      refine j_iln dX6_tie_39 rfl rfl ?_
      refine j_il dX6_tie_40 rfl ?_
      refine j_il dX6_tie_42 rfl ?_
      refine j_ifeq (tgt := 53) dX6_tie_44 (by decide) (fun h44 => ?_) (fun h44 => ?_)
      · exact absurd h44 (by decide)
      · refine j_il dX6_tie_47 rfl ?_
        refine j_ineg dX6_tie_49 ?_
        refine j_goto (tgt := 55) dX6_tie_50 (by decide) ?_
        refine j_V3d mf_X6_slideGroup ml_X6_64 dX6_tie_55 (Nat.le_of_ble_eq_true rfl) (Nat.le_of_ble_eq_true rfl) (Nat.le_of_ble_eq_true rfl) ⟨(Nat.le_of_ble_eq_true rfl), (Nat.le_of_ble_eq_true rfl)⟩ (by first | assumption | decide | (simp only [nv] at *; omega)) rfl rfl (c_X6_slideGroup hc hc6 ha) ?_
        refine j_ist_8 dX6_tie_58 (by decide) rfl ?_
        refine j_aln dX6_tie_60 rfl rfl ?_
        refine g_X6_5 dX6_tie_61 fl_X6_25 ?_
        refine j_aln dX6_tie_64 rfl rfl ?_
        refine g_X6_3 dX6_tie_65 fl_X6_50 ?_
        refine j_topi hmc ?_
        refine j_iln dX6_tie_68 rfl rfl ?_
        refine j_aistN dX6_tie_69 rfl (fun _ => rfl) rfl (by decide) (by omega) ?_
        refine j_aln dX6_tie_70 rfl rfl ?_
        refine g_X6_6 dX6_tie_71 fl_X6_28 ?_
        refine j_aln dX6_tie_74 rfl rfl ?_
        refine g_X6_3 dX6_tie_75 fl_X6_50 ?_
        refine j_topi hmc ?_
        refine j_iln dX6_tie_78 rfl rfl ?_
        refine j_aistN dX6_tie_79 rfl (fun _ => rfl) rfl (by decide) (by omega) ?_
        refine j_aln dX6_tie_80 rfl rfl ?_
        refine g_X6_7 dX6_tie_81 fl_X6_31 ?_
        refine j_aln dX6_tie_84 rfl rfl ?_
        refine g_X6_3 dX6_tie_85 fl_X6_50 ?_
        refine j_topi hmc ?_
        refine j_iln dX6_tie_88 rfl rfl ?_
        refine j_aistN dX6_tie_89 rfl (fun _ => rfl) rfl (by decide) (by omega) ?_
        refine j_aln dX6_tie_90 rfl rfl ?_
        refine g_X6_8 dX6_tie_91 fl_X6_34 ?_
        refine j_aln dX6_tie_94 rfl rfl ?_
        refine g_X6_3 dX6_tie_95 fl_X6_50 ?_
        refine j_topi hmc ?_
        refine j_il dX6_tie_98 rfl ?_
        refine j_aistN dX6_tie_100 rfl (fun _ => rfl) rfl (by decide) (by omega) ?_
        refine j_aln dX6_tie_101 rfl rfl ?_
        refine j_dup dX6_tie_102 rfl ?_
        refine g_X6_3 dX6_tie_103 fl_X6_50 ?_
        refine j_topi hmc ?_
        refine j_icN 1 dX6_tie_106 rfl ?_
        refine j_iaddN dX6_tie_107 ?_
        refine p_X6_3 dX6_tie_108 fl_X6_50 ?_
        refine j_il dX6_tie_111 rfl ?_
        exact j_iret dX6_tie_113 rfl rfl (Nat.le_of_ble_eq_true rfl) (Nat.le_of_ble_eq_true rfl) ⟨rfl, rfl⟩
set_option maxRecDepth 100000 in
set_option maxHeartbeats 4000000 in
theorem c_X6_doMatesFit {l : Launch} {E : Ev} {M : Mm} {mc : Nat} (hmc : mI M 5 3 = nI mc) (hmc12 : mc ≤ 12) (hm : ∀ k, k < mc → (∃ a, a < 3 ∧ mI M 35 k = nI a) ∧ isPt (mI M 36 k) ∧ isPt (mI M 37 k)) : Ct l E yX6_doMatesFit cX6_doMatesFit 3 (some .boolean) 3 0 0 [.ref (eA E 5 0)] M (dv (.int (bI (fitX M mc))) M) := by
  refine Ct.of (own := RX6) rfl [some (.ref (eA E 5 0)), none, none] (by decide) (Nat.le_of_ble_eq_true rfl) rfl ?_
  have K : ∀ k, k ≤ mc → ∀ (o2 : Option Value), (∀ j, j < k → apX (mI M 34) (ntX (mI M 35 j)) (mI M 36 j) (mI M 37 j) = mI M 38 j) → Jd l E RX6 cX6_doMatesFit 3 (some .boolean) [] (rmm 3 0 0) (QfN E (dv (.int (bI (fitX M mc))) M) 0 0) 0 0 2 [some (.ref (eA E 5 0)), some (.int (nI k)), o2] [] M := by
    refine up_to mc _ ?_ (fun k hk ih => ?_)
    · intro o2 hall
      refine j_iln dX6_doMatesFit_2 rfl rfl ?_
      refine j_aln dX6_doMatesFit_3 rfl rfl ?_
      refine g_X6_3 dX6_doMatesFit_4 fl_X6_50 ?_
      refine j_topi hmc ?_
      refine j_icgeN (tgt := 51) dX6_doMatesFit_7 (by decide) (by omega) (by omega) (fun h7 => ?_) (fun h7 => ?_)
      · refine j_icN 1 dX6_doMatesFit_51 rfl ?_
        exact j_iret dX6_doMatesFit_52 rfl (by decide) (Nat.le_of_ble_eq_true rfl) (Nat.le_of_ble_eq_true rfl) ⟨by rw [fit_t hall]; rfl, rfl⟩
      · exact absurd (Nat.le_refl mc) h7
    · intro o2 hall
      refine j_iln dX6_doMatesFit_2 rfl rfl ?_
      refine j_aln dX6_doMatesFit_3 rfl rfl ?_
      refine g_X6_3 dX6_doMatesFit_4 fl_X6_50 ?_
      refine j_topi hmc ?_
      refine j_icgeN (tgt := 51) dX6_doMatesFit_7 (by decide) (by omega) (by omega) (fun h7 => ?_) (fun h7 => ?_)
      · exact absurd h7 (by omega)
      · obtain ⟨⟨a, ha, hA⟩, hP, hO⟩ := hm k hk
        have hae : ntX (mI M 35 k) = a := by rw [hA, ntX_nI (by omega)]
        refine j_aln dX6_doMatesFit_10 rfl rfl ?_
        refine g_X6_5 dX6_doMatesFit_11 fl_X6_25 ?_
        refine j_iln dX6_doMatesFit_14 rfl rfl ?_
        refine j_aildN dX6_doMatesFit_15 rfl rfl rfl (by decide) (by omega) ?_
        refine j_topi hA ?_
        refine j_ist_2 dX6_doMatesFit_16 (by decide) rfl ?_
        refine j_aln dX6_doMatesFit_17 rfl rfl ?_
        refine j_iln dX6_doMatesFit_18 rfl rfl ?_
        refine j_aln dX6_doMatesFit_19 rfl rfl ?_
        refine g_X6_6 dX6_doMatesFit_20 fl_X6_28 ?_
        refine j_iln dX6_doMatesFit_23 rfl rfl ?_
        refine j_aildN dX6_doMatesFit_24 rfl rfl rfl (by decide) (by omega) ?_
        refine j_aln dX6_doMatesFit_25 rfl rfl ?_
        refine g_X6_7 dX6_doMatesFit_26 fl_X6_31 ?_
        refine j_iln dX6_doMatesFit_29 rfl rfl ?_
        refine j_aildN dX6_doMatesFit_30 rfl rfl rfl (by decide) (by omega) ?_
        refine j_V3d mf_X6_apart ml_X6_56 dX6_doMatesFit_31 (Nat.le_of_ble_eq_true rfl) (Nat.le_of_ble_eq_true rfl) (Nat.le_of_ble_eq_true rfl) ⟨(Nat.le_of_ble_eq_true rfl), (Nat.le_of_ble_eq_true rfl)⟩ (by first | assumption | decide | (simp only [nv] at *; omega)) rfl rfl (c_X6_apart ha hP hO) ?_
        refine j_aln dX6_doMatesFit_34 rfl rfl ?_
        refine g_X6_8 dX6_doMatesFit_35 fl_X6_34 ?_
        refine j_iln dX6_doMatesFit_38 rfl rfl ?_
        refine j_aildN dX6_doMatesFit_39 rfl rfl rfl (by decide) (by omega) ?_
        refine j_iceq (tgt := 45) dX6_doMatesFit_40 (by decide) (fun h40 => ?_) (fun h40 => ?_)
        · refine j_incN_1 1 dX6_doMatesFit_45 rfl (by decide) rfl ?_
          refine j_goto (tgt := 2) dX6_doMatesFit_48 (by decide) ?_
          exact ih _ (fun j hj => by
            rcases Nat.lt_or_ge j k with h | h
            · exact hall j h
            · rw [show j = k by omega, hae]; exact h40)
        · refine j_icN 0 dX6_doMatesFit_43 rfl ?_
          exact j_iret dX6_doMatesFit_44 rfl (by decide) (Nat.le_of_ble_eq_true rfl) (Nat.le_of_ble_eq_true rfl) ⟨by rw [fit_f hk (by rw [hae]; exact h40)]; rfl, rfl⟩
  refine j_icN 0 dX6_doMatesFit_0 rfl ?_
  refine j_ist_1 dX6_doMatesFit_1 (by decide) rfl ?_
  exact K 0 (by omega) none (fun j hj => absurd hj (by omega))
set_option maxRecDepth 100000 in
set_option maxHeartbeats 4000000 in
theorem c_X6_countShared {l : Launch} {E : Ev} {M : Mm} {p q b s t : Nat} (hp : p < 6) (hq : q < 6) (hs : s < nv 7) (ht : t < nv 7) (hsb : mI M 33 p = 0 → s = b) (hsp : ¬ mI M 33 p = 0 → s = 19 + p) (htb : mI M 33 q = 0 → t = b) (htp : ¬ mI M 33 q = 0 → t = 19 + q) : Ct l E yX6_countShared cX6_countShared 12 (some .int) 3 0 0 [.ref (eA E 5 0), .int (nI p), .int (nI q), .ref (eA E 7 b)] M (dv (.int (csX (mL M s) (mL M t) (apX (mI M 34) 0 (nI p) (nI q)) (apX (mI M 34) 1 (nI p) (nI q)) (apX (mI M 34) 2 (nI p) (nI q)))) M) := by
  refine Ct.of (own := RX6) rfl [some (.ref (eA E 5 0)), some (.int (nI p)), some (.int (nI q)), some (.ref (eA E 7 b)), none, none, none, none, none, none, none, none] (by decide) (Nat.le_of_ble_eq_true rfl) rfl ?_
  obtain ⟨G, hG0, hGk, hG8⟩ : ∃ G : Nat → Int32, G 0 = nI 0 ∧ (∀ k, G (k + 1) = if ¬ nI k + (apX (mI M 34) 2 (nI p) (nI q)) < 0 ∧ ¬ nI 8 ≤ nI k + (apX (mI M 34) 2 (nI p) (nI q)) then G k + bcl (sldw (mL M s k) (apX (mI M 34) 0 (nI p) (nI q)) (apX (mI M 34) 1 (nI p) (nI q)) &&& mL M t (ntX (nI k + (apX (mI M 34) 2 (nI p) (nI q))))) else G k) ∧ csX (mL M s) (mL M t) (apX (mI M 34) 0 (nI p) (nI q)) (apX (mI M 34) 1 (nI p) (nI q)) (apX (mI M 34) 2 (nI p) (nI q)) = G 8 := ⟨fun k => csK (mL M s) (mL M t) (apX (mI M 34) 0 (nI p) (nI q)) (apX (mI M 34) 1 (nI p) (nI q)) (apX (mI M 34) 2 (nI p) (nI q)) k, csK_0 _ _ _ _ _, csK_s _ _ _ _ _, by rw [csX]⟩
  rw [hG8]
  have K : ∀ k, k ≤ 8 → ∀ (o11 : Option Value), Jd l E RX6 cX6_countShared 12 (some .int) [] (rmm 3 0 0) (QfN E (dv (.int (G 8)) M) 0 0) 0 0 75 [some (.ref (eA E 5 0)), some (.int (nI p)), some (.int (nI q)), some (.ref (eA E 7 b)), some (.ref (eA E 7 s)), some (.ref (eA E 7 t)), some (.int (apX (mI M 34) 0 (nI p) (nI q))), some (.int (apX (mI M 34) 1 (nI p) (nI q))), some (.int (apX (mI M 34) 2 (nI p) (nI q))), some (.int (G k)), some (.int (nI k)), o11] [] M := by
    refine up_to 8 _ ?_ (fun k hk ih => ?_)
    · intro o11
      refine j_il dX6_countShared_75 rfl ?_
      refine j_biN 8 dX6_countShared_77 rfl ?_
      refine j_icgeN (tgt := 139) dX6_countShared_79 (by decide) (by omega) (by omega) (fun h79 => ?_) (fun h79 => ?_)
      · refine j_il dX6_countShared_139 rfl ?_
        exact j_iret dX6_countShared_141 rfl rfl (Nat.le_of_ble_eq_true rfl) (Nat.le_of_ble_eq_true rfl) ⟨rfl, rfl⟩
      · exact absurd (Nat.le_refl 8) h79
    · intro o11
      refine j_il dX6_countShared_75 rfl ?_
      refine j_biN 8 dX6_countShared_77 rfl ?_
      refine j_icgeN (tgt := 139) dX6_countShared_79 (by decide) (by omega) (by omega) (fun h79 => ?_) (fun h79 => ?_)
      · exact absurd h79 (by omega)
      · refine j_il dX6_countShared_82 rfl ?_
        refine j_il dX6_countShared_84 rfl ?_
        refine j_iadd dX6_countShared_86 ?_
        refine j_ist_11 dX6_countShared_87 (by decide) rfl ?_
        refine j_il dX6_countShared_89 rfl ?_
        refine j_iflt (tgt := 133) dX6_countShared_91 (by decide) (fun h91 => ?_) (fun h91 => ?_)
        · have hg : G (k + 1) = G k := by rw [hGk, if_neg (fun g => g.1 h91)]
          refine j_incN_10 1 dX6_countShared_133 rfl (by decide) rfl ?_
          refine j_goto (tgt := 75) dX6_countShared_136 (by decide) ?_
          rw [hg] at ih
          exact ih _
        · refine j_il dX6_countShared_94 rfl ?_
          refine j_biN 8 dX6_countShared_96 rfl ?_
          refine j_icge (tgt := 133) dX6_countShared_98 (by decide) (fun h98 => ?_) (fun h98 => ?_)
          · have hg : G (k + 1) = G k := by rw [hGk, if_neg (fun g => g.2 h98)]
            refine j_incN_10 1 dX6_countShared_133 rfl (by decide) rfl ?_
            refine j_goto (tgt := 75) dX6_countShared_136 (by decide) ?_
            rw [hg] at ih
            exact ih _
          · obtain ⟨w, hw8, hw⟩ := nn_lt (by decide) h91 h98
            have hg : G (k + 1) = G k + bcl (sldw (mL M s k) (apX (mI M 34) 0 (nI p) (nI q)) (apX (mI M 34) 1 (nI p) (nI q)) &&& mL M t w) := by rw [hGk, if_pos ⟨h91, h98⟩, hw, ntX_nI (by omega)]
            refine j_il dX6_countShared_101 rfl ?_
            refine j_al dX6_countShared_103 rfl ?_
            refine g_X1_0 dX6_countShared_105 fl_X6_67 hs ?_
            refine j_il dX6_countShared_108 rfl ?_
            refine j_aldLN dX6_countShared_110 hs (by omega) ?_
            refine j_il dX6_countShared_111 rfl ?_
            refine j_il dX6_countShared_113 rfl ?_
            refine j_S3d mf_X1_slide ml_X6_71 dX6_countShared_115 (Nat.le_of_ble_eq_true rfl) (Nat.le_of_ble_eq_true rfl) (Nat.le_of_ble_eq_true rfl) ⟨(Nat.le_of_ble_eq_true rfl), (Nat.le_of_ble_eq_true rfl)⟩ c_X1_slide ?_
            refine j_al dX6_countShared_118 rfl ?_
            refine g_X1_0 dX6_countShared_120 fl_X6_67 ht ?_
            refine j_il dX6_countShared_123 rfl ?_
            refine j_aldL w dX6_countShared_125 ht hw (by omega) ?_
            refine j_land dX6_countShared_126 ?_
            refine j_S1d mf_J13_bitCount_95d88 ml_X6_75 dX6_countShared_127 (Nat.le_of_ble_eq_true rfl) (Nat.le_of_ble_eq_true rfl) (Nat.le_of_ble_eq_true rfl) ⟨(Nat.le_of_ble_eq_true rfl), (Nat.le_of_ble_eq_true rfl)⟩ c_J13_bitCount_95d88 ?_
            refine j_iadd dX6_countShared_130 ?_
            refine j_ist_9 dX6_countShared_131 (by decide) rfl ?_
            refine j_incN_10 1 dX6_countShared_133 rfl (by decide) rfl ?_
            refine j_goto (tgt := 75) dX6_countShared_136 (by decide) ?_
            rw [hg] at ih
            exact ih _
  have K0 := K 0 (by omega)
  have T : Jd l E RX6 cX6_countShared 12 (some .int) [] (rmm 3 0 0) (QfN E (dv (.int (G 8)) M) 0 0) 0 0 42 [some (.ref (eA E 5 0)), some (.int (nI p)), some (.int (nI q)), some (.ref (eA E 7 b)), some (.ref (eA E 7 s)), some (.ref (eA E 7 t)), none, none, none, none, none, none] [] M := by
    refine j_aln dX6_countShared_42 rfl rfl ?_
    refine j_icN 0 dX6_countShared_43 rfl ?_
    refine j_iln dX6_countShared_44 rfl rfl ?_
    refine j_iln dX6_countShared_45 rfl rfl ?_
    refine j_V3d mf_X6_apart ml_X6_56 dX6_countShared_46 (Nat.le_of_ble_eq_true rfl) (Nat.le_of_ble_eq_true rfl) (Nat.le_of_ble_eq_true rfl) ⟨(Nat.le_of_ble_eq_true rfl), (Nat.le_of_ble_eq_true rfl)⟩ (by first | assumption | decide | (simp only [nv] at *; omega)) rfl rfl (c_X6_apart (show 0 < 3 by decide) (isPt_nI hp) (isPt_nI hq)) ?_
    refine j_ist_6 dX6_countShared_49 (by decide) rfl ?_
    refine j_aln dX6_countShared_51 rfl rfl ?_
    refine j_icN 1 dX6_countShared_52 rfl ?_
    refine j_iln dX6_countShared_53 rfl rfl ?_
    refine j_iln dX6_countShared_54 rfl rfl ?_
    refine j_V3d mf_X6_apart ml_X6_56 dX6_countShared_55 (Nat.le_of_ble_eq_true rfl) (Nat.le_of_ble_eq_true rfl) (Nat.le_of_ble_eq_true rfl) ⟨(Nat.le_of_ble_eq_true rfl), (Nat.le_of_ble_eq_true rfl)⟩ (by first | assumption | decide | (simp only [nv] at *; omega)) rfl rfl (c_X6_apart (show 1 < 3 by decide) (isPt_nI hp) (isPt_nI hq)) ?_
    refine j_ist_7 dX6_countShared_58 (by decide) rfl ?_
    refine j_aln dX6_countShared_60 rfl rfl ?_
    refine j_icN 2 dX6_countShared_61 rfl ?_
    refine j_iln dX6_countShared_62 rfl rfl ?_
    refine j_iln dX6_countShared_63 rfl rfl ?_
    refine j_V3d mf_X6_apart ml_X6_56 dX6_countShared_64 (Nat.le_of_ble_eq_true rfl) (Nat.le_of_ble_eq_true rfl) (Nat.le_of_ble_eq_true rfl) ⟨(Nat.le_of_ble_eq_true rfl), (Nat.le_of_ble_eq_true rfl)⟩ (by first | assumption | decide | (simp only [nv] at *; omega)) rfl rfl (c_X6_apart (show 2 < 3 by decide) (isPt_nI hp) (isPt_nI hq)) ?_
    refine j_ist_8 dX6_countShared_67 (by decide) rfl ?_
    refine j_icN 0 dX6_countShared_69 rfl ?_
    refine j_ist_9 dX6_countShared_70 (by decide) rfl ?_
    refine j_icN 0 dX6_countShared_72 rfl ?_
    refine j_ist_10 dX6_countShared_73 (by decide) rfl ?_
    rw [hG0] at K0
    exact K0 _
  refine j_aln dX6_countShared_0 rfl rfl ?_
  refine g_X6_0 dX6_countShared_1 fl_X6_9 ?_
  refine j_iln dX6_countShared_4 rfl rfl ?_
  refine j_azldN dX6_countShared_5 rfl rfl rfl (by decide) (by omega) ?_
  refine j_ifeq (tgt := 18) dX6_countShared_6 (by decide) (fun h6 => ?_) (fun h6 => ?_)
  · obtain rfl := hsb h6
    refine j_aln dX6_countShared_18 rfl rfl ?_
    refine j_ast_4 dX6_countShared_19 (by decide) rfl ?_
    refine j_aln dX6_countShared_21 rfl rfl ?_
    refine g_X6_0 dX6_countShared_22 fl_X6_9 ?_
    refine j_iln dX6_countShared_25 rfl rfl ?_
    refine j_azldN dX6_countShared_26 rfl rfl rfl (by decide) (by omega) ?_
    refine j_ifeq (tgt := 39) dX6_countShared_27 (by decide) (fun h27 => ?_) (fun h27 => ?_)
    · obtain rfl := htb h27
      refine j_aln dX6_countShared_39 rfl rfl ?_
      refine j_ast_5 dX6_countShared_40 (by decide) rfl ?_
      exact T
    · obtain rfl := htp h27
      refine j_aln dX6_countShared_30 rfl rfl ?_
      refine g_X6_1 dX6_countShared_31 fl_X6_17 ?_
      refine j_iln dX6_countShared_34 rfl rfl ?_
      refine j_aldCN dX6_countShared_35 (by omega) ?_
      refine j_goto (tgt := 40) dX6_countShared_36 (by decide) ?_
      refine j_ast_5 dX6_countShared_40 (by decide) rfl ?_
      exact T
  · obtain rfl := hsp h6
    refine j_aln dX6_countShared_9 rfl rfl ?_
    refine g_X6_1 dX6_countShared_10 fl_X6_17 ?_
    refine j_iln dX6_countShared_13 rfl rfl ?_
    refine j_aldCN dX6_countShared_14 (by omega) ?_
    refine j_goto (tgt := 19) dX6_countShared_15 (by decide) ?_
    refine j_ast_4 dX6_countShared_19 (by decide) rfl ?_
    refine j_aln dX6_countShared_21 rfl rfl ?_
    refine g_X6_0 dX6_countShared_22 fl_X6_9 ?_
    refine j_iln dX6_countShared_25 rfl rfl ?_
    refine j_azldN dX6_countShared_26 rfl rfl rfl (by decide) (by omega) ?_
    refine j_ifeq (tgt := 39) dX6_countShared_27 (by decide) (fun h27 => ?_) (fun h27 => ?_)
    · obtain rfl := htb h27
      refine j_aln dX6_countShared_39 rfl rfl ?_
      refine j_ast_5 dX6_countShared_40 (by decide) rfl ?_
      exact T
    · obtain rfl := htp h27
      refine j_aln dX6_countShared_30 rfl rfl ?_
      refine g_X6_1 dX6_countShared_31 fl_X6_17 ?_
      refine j_iln dX6_countShared_34 rfl rfl ?_
      refine j_aldCN dX6_countShared_35 (by omega) ?_
      refine j_goto (tgt := 40) dX6_countShared_36 (by decide) ?_
      refine j_ast_5 dX6_countShared_40 (by decide) rfl ?_
      exact T
