/-! the model: numbers found, needs in a round -/
theorem mT_lt {t : Int32} (h : mT t = true) (h1 : t < nI 100) : nmd t = false := decide_eq_false fun q => q.1 h1
theorem mT_ge {t : Int32} (h : mT t = true) (h1 : ¬ t < nI 100) : nmd t = true := by
  obtain ⟨w, h2, h3, rfl⟩ := mT_n h h1
  exact decide_eq_true ⟨h1, fun q => absurd ((nI_leI (by decide) (by omega)).mp q) (by omega)⟩
theorem mTm_v {v : Nat → Int32} {t : Int32} (h : mT t = true) : mTm v t = valX v t := by
  unfold mTm valX
  by_cases h1 : t < nI 100
  · rw [if_pos h1, if_neg (by rw [mT_lt h h1]; decide)]
  · rw [if_neg h1, if_pos (mT_ge h h1)]
    obtain ⟨w, h2, h3, rfl⟩ := mT_n h h1
    rw [ntX_nI (by omega), pk_sub h2, nI_clamp (by omega)]
theorem cut_hi {x : Int32} (h : ¬ x ≤ nI 99) : nI 99 = cutX x := by
  unfold cutX mnI mxI
  have h := Int32.lt_iff_toInt_lt.mp (Int32.not_le.mp h)
  rw [nI_toInt (by decide)] at h
  rw [if_neg (show ¬ x < nI 99 from fun q => by have := Int32.lt_iff_toInt_lt.mp q; rw [nI_toInt (by decide)] at this; omega)]
  decide
theorem cut_lo {x : Int32} (h : x ≤ nI 99) (h2 : ¬ (-99 : Int32) ≤ x) : (-99 : Int32) = cutX x := by
  unfold cutX mnI mxI
  have e : (if x < nI 99 then x else nI 99) = x := by
    by_cases q : x < nI 99
    · rw [if_pos q]
    · rw [if_neg q]; exact Int32.le_antisymm (Int32.not_lt.mp q) h
  rw [e, if_neg (fun q => h2 (Int32.le_of_lt q))]
theorem cut_id {x : Int32} (h : x ≤ nI 99) (h2 : (-99 : Int32) ≤ x) : x = cutX x := by
  unfold cutX mnI mxI
  have e : (if x < nI 99 then x else nI 99) = x := by
    by_cases q : x < nI 99
    · rw [if_pos q]
    · rw [if_neg q]; exact Int32.le_antisymm (Int32.not_lt.mp q) h
  rw [e]
  by_cases q : (-99 : Int32) < x
  · rw [if_pos q]
  · rw [if_neg q]; exact Int32.le_antisymm (Int32.not_lt.mp q) h2
theorem out_p {F O S v : Nat → Int32} {n : Nat} (hF : mT (F n) = true) (hS : mT (S n) = true) (h : O n = nI 43) : mTm v (F n) + mTm v (S n) = outX F O S v n := by
  unfold outX
  rw [if_neg (by rw [h]; decide), if_neg (by rw [h]; decide), mTm_v hF, mTm_v hS]
theorem out_m {F O S v : Nat → Int32} {n : Nat} (hF : mT (F n) = true) (hS : mT (S n) = true) (h : O n = nI 45) : mTm v (F n) - mTm v (S n) = outX F O S v n := by
  unfold outX
  rw [if_neg (by rw [h]; decide), if_pos h, mTm_v hF, mTm_v hS]
theorem out_x {F O S v : Nat → Int32} {n : Nat} (hF : mT (F n) = true) (hS : mT (S n) = true) (hO : isOp (O n) = true) (h : ¬ O n = nI 43) (h2 : ¬ O n = nI 45) : mTm v (F n) * mTm v (S n) = outX F O S v n := by
  unfold outX
  rw [if_pos ((of_decide_eq_true hO).elim (fun q => absurd q h) (fun q => q.elim (fun q => absurd q h2) id)), mTm_v hF, mTm_v hS]
set_option maxRecDepth 100000 in
set_option maxHeartbeats 4000000 in
theorem c_X10_finds {l : Launch} {E : Ev} {M : Mm}  (hF : ∀ n, n < 8 → mT (mI M 40 n) = true) (hS : ∀ n, n < 8 → mT (mI M 41 n) = true) (hO : ∀ n, n < 8 → isOp (mI M 42 n) = true) : Ct l E yX10_finds cX10_finds 6 none 2 0 0 [.ref (eA E 12 0)] M (dn (sI M 43 (rrX (mI M 40) (mI M 42) (mI M 41) (mI M 43) 8))) := by
  refine Ct.of (own := RX10) rfl [some (.ref (eA E 12 0)), none, none, none, none, none] (by decide) (Nat.le_of_ble_eq_true rfl) rfl ?_
  obtain ⟨G, hG0, hGk, hGr, hG8⟩ : ∃ G : Nat → Nat → Nat → Int32, G 0 0 = mI M 43 ∧ (∀ r k, G r (k + 1) = upd (G r k) k (cutX (outX (mI M 40) (mI M 42) (mI M 41) (G r k) k))) ∧ (∀ r, G (r + 1) 0 = G r 8) ∧ G 8 0 = rrX (mI M 40) (mI M 42) (mI M 41) (mI M 43) 8 := ⟨fun r k => rdX (mI M 40) (mI M 42) (mI M 41) (rrX (mI M 40) (mI M 42) (mI M 41) (mI M 43) r) k, (rdX_0 _ _ _ _).trans (rrX_0 _ _ _ _), fun r k => rdX_s _ _ _ _ k, fun r => (rdX_0 _ _ _ _).trans (rrX_s _ _ _ _ r), rdX_0 _ _ _ _⟩
  rw [← hG8]
  clear hG8
  have KR : ∀ r, r ≤ 8 → ∀ (o2 o3 o4 o5 : Option Value), Jd l E RX10 cX10_finds 6 none [] (rmm 2 0 0) (QfN E (dn (sI M 43 (G 8 0))) 0 0) 0 0 2 [some (.ref (eA E 12 0)), some (.int (nI r)), o2, o3, o4, o5] [] (sI M 43 (G r 0)) := by
    refine up_to 8 _ ?_ (fun r hr ihr => ?_)
    · intro o2 o3 o4 o5
      refine j_iln dX10_finds_2 rfl rfl ?_
      refine j_biN 8 dX10_finds_3 rfl ?_
      refine j_icgeN (tgt := 125) dX10_finds_5 (by decide) (by omega) (by omega) (fun h5 => ?_) (fun h5 => ?_)
      · exact j_vret dX10_finds_125 rfl (Nat.le_of_ble_eq_true rfl) (Nat.le_of_ble_eq_true rfl) ⟨rfl, rfl⟩
      · exact absurd (Nat.le_refl 8) h5
    · intro o2 o3 o4 o5
      have KK : ∀ k, k ≤ 8 → ∀ (p3 p4 p5 : Option Value), Jd l E RX10 cX10_finds 6 none [] (rmm 2 0 0) (QfN E (dn (sI M 43 (G 8 0))) 0 0) 0 0 10 [some (.ref (eA E 12 0)), some (.int (nI r)), some (.int (nI k)), p3, p4, p5] [] (sI M 43 (G r k)) := by
        refine up_to 8 _ ?_ (fun k hk ihk => ?_)
        · intro p3 p4 p5
          refine j_iln dX10_finds_10 rfl rfl ?_
          refine j_biN 8 dX10_finds_11 rfl ?_
          refine j_icgeN (tgt := 119) dX10_finds_13 (by decide) (by omega) (by omega) (fun h13 => ?_) (fun h13 => ?_)
          · refine j_incN_1 1 dX10_finds_119 rfl (by decide) rfl ?_
            refine j_goto (tgt := 2) dX10_finds_122 (by decide) ?_
            rw [← hGr r]
            exact ihr _ _ _ _
          · exact absurd (Nat.le_refl 8) h13
        · intro p3 p4 p5
          refine j_iln dX10_finds_10 rfl rfl ?_
          refine j_biN 8 dX10_finds_11 rfl ?_
          refine j_icgeN (tgt := 119) dX10_finds_13 (by decide) (by omega) (by omega) (fun h13 => ?_) (fun h13 => ?_)
          · exact absurd h13 (by omega)
          · refine j_aln dX10_finds_16 rfl rfl ?_
            refine j_aln dX10_finds_17 rfl rfl ?_
            refine g_X10_1 dX10_finds_18 fl_X10_7 ?_
            refine j_iln dX10_finds_21 rfl rfl ?_
            refine j_aildN dX10_finds_22 rfl rfl rfl (by decide) (by omega) ?_
            refine j_V1d mf_X10_term ml_X10_104 dX10_finds_23 (Nat.le_of_ble_eq_true rfl) (Nat.le_of_ble_eq_true rfl) (Nat.le_of_ble_eq_true rfl) ⟨(Nat.le_of_ble_eq_true rfl), (Nat.le_of_ble_eq_true rfl)⟩ (by first | assumption | decide | (simp only [nv] at *; omega)) rfl rfl (c_X10_term (M := sI M 43 (G r k)) (hF k hk)) ?_
            refine j_ist_3 dX10_finds_26 (by decide) rfl ?_
            refine j_aln dX10_finds_27 rfl rfl ?_
            refine j_aln dX10_finds_28 rfl rfl ?_
            refine g_X10_2 dX10_finds_29 fl_X10_13 ?_
            refine j_iln dX10_finds_32 rfl rfl ?_
            refine j_aildN dX10_finds_33 rfl rfl rfl (by decide) (by omega) ?_
            refine j_V1d mf_X10_term ml_X10_104 dX10_finds_34 (Nat.le_of_ble_eq_true rfl) (Nat.le_of_ble_eq_true rfl) (Nat.le_of_ble_eq_true rfl) ⟨(Nat.le_of_ble_eq_true rfl), (Nat.le_of_ble_eq_true rfl)⟩ (by first | assumption | decide | (simp only [nv] at *; omega)) rfl rfl (c_X10_term (M := sI M 43 (G r k)) (hS k hk)) ?_
            refine j_ist_4 dX10_finds_37 (by decide) rfl ?_
            refine j_aln dX10_finds_39 rfl rfl ?_
            refine g_X10_3 dX10_finds_40 fl_X10_16 ?_
            refine j_iln dX10_finds_43 rfl rfl ?_
            refine j_acldN dX10_finds_44 rfl rfl rfl (by decide) (by omega) ?_
            refine j_biN 43 dX10_finds_45 rfl ?_
            refine j_icne (tgt := 57) dX10_finds_47 (by decide) (fun h47 => ?_) (fun h47 => ?_)
            · refine j_aln dX10_finds_57 rfl rfl ?_
              refine g_X10_3 dX10_finds_58 fl_X10_16 ?_
              refine j_iln dX10_finds_61 rfl rfl ?_
              refine j_acldN dX10_finds_62 rfl rfl rfl (by decide) (by omega) ?_
              refine j_biN 45 dX10_finds_63 rfl ?_
              refine j_icne (tgt := 75) dX10_finds_65 (by decide) (fun h65 => ?_) (fun h65 => ?_)
              · have ho := out_x (F := mI M 40) (O := mI M 42) (S := mI M 41) (v := G r k) (hF k hk) (hS k hk) (hO k hk) h47 h65
                refine j_iln dX10_finds_75 rfl rfl ?_
                refine j_il dX10_finds_76 rfl ?_
                refine j_imul dX10_finds_78 ?_
                refine j_topi ho ?_
                refine j_ist_5 dX10_finds_79 (by decide) rfl ?_
                refine j_aln dX10_finds_81 rfl rfl ?_
                refine g_X10_4 dX10_finds_82 fl_X10_20 ?_
                refine j_iln dX10_finds_85 rfl rfl ?_
                refine j_il dX10_finds_86 rfl ?_
                refine j_biN 99 dX10_finds_88 rfl ?_
                refine j_icle (tgt := 98) dX10_finds_90 (by decide) (fun h90 => ?_) (fun h90 => ?_)
                · refine j_il dX10_finds_98 rfl ?_
                  refine j_bi (v := (-99)) dX10_finds_100 (by decide) ?_
                  refine j_icge (tgt := 110) dX10_finds_102 (by decide) (fun h102 => ?_) (fun h102 => ?_)
                  · have hv := cut_id h90 h102
                    refine j_il dX10_finds_110 rfl ?_
                    refine j_aistN dX10_finds_112 rfl (fun _ => rfl) rfl (by decide) (by omega) ?_
                    refine j_incN_2 1 dX10_finds_113 rfl (by decide) rfl ?_
                    refine j_goto (tgt := 10) dX10_finds_116 (by decide) ?_
                    refine j_mem ?_ (ihk _ _ _)
                    rw [sI_sI, hGk, ← hv]
                    rfl
                  · have hv := cut_lo h90 h102
                    refine j_bi (v := (-99)) dX10_finds_105 (by decide) ?_
                    refine j_goto (tgt := 112) dX10_finds_107 (by decide) ?_
                    refine j_aistN dX10_finds_112 rfl (fun _ => rfl) rfl (by decide) (by omega) ?_
                    refine j_incN_2 1 dX10_finds_113 rfl (by decide) rfl ?_
                    refine j_goto (tgt := 10) dX10_finds_116 (by decide) ?_
                    refine j_mem ?_ (ihk _ _ _)
                    rw [sI_sI, hGk, ← hv]
                    rfl
                · have hv := cut_hi h90
                  refine j_biN 99 dX10_finds_93 rfl ?_
                  refine j_goto (tgt := 112) dX10_finds_95 (by decide) ?_
                  refine j_aistN dX10_finds_112 rfl (fun _ => rfl) rfl (by decide) (by omega) ?_
                  refine j_incN_2 1 dX10_finds_113 rfl (by decide) rfl ?_
                  refine j_goto (tgt := 10) dX10_finds_116 (by decide) ?_
                  refine j_mem ?_ (ihk _ _ _)
                  rw [sI_sI, hGk, ← hv]
                  rfl
              · have ho := out_m (F := mI M 40) (O := mI M 42) (S := mI M 41) (v := G r k) (hF k hk) (hS k hk) h65
                refine j_iln dX10_finds_68 rfl rfl ?_
                refine j_il dX10_finds_69 rfl ?_
                refine j_isub dX10_finds_71 ?_
                refine j_goto (tgt := 79) dX10_finds_72 (by decide) ?_
                refine j_topi ho ?_
                refine j_ist_5 dX10_finds_79 (by decide) rfl ?_
                refine j_aln dX10_finds_81 rfl rfl ?_
                refine g_X10_4 dX10_finds_82 fl_X10_20 ?_
                refine j_iln dX10_finds_85 rfl rfl ?_
                refine j_il dX10_finds_86 rfl ?_
                refine j_biN 99 dX10_finds_88 rfl ?_
                refine j_icle (tgt := 98) dX10_finds_90 (by decide) (fun h90 => ?_) (fun h90 => ?_)
                · refine j_il dX10_finds_98 rfl ?_
                  refine j_bi (v := (-99)) dX10_finds_100 (by decide) ?_
                  refine j_icge (tgt := 110) dX10_finds_102 (by decide) (fun h102 => ?_) (fun h102 => ?_)
                  · have hv := cut_id h90 h102
                    refine j_il dX10_finds_110 rfl ?_
                    refine j_aistN dX10_finds_112 rfl (fun _ => rfl) rfl (by decide) (by omega) ?_
                    refine j_incN_2 1 dX10_finds_113 rfl (by decide) rfl ?_
                    refine j_goto (tgt := 10) dX10_finds_116 (by decide) ?_
                    refine j_mem ?_ (ihk _ _ _)
                    rw [sI_sI, hGk, ← hv]
                    rfl
                  · have hv := cut_lo h90 h102
                    refine j_bi (v := (-99)) dX10_finds_105 (by decide) ?_
                    refine j_goto (tgt := 112) dX10_finds_107 (by decide) ?_
                    refine j_aistN dX10_finds_112 rfl (fun _ => rfl) rfl (by decide) (by omega) ?_
                    refine j_incN_2 1 dX10_finds_113 rfl (by decide) rfl ?_
                    refine j_goto (tgt := 10) dX10_finds_116 (by decide) ?_
                    refine j_mem ?_ (ihk _ _ _)
                    rw [sI_sI, hGk, ← hv]
                    rfl
                · have hv := cut_hi h90
                  refine j_biN 99 dX10_finds_93 rfl ?_
                  refine j_goto (tgt := 112) dX10_finds_95 (by decide) ?_
                  refine j_aistN dX10_finds_112 rfl (fun _ => rfl) rfl (by decide) (by omega) ?_
                  refine j_incN_2 1 dX10_finds_113 rfl (by decide) rfl ?_
                  refine j_goto (tgt := 10) dX10_finds_116 (by decide) ?_
                  refine j_mem ?_ (ihk _ _ _)
                  rw [sI_sI, hGk, ← hv]
                  rfl
            · have ho := out_p (F := mI M 40) (O := mI M 42) (S := mI M 41) (v := G r k) (hF k hk) (hS k hk) h47
              refine j_iln dX10_finds_50 rfl rfl ?_
              refine j_il dX10_finds_51 rfl ?_
              refine j_iadd dX10_finds_53 ?_
              refine j_goto (tgt := 79) dX10_finds_54 (by decide) ?_
              refine j_topi ho ?_
              refine j_ist_5 dX10_finds_79 (by decide) rfl ?_
              refine j_aln dX10_finds_81 rfl rfl ?_
              refine g_X10_4 dX10_finds_82 fl_X10_20 ?_
              refine j_iln dX10_finds_85 rfl rfl ?_
              refine j_il dX10_finds_86 rfl ?_
              refine j_biN 99 dX10_finds_88 rfl ?_
              refine j_icle (tgt := 98) dX10_finds_90 (by decide) (fun h90 => ?_) (fun h90 => ?_)
              · refine j_il dX10_finds_98 rfl ?_
                refine j_bi (v := (-99)) dX10_finds_100 (by decide) ?_
                refine j_icge (tgt := 110) dX10_finds_102 (by decide) (fun h102 => ?_) (fun h102 => ?_)
                · have hv := cut_id h90 h102
                  refine j_il dX10_finds_110 rfl ?_
                  refine j_aistN dX10_finds_112 rfl (fun _ => rfl) rfl (by decide) (by omega) ?_
                  refine j_incN_2 1 dX10_finds_113 rfl (by decide) rfl ?_
                  refine j_goto (tgt := 10) dX10_finds_116 (by decide) ?_
                  refine j_mem ?_ (ihk _ _ _)
                  rw [sI_sI, hGk, ← hv]
                  rfl
                · have hv := cut_lo h90 h102
                  refine j_bi (v := (-99)) dX10_finds_105 (by decide) ?_
                  refine j_goto (tgt := 112) dX10_finds_107 (by decide) ?_
                  refine j_aistN dX10_finds_112 rfl (fun _ => rfl) rfl (by decide) (by omega) ?_
                  refine j_incN_2 1 dX10_finds_113 rfl (by decide) rfl ?_
                  refine j_goto (tgt := 10) dX10_finds_116 (by decide) ?_
                  refine j_mem ?_ (ihk _ _ _)
                  rw [sI_sI, hGk, ← hv]
                  rfl
              · have hv := cut_hi h90
                refine j_biN 99 dX10_finds_93 rfl ?_
                refine j_goto (tgt := 112) dX10_finds_95 (by decide) ?_
                refine j_aistN dX10_finds_112 rfl (fun _ => rfl) rfl (by decide) (by omega) ?_
                refine j_incN_2 1 dX10_finds_113 rfl (by decide) rfl ?_
                refine j_goto (tgt := 10) dX10_finds_116 (by decide) ?_
                refine j_mem ?_ (ihk _ _ _)
                rw [sI_sI, hGk, ← hv]
                rfl
      refine j_iln dX10_finds_2 rfl rfl ?_
      refine j_biN 8 dX10_finds_3 rfl ?_
      refine j_icgeN (tgt := 125) dX10_finds_5 (by decide) (by omega) (by omega) (fun h5 => ?_) (fun h5 => ?_)
      · exact absurd h5 (by omega)
      · refine j_icN 0 dX10_finds_8 rfl ?_
        refine j_ist_2 dX10_finds_9 (by decide) rfl ?_
        exact KK 0 (by omega) _ _ _
  refine j_icN 0 dX10_finds_0 rfl ?_
  refine j_ist_1 dX10_finds_1 (by decide) rfl ?_
  have K0 := KR 0 (by omega) none none none none
  rw [hG0, sI_id] at K0
  exact K0
