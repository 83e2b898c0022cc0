/-! the model: depths -/
theorem cl_nI {a b c : Nat} (ha : a < 8) (hb : b < 8) (hc : c < 8) : clX (nI a) (nI b) (nI c) = nI (64 * a + 8 * b + c) := by
  have h7 : ∀ n, n < 8 → in7 (nI n) = true := fun n hn => inX_i.mpr ⟨fun q => absurd ((nI_ltI (by omega) (by decide)).mp q) (by omega), fun q => absurd ((nI_ltI (by decide) (by omega)).mp q) (by omega)⟩
  unfold clX
  rw [if_pos ⟨h7 a ha, h7 b hb, h7 c hc⟩, ntX_nI (by omega), ntX_nI (by omega), ntX_nI (by omega)]
def daI (a al u v : Nat) : Nat := if a = 0 then 64 * al + 8 * u + v else if a = 1 then 64 * u + 8 * al + v else 64 * u + 8 * v + al
theorem daI_lt {a al u v : Nat} (h1 : al < 8) (h2 : u < 8) (h3 : v < 8) : daI a al u v < 512 := by
  unfold daI
  split
  · omega
  · split <;> omega
def dmp (M : Mm) (a : Nat) (up : Bool) (u v k : Nat) : Bool := decide (¬ mI M 54 (daI a (if up = true then k else 7 - k) u v) = 0)
set_option maxRecDepth 100000 in
set_option maxHeartbeats 4000000 in
theorem c_X10_depthAt {l : Launch} {E : Ev} {M : Mm} {a u v : Nat} {up : Bool} (ha : a < 3) (hu : u < 8) (hv : v < 8) : Ct l E yX10_depthAt cX10_depthAt 8 (some .int) 3 0 0 [.ref (eA E 12 0), .int (nI a), .int (bI up), .int (nI u), .int (nI v)] M (dv (.int (nI (fst8 (dmp M a up u v)))) M) := by
  refine Ct.of (own := RX10) rfl [some (.ref (eA E 12 0)), some (.int (nI a)), some (.int (bI up)), some (.int (nI u)), some (.int (nI v)), none, none, none] (by decide) (Nat.le_of_ble_eq_true rfl) rfl ?_
  have K : ∀ k, k ≤ 8 → ∀ (o6 o7 : Option Value), (∀ j, j < k → (dmp M a up u v) j = false) → Jd l E RX10 cX10_depthAt 8 (some .int) [] (rmm 3 0 0) (QfN E (dv (.int (nI (fst8 (dmp M a up u v)))) M) 0 0) 0 0 3 [some (.ref (eA E 12 0)), some (.int (nI a)), some (.int (bI up)), some (.int (nI u)), some (.int (nI v)), some (.int (nI k)), o6, o7] [] M := by
    refine up_to 8 _ ?_ (fun k hk ih => ?_)
    · intro o6 o7 hall
      refine j_il dX10_depthAt_3 rfl ?_
      refine j_biN 8 dX10_depthAt_5 rfl ?_
      refine j_icgeN (tgt := 86) dX10_depthAt_7 (by decide) (by omega) (by omega) (fun h7 => ?_) (fun h7 => ?_)
      · refine j_biN 8 dX10_depthAt_86 rfl ?_
        exact j_iret dX10_depthAt_88 rfl rfl (Nat.le_of_ble_eq_true rfl) (Nat.le_of_ble_eq_true rfl) ⟨by rw [fst8_f hall], rfl⟩
      · exact absurd (Nat.le_refl 8) h7
    · intro o6 o7 hall
      refine j_il dX10_depthAt_3 rfl ?_
      refine j_biN 8 dX10_depthAt_5 rfl ?_
      refine j_icgeN (tgt := 86) dX10_depthAt_7 (by decide) (by omega) (by omega) (fun h7 => ?_) (fun h7 => ?_)
      · exact absurd h7 (by omega)
      · refine j_iln dX10_depthAt_10 rfl rfl ?_
        refine j_ifeq (tgt := 19) dX10_depthAt_11 (by decide) (fun h11 => ?_) (fun h11 => ?_)
        · have hup := bI_eq.mp h11
          have hal : (if up = true then k else 7 - k) = 7 - k := by rw [hup]; rfl
          refine j_biN 7 dX10_depthAt_19 rfl ?_
          refine j_il dX10_depthAt_21 rfl ?_
          refine j_isubN dX10_depthAt_23 (by omega) ?_
          refine j_ist_6 dX10_depthAt_24 (by decide) rfl ?_
          refine j_iln dX10_depthAt_26 rfl rfl ?_
          refine j_ifneN (tgt := 41) dX10_depthAt_27 (by decide) (by omega) (fun h27 => ?_) (fun h27 => ?_)
          · refine j_iln dX10_depthAt_41 rfl rfl ?_
            refine j_icN 1 dX10_depthAt_42 rfl ?_
            refine j_icneN (tgt := 57) dX10_depthAt_43 (by decide) (by omega) (by omega) (fun h43 => ?_) (fun h43 => ?_)
            · refine j_iln dX10_depthAt_57 rfl rfl ?_
              refine j_il dX10_depthAt_58 rfl ?_
              refine j_il dX10_depthAt_60 rfl ?_
              refine j_S3d mf_X10_cell ml_X10_180 dX10_depthAt_62 (Nat.le_of_ble_eq_true rfl) (Nat.le_of_ble_eq_true rfl) (Nat.le_of_ble_eq_true rfl) ⟨(Nat.le_of_ble_eq_true rfl), (Nat.le_of_ble_eq_true rfl)⟩ c_X10_cell ?_
              refine j_ist_7 dX10_depthAt_65 (by decide) rfl ?_
              refine j_aln dX10_depthAt_67 rfl rfl ?_
              refine g_X10_21 dX10_depthAt_68 fl_X10_54 ?_
              refine j_il dX10_depthAt_71 rfl ?_
              refine j_azld (daI a (if up = true then k else 7 - k) u v) dX10_depthAt_73 rfl rfl rfl (by rw [cl_nI (by omega) (by omega) (by omega), hal]; unfold daI; first | rw [if_pos h27] | rw [if_neg h27, if_pos h43] | rw [if_neg h27, if_neg h43]) (daI_lt (by split <;> omega) hu hv) (by decide) ?_
              refine j_ifeq (tgt := 80) dX10_depthAt_74 (by decide) (fun h74 => ?_) (fun h74 => ?_)
              · refine j_incN_5 1 dX10_depthAt_80 rfl (by decide) rfl ?_
                refine j_goto (tgt := 3) dX10_depthAt_83 (by decide) ?_
                exact ih _ _ (fun j hj => by
                  rcases Nat.lt_or_ge j k with h | h
                  · exact hall j h
                  · rw [show j = k by omega]; exact decide_eq_false (fun q => q h74))
              · refine j_il dX10_depthAt_77 rfl ?_
                exact j_iret dX10_depthAt_79 rfl rfl (Nat.le_of_ble_eq_true rfl) (Nat.le_of_ble_eq_true rfl) ⟨by rw [fst8_t (by omega) hall (decide_eq_true h74)], rfl⟩
            · refine j_iln dX10_depthAt_46 rfl rfl ?_
              refine j_il dX10_depthAt_47 rfl ?_
              refine j_il dX10_depthAt_49 rfl ?_
              refine j_S3d mf_X10_cell ml_X10_180 dX10_depthAt_51 (Nat.le_of_ble_eq_true rfl) (Nat.le_of_ble_eq_true rfl) (Nat.le_of_ble_eq_true rfl) ⟨(Nat.le_of_ble_eq_true rfl), (Nat.le_of_ble_eq_true rfl)⟩ c_X10_cell ?_
              refine j_goto (tgt := 65) dX10_depthAt_54 (by decide) ?_
              refine j_ist_7 dX10_depthAt_65 (by decide) rfl ?_
              refine j_aln dX10_depthAt_67 rfl rfl ?_
              refine g_X10_21 dX10_depthAt_68 fl_X10_54 ?_
              refine j_il dX10_depthAt_71 rfl ?_
              refine j_azld (daI a (if up = true then k else 7 - k) u v) dX10_depthAt_73 rfl rfl rfl (by rw [cl_nI (by omega) (by omega) (by omega), hal]; unfold daI; first | rw [if_pos h27] | rw [if_neg h27, if_pos h43] | rw [if_neg h27, if_neg h43]) (daI_lt (by split <;> omega) hu hv) (by decide) ?_
              refine j_ifeq (tgt := 80) dX10_depthAt_74 (by decide) (fun h74 => ?_) (fun h74 => ?_)
              · refine j_incN_5 1 dX10_depthAt_80 rfl (by decide) rfl ?_
                refine j_goto (tgt := 3) dX10_depthAt_83 (by decide) ?_
                exact ih _ _ (fun j hj => by
                  rcases Nat.lt_or_ge j k with h | h
                  · exact hall j h
                  · rw [show j = k by omega]; exact decide_eq_false (fun q => q h74))
              · refine j_il dX10_depthAt_77 rfl ?_
                exact j_iret dX10_depthAt_79 rfl rfl (Nat.le_of_ble_eq_true rfl) (Nat.le_of_ble_eq_true rfl) ⟨by rw [fst8_t (by omega) hall (decide_eq_true h74)], rfl⟩
          · refine j_il dX10_depthAt_30 rfl ?_
            refine j_iln dX10_depthAt_32 rfl rfl ?_
            refine j_il dX10_depthAt_33 rfl ?_
            refine j_S3d mf_X10_cell ml_X10_180 dX10_depthAt_35 (Nat.le_of_ble_eq_true rfl) (Nat.le_of_ble_eq_true rfl) (Nat.le_of_ble_eq_true rfl) ⟨(Nat.le_of_ble_eq_true rfl), (Nat.le_of_ble_eq_true rfl)⟩ c_X10_cell ?_
            refine j_goto (tgt := 65) dX10_depthAt_38 (by decide) ?_
            refine j_ist_7 dX10_depthAt_65 (by decide) rfl ?_
            refine j_aln dX10_depthAt_67 rfl rfl ?_
            refine g_X10_21 dX10_depthAt_68 fl_X10_54 ?_
            refine j_il dX10_depthAt_71 rfl ?_
            refine j_azld (daI a (if up = true then k else 7 - k) u v) dX10_depthAt_73 rfl rfl rfl (by rw [cl_nI (by omega) (by omega) (by omega), hal]; unfold daI; first | rw [if_pos h27] | rw [if_neg h27, if_pos h43] | rw [if_neg h27, if_neg h43]) (daI_lt (by split <;> omega) hu hv) (by decide) ?_
            refine j_ifeq (tgt := 80) dX10_depthAt_74 (by decide) (fun h74 => ?_) (fun h74 => ?_)
            · refine j_incN_5 1 dX10_depthAt_80 rfl (by decide) rfl ?_
              refine j_goto (tgt := 3) dX10_depthAt_83 (by decide) ?_
              exact ih _ _ (fun j hj => by
                rcases Nat.lt_or_ge j k with h | h
                · exact hall j h
                · rw [show j = k by omega]; exact decide_eq_false (fun q => q h74))
            · refine j_il dX10_depthAt_77 rfl ?_
              exact j_iret dX10_depthAt_79 rfl rfl (Nat.le_of_ble_eq_true rfl) (Nat.le_of_ble_eq_true rfl) ⟨by rw [fst8_t (by omega) hall (decide_eq_true h74)], rfl⟩
        · have hup := bI_ne.mp h11
          have hal : (if up = true then k else 7 - k) = k := by rw [hup]; rfl
          refine j_il dX10_depthAt_14 rfl ?_
          refine j_goto (tgt := 24) dX10_depthAt_16 (by decide) ?_
          refine j_ist_6 dX10_depthAt_24 (by decide) rfl ?_
          refine j_iln dX10_depthAt_26 rfl rfl ?_
          refine j_ifneN (tgt := 41) dX10_depthAt_27 (by decide) (by omega) (fun h27 => ?_) (fun h27 => ?_)
          · refine j_iln dX10_depthAt_41 rfl rfl ?_
            refine j_icN 1 dX10_depthAt_42 rfl ?_
            refine j_icneN (tgt := 57) dX10_depthAt_43 (by decide) (by omega) (by omega) (fun h43 => ?_) (fun h43 => ?_)
            · refine j_iln dX10_depthAt_57 rfl rfl ?_
              refine j_il dX10_depthAt_58 rfl ?_
              refine j_il dX10_depthAt_60 rfl ?_
              refine j_S3d mf_X10_cell ml_X10_180 dX10_depthAt_62 (Nat.le_of_ble_eq_true rfl) (Nat.le_of_ble_eq_true rfl) (Nat.le_of_ble_eq_true rfl) ⟨(Nat.le_of_ble_eq_true rfl), (Nat.le_of_ble_eq_true rfl)⟩ c_X10_cell ?_
              refine j_ist_7 dX10_depthAt_65 (by decide) rfl ?_
              refine j_aln dX10_depthAt_67 rfl rfl ?_
              refine g_X10_21 dX10_depthAt_68 fl_X10_54 ?_
              refine j_il dX10_depthAt_71 rfl ?_
              refine j_azld (daI a (if up = true then k else 7 - k) u v) dX10_depthAt_73 rfl rfl rfl (by rw [cl_nI (by omega) (by omega) (by omega), hal]; unfold daI; first | rw [if_pos h27] | rw [if_neg h27, if_pos h43] | rw [if_neg h27, if_neg h43]) (daI_lt (by split <;> omega) hu hv) (by decide) ?_
              refine j_ifeq (tgt := 80) dX10_depthAt_74 (by decide) (fun h74 => ?_) (fun h74 => ?_)
              · refine j_incN_5 1 dX10_depthAt_80 rfl (by decide) rfl ?_
                refine j_goto (tgt := 3) dX10_depthAt_83 (by decide) ?_
                exact ih _ _ (fun j hj => by
                  rcases Nat.lt_or_ge j k with h | h
                  · exact hall j h
                  · rw [show j = k by omega]; exact decide_eq_false (fun q => q h74))
              · refine j_il dX10_depthAt_77 rfl ?_
                exact j_iret dX10_depthAt_79 rfl rfl (Nat.le_of_ble_eq_true rfl) (Nat.le_of_ble_eq_true rfl) ⟨by rw [fst8_t (by omega) hall (decide_eq_true h74)], rfl⟩
            · refine j_iln dX10_depthAt_46 rfl rfl ?_
              refine j_il dX10_depthAt_47 rfl ?_
              refine j_il dX10_depthAt_49 rfl ?_
              refine j_S3d mf_X10_cell ml_X10_180 dX10_depthAt_51 (Nat.le_of_ble_eq_true rfl) (Nat.le_of_ble_eq_true rfl) (Nat.le_of_ble_eq_true rfl) ⟨(Nat.le_of_ble_eq_true rfl), (Nat.le_of_ble_eq_true rfl)⟩ c_X10_cell ?_
              refine j_goto (tgt := 65) dX10_depthAt_54 (by decide) ?_
              refine j_ist_7 dX10_depthAt_65 (by decide) rfl ?_
              refine j_aln dX10_depthAt_67 rfl rfl ?_
              refine g_X10_21 dX10_depthAt_68 fl_X10_54 ?_
              refine j_il dX10_depthAt_71 rfl ?_
              refine j_azld (daI a (if up = true then k else 7 - k) u v) dX10_depthAt_73 rfl rfl rfl (by rw [cl_nI (by omega) (by omega) (by omega), hal]; unfold daI; first | rw [if_pos h27] | rw [if_neg h27, if_pos h43] | rw [if_neg h27, if_neg h43]) (daI_lt (by split <;> omega) hu hv) (by decide) ?_
              refine j_ifeq (tgt := 80) dX10_depthAt_74 (by decide) (fun h74 => ?_) (fun h74 => ?_)
              · refine j_incN_5 1 dX10_depthAt_80 rfl (by decide) rfl ?_
                refine j_goto (tgt := 3) dX10_depthAt_83 (by decide) ?_
                exact ih _ _ (fun j hj => by
                  rcases Nat.lt_or_ge j k with h | h
                  · exact hall j h
                  · rw [show j = k by omega]; exact decide_eq_false (fun q => q h74))
              · refine j_il dX10_depthAt_77 rfl ?_
                exact j_iret dX10_depthAt_79 rfl rfl (Nat.le_of_ble_eq_true rfl) (Nat.le_of_ble_eq_true rfl) ⟨by rw [fst8_t (by omega) hall (decide_eq_true h74)], rfl⟩
          · refine j_il dX10_depthAt_30 rfl ?_
            refine j_iln dX10_depthAt_32 rfl rfl ?_
            refine j_il dX10_depthAt_33 rfl ?_
            refine j_S3d mf_X10_cell ml_X10_180 dX10_depthAt_35 (Nat.le_of_ble_eq_true rfl) (Nat.le_of_ble_eq_true rfl) (Nat.le_of_ble_eq_true rfl) ⟨(Nat.le_of_ble_eq_true rfl), (Nat.le_of_ble_eq_true rfl)⟩ c_X10_cell ?_
            refine j_goto (tgt := 65) dX10_depthAt_38 (by decide) ?_
            refine j_ist_7 dX10_depthAt_65 (by decide) rfl ?_
            refine j_aln dX10_depthAt_67 rfl rfl ?_
            refine g_X10_21 dX10_depthAt_68 fl_X10_54 ?_
            refine j_il dX10_depthAt_71 rfl ?_
            refine j_azld (daI a (if up = true then k else 7 - k) u v) dX10_depthAt_73 rfl rfl rfl (by rw [cl_nI (by omega) (by omega) (by omega), hal]; unfold daI; first | rw [if_pos h27] | rw [if_neg h27, if_pos h43] | rw [if_neg h27, if_neg h43]) (daI_lt (by split <;> omega) hu hv) (by decide) ?_
            refine j_ifeq (tgt := 80) dX10_depthAt_74 (by decide) (fun h74 => ?_) (fun h74 => ?_)
            · refine j_incN_5 1 dX10_depthAt_80 rfl (by decide) rfl ?_
              refine j_goto (tgt := 3) dX10_depthAt_83 (by decide) ?_
              exact ih _ _ (fun j hj => by
                rcases Nat.lt_or_ge j k with h | h
                · exact hall j h
                · rw [show j = k by omega]; exact decide_eq_false (fun q => q h74))
            · refine j_il dX10_depthAt_77 rfl ?_
              exact j_iret dX10_depthAt_79 rfl rfl (Nat.le_of_ble_eq_true rfl) (Nat.le_of_ble_eq_true rfl) ⟨by rw [fst8_t (by omega) hall (decide_eq_true h74)], rfl⟩
  refine j_icN 0 dX10_depthAt_0 rfl ?_
  refine j_ist_5 dX10_depthAt_1 (by decide) rfl ?_
  exact K 0 (by omega) none none (fun j hj => absurd hj (by omega))
