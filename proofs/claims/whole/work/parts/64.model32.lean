/-! the model: lines -/
def dmD (M : Mm) (a : Nat) (up : Bool) (u v : Nat) : Nat := fst8 (dmp M a up u v)
def rmN (u v : Nat) : Nat := (if u = 0 then 1 else 0) + (if u = 7 then 1 else 0) + (if v = 0 then 1 else 0) + (if v = 7 then 1 else 0)
def lcN (D : Nat → Nat → Nat) (u v : Nat) : Nat := (if u < 7 ∧ ¬ D u v = D (u + 1) v then 1 else 0) + (if v < 7 ∧ ¬ D u v = D u (v + 1) then 1 else 0) + (if D u v < 8 then rmN u v else 0)
def lcV (D : Nat → Nat → Nat) (u : Nat) : Nat → Nat
  | 0 => 0
  | v + 1 => lcV D u v + lcN D u v
def lcU (D : Nat → Nat → Nat) : Nat → Nat
  | 0 => 0
  | u + 1 => lcU D u + lcV D u 8
theorem lcV_0 (D : Nat → Nat → Nat) (u : Nat) : lcV D u 0 = 0 := by rw [lcV]
theorem lcV_s (D : Nat → Nat → Nat) (u v : Nat) : lcV D u (v + 1) = lcV D u v + lcN D u v := by rw [lcV]
theorem lcU_0 (D : Nat → Nat → Nat) : lcU D 0 = 0 := by rw [lcU]
theorem lcU_s (D : Nat → Nat → Nat) (u : Nat) : lcU D (u + 1) = lcU D u + lcV D u 8 := by rw [lcU]
theorem rm_b (u v : Nat) : rmN u v ≤ 4 := by unfold rmN; (repeat' split) <;> omega
theorem lc_b (D : Nat → Nat → Nat) (u v : Nat) : lcN D u v ≤ 6 := by
  have := rm_b u v
  unfold lcN
  repeat' split
  all_goals omega
theorem lcV_b (D : Nat → Nat → Nat) (u v : Nat) : lcV D u v ≤ 6 * v := by
  induction v with
  | zero => rw [lcV_0]; omega
  | succ v ih => rw [lcV_s]; have := lc_b D u v; omega
theorem lcU_b (D : Nat → Nat → Nat) (u : Nat) : lcU D u ≤ 48 * u := by
  induction u with
  | zero => rw [lcU_0]; omega
  | succ u ih => rw [lcU_s]; have := lcV_b D u 8; omega
theorem fst8_b (p : Nat → Bool) : fst8 p ≤ 8 := by
  unfold fst8
  cases h : (List.range 8).find? p with
  | none => exact Nat.le_refl _
  | some k => have := List.mem_range.mp (List.mem_of_find?_eq_some h); exact Nat.le_of_lt this
set_option maxRecDepth 100000 in
set_option maxHeartbeats 4000000 in
theorem c_X10_lines {l : Launch} {E : Ev} {M : Mm} {x : Int32} {up : Bool}  : Ct l E yX10_lines cX10_lines 8 (some .int) 4 0 0 [.ref (eA E 12 0), .int x, .int (bI up)] M (fun v M1 => (in2 x = false ∧ v = some (.int (nI 0)) ∧ M1 = cdM (c0 M) (nI 1)) ∨ (in2 x = true ∧ v = some (.int (nI (lcU (dmD M (ntX x) up) 8))) ∧ M1 = c0 M)) := by
  refine Ct.of (own := RX10) rfl [some (.ref (eA E 12 0)), some (.int x), some (.int (bI up)), none, none, none, none, none] (by decide) (Nat.le_of_ble_eq_true rfl) rfl ?_
  refine j_aln dX10_lines_0 rfl rfl ?_
  refine j_icN 0 dX10_lines_1 rfl ?_
  refine p_X10_0 dX10_lines_2 fl_X10_96 ?_
  refine j_iln dX10_lines_5 rfl rfl ?_
  refine j_icN 0 dX10_lines_6 rfl ?_
  refine j_icN 2 dX10_lines_7 rfl ?_
  refine j_S3d mf_X10_in ml_X10_100 dX10_lines_8 (Nat.le_of_ble_eq_true rfl) (Nat.le_of_ble_eq_true rfl) (Nat.le_of_ble_eq_true rfl) ⟨(Nat.le_of_ble_eq_true rfl), (Nat.le_of_ble_eq_true rfl)⟩ c_X10_in ?_
  refine j_ifne (tgt := 20) dX10_lines_11 (by decide) (fun h11 => ?_) (fun h11 => ?_)
  · have hi : in2 x = true := bI_ne.mp h11
    obtain ⟨a, ha, hxa⟩ := in2_n hi
    subst hxa
    have hna : ntX (nI a) = a := ntX_nI (by omega)
    obtain ⟨w, hw⟩ : ∃ w, w = 8 := ⟨8, rfl⟩
    obtain ⟨s, hs⟩ : ∃ s, s = 8 := ⟨8, rfl⟩
    have KU : ∀ u, u ≤ w → ∀ (o5 o6 o7 : Option Value), Jd l E RX10 cX10_lines 8 (some .int) [] (rmm 4 0 0) (QfN E (fun v M1 => (in2 (nI a) = false ∧ v = some (.int (nI 0)) ∧ M1 = cdM (c0 M) (nI 1)) ∨ (in2 (nI a) = true ∧ v = some (.int (nI (lcU (dmD M (ntX (nI a)) up) 8))) ∧ M1 = c0 M)) 0 0) 0 0 25 [some (.ref (eA E 12 0)), some (.int (nI a)), some (.int (bI up)), some (.int (nI (lcU (dmD M a up) u))), some (.int (nI u)), o5, o6, o7] [] (c0 M) := by
      refine up_to w _ ?_ (fun u hu9 ihu => ?_)
      · intro o5 o6 o7
        refine j_il dX10_lines_25 rfl ?_
        refine j_biN 8 dX10_lines_27 rfl ?_
        refine j_icgeN (tgt := 195) dX10_lines_29 (by decide) (by omega) (by omega) (fun h29 => ?_) (fun h29 => ?_)
        · refine j_iln dX10_lines_195 rfl rfl ?_
          exact j_iret dX10_lines_196 rfl rfl (Nat.le_of_ble_eq_true rfl) (Nat.le_of_ble_eq_true rfl) (Or.inr ⟨hi, by rw [hna, hw], rfl⟩)
        · exact absurd (Nat.le_of_eq hw.symm) h29
      · intro o5 o6 o7
        have hu : u < 8 := by omega
        have KV : ∀ v, v ≤ s → ∀ (o6 o7 : Option Value), Jd l E RX10 cX10_lines 8 (some .int) [] (rmm 4 0 0) (QfN E (fun v M1 => (in2 (nI a) = false ∧ v = some (.int (nI 0)) ∧ M1 = cdM (c0 M) (nI 1)) ∨ (in2 (nI a) = true ∧ v = some (.int (nI (lcU (dmD M (ntX (nI a)) up) 8))) ∧ M1 = c0 M)) 0 0) 0 0 35 [some (.ref (eA E 12 0)), some (.int (nI a)), some (.int (bI up)), some (.int (nI (lcU (dmD M a up) u + lcV (dmD M a up) u v))), some (.int (nI u)), some (.int (nI v)), o6, o7] [] (c0 M) := by
          refine up_to s _ ?_ (fun v hv9 ihv => ?_)
          · intro o6 o7
            refine j_il dX10_lines_35 rfl ?_
            refine j_biN 8 dX10_lines_37 rfl ?_
            refine j_icgeN (tgt := 189) dX10_lines_39 (by decide) (by omega) (by omega) (fun h39 => ?_) (fun h39 => ?_)
            · refine j_incN_4 1 dX10_lines_189 rfl (by decide) rfl ?_
              refine j_goto (tgt := 25) dX10_lines_192 (by decide) ?_
              have ihe := ihu (some (.int (nI s))) o6 o7
              rw [lcU_s] at ihe
              rw [hs] at ihe ⊢
              exact ihe
            · exact absurd (Nat.le_of_eq hs.symm) h39
          · have hv : v < 8 := by omega
            have hbu := lcU_b (dmD M a up) u
            have hbv := lcV_b (dmD M a up) u v
            have hdb : (dmD M a up) u v ≤ 8 := fst8_b _
            have T165 : ∀ (N : Nat) (o7 : Option Value), N + (if (dmD M a up) u v < 8 then rmN u v else 0) = lcU (dmD M a up) u + lcV (dmD M a up) u (v + 1) → Jd l E RX10 cX10_lines 8 (some .int) [] (rmm 4 0 0) (QfN E (fun v M1 => (in2 (nI a) = false ∧ v = some (.int (nI 0)) ∧ M1 = cdM (c0 M) (nI 1)) ∨ (in2 (nI a) = true ∧ v = some (.int (nI (lcU (dmD M (ntX (nI a)) up) 8))) ∧ M1 = c0 M)) 0 0) 0 0 165 [some (.ref (eA E 12 0)), some (.int (nI a)), some (.int (bI up)), some (.int (nI N)), some (.int (nI u)), some (.int (nI v)), some (.int (nI ((dmD M a up) u v))), o7] [.int (nI (rmN u v))] (c0 M) := by
              intro N o7 hN
              refine j_ist_7 dX10_lines_165 (by decide) rfl ?_
              refine j_iln dX10_lines_167 rfl rfl ?_
              refine j_il dX10_lines_168 rfl ?_
              refine j_biN 8 dX10_lines_170 rfl ?_
              refine j_icgeN (tgt := 180) dX10_lines_172 (by decide) (by omega) (by omega) (fun h172 => ?_) (fun h172 => ?_)
              · have hz : (if (dmD M a up) u v < 8 then rmN u v else 0) = 0 := if_neg (by omega)
                refine j_icN 0 dX10_lines_180 rfl ?_
                refine j_iaddN dX10_lines_181 ?_
                refine j_ist_3 dX10_lines_182 (by decide) rfl ?_
                refine j_incN_5 1 dX10_lines_183 rfl (by decide) rfl ?_
                refine j_goto (tgt := 35) dX10_lines_186 (by decide) ?_
                rw [hz] at hN
                refine j_eq (congrArg (fun q => [_, _, _, some (Value.int (nI q)), _, _, _, _]) hN) rfl rfl ?_
                exact ihv _ _
              · have hz : (if (dmD M a up) u v < 8 then rmN u v else 0) = rmN u v := if_pos (by omega)
                refine j_il dX10_lines_175 rfl ?_
                refine j_goto (tgt := 181) dX10_lines_177 (by decide) ?_
                refine j_iaddN dX10_lines_181 ?_
                refine j_ist_3 dX10_lines_182 (by decide) rfl ?_
                refine j_incN_5 1 dX10_lines_183 rfl (by decide) rfl ?_
                refine j_goto (tgt := 35) dX10_lines_186 (by decide) ?_
                rw [hz] at hN
                refine j_eq (congrArg (fun q => [_, _, _, some (Value.int (nI q)), _, _, _, _]) hN) rfl rfl ?_
                exact ihv _ _
            have T118 : ∀ (N : Nat) (o7 : Option Value), N + (if (dmD M a up) u v < 8 then rmN u v else 0) = lcU (dmD M a up) u + lcV (dmD M a up) u (v + 1) → Jd l E RX10 cX10_lines 8 (some .int) [] (rmm 4 0 0) (QfN E (fun v M1 => (in2 (nI a) = false ∧ v = some (.int (nI 0)) ∧ M1 = cdM (c0 M) (nI 1)) ∨ (in2 (nI a) = true ∧ v = some (.int (nI (lcU (dmD M (ntX (nI a)) up) 8))) ∧ M1 = c0 M)) 0 0) 0 0 118 [some (.ref (eA E 12 0)), some (.int (nI a)), some (.int (bI up)), some (.int (nI N)), some (.int (nI u)), some (.int (nI v)), some (.int (nI ((dmD M a up) u v))), o7] [] (c0 M) := by
              intro N o7 hN
              refine j_il dX10_lines_118 rfl ?_
              refine j_ifneN (tgt := 127) dX10_lines_120 (by decide) (by omega) (fun h120 => ?_) (fun h120 => ?_)
              · refine j_icN 0 dX10_lines_127 rfl ?_
                refine j_il dX10_lines_128 rfl ?_
                refine j_biN 7 dX10_lines_130 rfl ?_
                refine j_icneN (tgt := 139) dX10_lines_132 (by decide) (by omega) (by omega) (fun h132 => ?_) (fun h132 => ?_)
                · refine j_icN 0 dX10_lines_139 rfl ?_
                  refine j_iaddN dX10_lines_140 ?_
                  refine j_il dX10_lines_141 rfl ?_
                  refine j_ifneN (tgt := 150) dX10_lines_143 (by decide) (by omega) (fun h143 => ?_) (fun h143 => ?_)
                  · refine j_icN 0 dX10_lines_150 rfl ?_
                    refine j_iaddN dX10_lines_151 ?_
                    refine j_il dX10_lines_152 rfl ?_
                    refine j_biN 7 dX10_lines_154 rfl ?_
                    refine j_icneN (tgt := 163) dX10_lines_156 (by decide) (by omega) (by omega) (fun h156 => ?_) (fun h156 => ?_)
                    · refine j_icN 0 dX10_lines_163 rfl ?_
                      refine j_iaddN dX10_lines_164 ?_
                      refine j_eq rfl (congrArg (fun q => [Value.int (nI q)]) (show _ = rmN u v from (by unfold rmN; (repeat' split) <;> omega))) rfl ?_
                      exact T165 _ _ hN
                    · refine j_icN 1 dX10_lines_159 rfl ?_
                      refine j_goto (tgt := 164) dX10_lines_160 (by decide) ?_
                      refine j_iaddN dX10_lines_164 ?_
                      refine j_eq rfl (congrArg (fun q => [Value.int (nI q)]) (show _ = rmN u v from (by unfold rmN; (repeat' split) <;> omega))) rfl ?_
                      exact T165 _ _ hN
                  · refine j_icN 1 dX10_lines_146 rfl ?_
                    refine j_goto (tgt := 151) dX10_lines_147 (by decide) ?_
                    refine j_iaddN dX10_lines_151 ?_
                    refine j_il dX10_lines_152 rfl ?_
                    refine j_biN 7 dX10_lines_154 rfl ?_
                    refine j_icneN (tgt := 163) dX10_lines_156 (by decide) (by omega) (by omega) (fun h156 => ?_) (fun h156 => ?_)
                    · refine j_icN 0 dX10_lines_163 rfl ?_
                      refine j_iaddN dX10_lines_164 ?_
                      refine j_eq rfl (congrArg (fun q => [Value.int (nI q)]) (show _ = rmN u v from (by unfold rmN; (repeat' split) <;> omega))) rfl ?_
                      exact T165 _ _ hN
                    · refine j_icN 1 dX10_lines_159 rfl ?_
                      refine j_goto (tgt := 164) dX10_lines_160 (by decide) ?_
                      refine j_iaddN dX10_lines_164 ?_
                      refine j_eq rfl (congrArg (fun q => [Value.int (nI q)]) (show _ = rmN u v from (by unfold rmN; (repeat' split) <;> omega))) rfl ?_
                      exact T165 _ _ hN
                · refine j_icN 1 dX10_lines_135 rfl ?_
                  refine j_goto (tgt := 140) dX10_lines_136 (by decide) ?_
                  refine j_iaddN dX10_lines_140 ?_
                  refine j_il dX10_lines_141 rfl ?_
                  refine j_ifneN (tgt := 150) dX10_lines_143 (by decide) (by omega) (fun h143 => ?_) (fun h143 => ?_)
                  · refine j_icN 0 dX10_lines_150 rfl ?_
                    refine j_iaddN dX10_lines_151 ?_
                    refine j_il dX10_lines_152 rfl ?_
                    refine j_biN 7 dX10_lines_154 rfl ?_
                    refine j_icneN (tgt := 163) dX10_lines_156 (by decide) (by omega) (by omega) (fun h156 => ?_) (fun h156 => ?_)
                    · refine j_icN 0 dX10_lines_163 rfl ?_
                      refine j_iaddN dX10_lines_164 ?_
                      refine j_eq rfl (congrArg (fun q => [Value.int (nI q)]) (show _ = rmN u v from (by unfold rmN; (repeat' split) <;> omega))) rfl ?_
                      exact T165 _ _ hN
                    · refine j_icN 1 dX10_lines_159 rfl ?_
                      refine j_goto (tgt := 164) dX10_lines_160 (by decide) ?_
                      refine j_iaddN dX10_lines_164 ?_
                      refine j_eq rfl (congrArg (fun q => [Value.int (nI q)]) (show _ = rmN u v from (by unfold rmN; (repeat' split) <;> omega))) rfl ?_
                      exact T165 _ _ hN
                  · refine j_icN 1 dX10_lines_146 rfl ?_
                    refine j_goto (tgt := 151) dX10_lines_147 (by decide) ?_
                    refine j_iaddN dX10_lines_151 ?_
                    refine j_il dX10_lines_152 rfl ?_
                    refine j_biN 7 dX10_lines_154 rfl ?_
                    refine j_icneN (tgt := 163) dX10_lines_156 (by decide) (by omega) (by omega) (fun h156 => ?_) (fun h156 => ?_)
                    · refine j_icN 0 dX10_lines_163 rfl ?_
                      refine j_iaddN dX10_lines_164 ?_
                      refine j_eq rfl (congrArg (fun q => [Value.int (nI q)]) (show _ = rmN u v from (by unfold rmN; (repeat' split) <;> omega))) rfl ?_
                      exact T165 _ _ hN
                    · refine j_icN 1 dX10_lines_159 rfl ?_
                      refine j_goto (tgt := 164) dX10_lines_160 (by decide) ?_
                      refine j_iaddN dX10_lines_164 ?_
                      refine j_eq rfl (congrArg (fun q => [Value.int (nI q)]) (show _ = rmN u v from (by unfold rmN; (repeat' split) <;> omega))) rfl ?_
                      exact T165 _ _ hN
              · refine j_icN 1 dX10_lines_123 rfl ?_
                refine j_goto (tgt := 128) dX10_lines_124 (by decide) ?_
                refine j_il dX10_lines_128 rfl ?_
                refine j_biN 7 dX10_lines_130 rfl ?_
                refine j_icneN (tgt := 139) dX10_lines_132 (by decide) (by omega) (by omega) (fun h132 => ?_) (fun h132 => ?_)
                · refine j_icN 0 dX10_lines_139 rfl ?_
                  refine j_iaddN dX10_lines_140 ?_
                  refine j_il dX10_lines_141 rfl ?_
                  refine j_ifneN (tgt := 150) dX10_lines_143 (by decide) (by omega) (fun h143 => ?_) (fun h143 => ?_)
                  · refine j_icN 0 dX10_lines_150 rfl ?_
                    refine j_iaddN dX10_lines_151 ?_
                    refine j_il dX10_lines_152 rfl ?_
                    refine j_biN 7 dX10_lines_154 rfl ?_
                    refine j_icneN (tgt := 163) dX10_lines_156 (by decide) (by omega) (by omega) (fun h156 => ?_) (fun h156 => ?_)
                    · refine j_icN 0 dX10_lines_163 rfl ?_
                      refine j_iaddN dX10_lines_164 ?_
                      refine j_eq rfl (congrArg (fun q => [Value.int (nI q)]) (show _ = rmN u v from (by unfold rmN; (repeat' split) <;> omega))) rfl ?_
                      exact T165 _ _ hN
                    · refine j_icN 1 dX10_lines_159 rfl ?_
                      refine j_goto (tgt := 164) dX10_lines_160 (by decide) ?_
                      refine j_iaddN dX10_lines_164 ?_
                      refine j_eq rfl (congrArg (fun q => [Value.int (nI q)]) (show _ = rmN u v from (by unfold rmN; (repeat' split) <;> omega))) rfl ?_
                      exact T165 _ _ hN
                  · refine j_icN 1 dX10_lines_146 rfl ?_
                    refine j_goto (tgt := 151) dX10_lines_147 (by decide) ?_
                    refine j_iaddN dX10_lines_151 ?_
                    refine j_il dX10_lines_152 rfl ?_
                    refine j_biN 7 dX10_lines_154 rfl ?_
                    refine j_icneN (tgt := 163) dX10_lines_156 (by decide) (by omega) (by omega) (fun h156 => ?_) (fun h156 => ?_)
                    · refine j_icN 0 dX10_lines_163 rfl ?_
                      refine j_iaddN dX10_lines_164 ?_
                      refine j_eq rfl (congrArg (fun q => [Value.int (nI q)]) (show _ = rmN u v from (by unfold rmN; (repeat' split) <;> omega))) rfl ?_
                      exact T165 _ _ hN
                    · refine j_icN 1 dX10_lines_159 rfl ?_
                      refine j_goto (tgt := 164) dX10_lines_160 (by decide) ?_
                      refine j_iaddN dX10_lines_164 ?_
                      refine j_eq rfl (congrArg (fun q => [Value.int (nI q)]) (show _ = rmN u v from (by unfold rmN; (repeat' split) <;> omega))) rfl ?_
                      exact T165 _ _ hN
                · refine j_icN 1 dX10_lines_135 rfl ?_
                  refine j_goto (tgt := 140) dX10_lines_136 (by decide) ?_
                  refine j_iaddN dX10_lines_140 ?_
                  refine j_il dX10_lines_141 rfl ?_
                  refine j_ifneN (tgt := 150) dX10_lines_143 (by decide) (by omega) (fun h143 => ?_) (fun h143 => ?_)
                  · refine j_icN 0 dX10_lines_150 rfl ?_
                    refine j_iaddN dX10_lines_151 ?_
                    refine j_il dX10_lines_152 rfl ?_
                    refine j_biN 7 dX10_lines_154 rfl ?_
                    refine j_icneN (tgt := 163) dX10_lines_156 (by decide) (by omega) (by omega) (fun h156 => ?_) (fun h156 => ?_)
                    · refine j_icN 0 dX10_lines_163 rfl ?_
                      refine j_iaddN dX10_lines_164 ?_
                      refine j_eq rfl (congrArg (fun q => [Value.int (nI q)]) (show _ = rmN u v from (by unfold rmN; (repeat' split) <;> omega))) rfl ?_
                      exact T165 _ _ hN
                    · refine j_icN 1 dX10_lines_159 rfl ?_
                      refine j_goto (tgt := 164) dX10_lines_160 (by decide) ?_
                      refine j_iaddN dX10_lines_164 ?_
                      refine j_eq rfl (congrArg (fun q => [Value.int (nI q)]) (show _ = rmN u v from (by unfold rmN; (repeat' split) <;> omega))) rfl ?_
                      exact T165 _ _ hN
                  · refine j_icN 1 dX10_lines_146 rfl ?_
                    refine j_goto (tgt := 151) dX10_lines_147 (by decide) ?_
                    refine j_iaddN dX10_lines_151 ?_
                    refine j_il dX10_lines_152 rfl ?_
                    refine j_biN 7 dX10_lines_154 rfl ?_
                    refine j_icneN (tgt := 163) dX10_lines_156 (by decide) (by omega) (by omega) (fun h156 => ?_) (fun h156 => ?_)
                    · refine j_icN 0 dX10_lines_163 rfl ?_
                      refine j_iaddN dX10_lines_164 ?_
                      refine j_eq rfl (congrArg (fun q => [Value.int (nI q)]) (show _ = rmN u v from (by unfold rmN; (repeat' split) <;> omega))) rfl ?_
                      exact T165 _ _ hN
                    · refine j_icN 1 dX10_lines_159 rfl ?_
                      refine j_goto (tgt := 164) dX10_lines_160 (by decide) ?_
                      refine j_iaddN dX10_lines_164 ?_
                      refine j_eq rfl (congrArg (fun q => [Value.int (nI q)]) (show _ = rmN u v from (by unfold rmN; (repeat' split) <;> omega))) rfl ?_
                      exact T165 _ _ hN
            have T86 : ∀ (N : Nat) (o7 : Option Value), N + (if v < 7 ∧ ¬ (dmD M a up) u v = (dmD M a up) u (v + 1) then 1 else 0) + (if (dmD M a up) u v < 8 then rmN u v else 0) = lcU (dmD M a up) u + lcV (dmD M a up) u (v + 1) → Jd l E RX10 cX10_lines 8 (some .int) [] (rmm 4 0 0) (QfN E (fun v M1 => (in2 (nI a) = false ∧ v = some (.int (nI 0)) ∧ M1 = cdM (c0 M) (nI 1)) ∨ (in2 (nI a) = true ∧ v = some (.int (nI (lcU (dmD M (ntX (nI a)) up) 8))) ∧ M1 = c0 M)) 0 0) 0 0 86 [some (.ref (eA E 12 0)), some (.int (nI a)), some (.int (bI up)), some (.int (nI N)), some (.int (nI u)), some (.int (nI v)), some (.int (nI ((dmD M a up) u v))), o7] [] (c0 M) := by
              intro N o7 hN
              have hd8 : (dmD M a up) u v ≤ 8 := fst8_b _
              have hd9 : (dmD M a up) u (v + 1) ≤ 8 := fst8_b _
              have hd7 : dmD (c0 M) a up u (v + 1) ≤ 8 := fst8_b _
              have hd6 : fst8 (dmp (c0 M) a up u (v + 1)) ≤ 8 := fst8_b _
              refine j_iln dX10_lines_86 rfl rfl ?_
              refine j_il dX10_lines_87 rfl ?_
              refine j_biN 7 dX10_lines_89 rfl ?_
              refine j_icgeN (tgt := 115) dX10_lines_91 (by decide) (by omega) (by omega) (fun h91 => ?_) (fun h91 => ?_)
              · have hc2 : (if v < 7 ∧ ¬ (dmD M a up) u v = (dmD M a up) u (v + 1) then 1 else 0) = 0 := if_neg (by omega)
                refine j_icN 0 dX10_lines_115 rfl ?_
                refine j_iaddN dX10_lines_116 ?_
                refine j_ist_3 dX10_lines_117 (by decide) rfl ?_
                rw [hc2] at hN
                exact T118 _ _ hN
              · refine j_il dX10_lines_94 rfl ?_
                refine j_aln dX10_lines_96 rfl rfl ?_
                refine j_iln dX10_lines_97 rfl rfl ?_
                refine j_iln dX10_lines_98 rfl rfl ?_
                refine j_il dX10_lines_99 rfl ?_
                refine j_il dX10_lines_101 rfl ?_
                refine j_icN 1 dX10_lines_103 rfl ?_
                refine j_iaddN dX10_lines_104 ?_
                refine j_V4d mf_X10_depthAt ml_X10_249 dX10_lines_105 (Nat.le_of_ble_eq_true rfl) (Nat.le_of_ble_eq_true rfl) (Nat.le_of_ble_eq_true rfl) ⟨(Nat.le_of_ble_eq_true rfl), (Nat.le_of_ble_eq_true rfl)⟩ (by first | assumption | decide | (simp only [nv] at *; omega)) rfl rfl (c_X10_depthAt (M := c0 M) ha hu (show v + 1 < 8 by omega)) ?_
                refine j_iceqN (tgt := 115) dX10_lines_108 (by decide) (by omega) (by omega) (fun h108 => ?_) (fun h108 => ?_)
                · have h9 : (dmD M a up) u v = (dmD M a up) u (v + 1) := h108
                  have hc2 : (if v < 7 ∧ ¬ (dmD M a up) u v = (dmD M a up) u (v + 1) then 1 else 0) = 0 := if_neg (fun q => q.2 h9)
                  refine j_icN 0 dX10_lines_115 rfl ?_
                  refine j_iaddN dX10_lines_116 ?_
                  refine j_ist_3 dX10_lines_117 (by decide) rfl ?_
                  rw [hc2] at hN
                  exact T118 _ _ hN
                · have h9 : ¬ (dmD M a up) u v = (dmD M a up) u (v + 1) := h108
                  have hc2 : (if v < 7 ∧ ¬ (dmD M a up) u v = (dmD M a up) u (v + 1) then 1 else 0) = 1 := if_pos ⟨by omega, h9⟩
                  refine j_icN 1 dX10_lines_111 rfl ?_
                  refine j_goto (tgt := 116) dX10_lines_112 (by decide) ?_
                  refine j_iaddN dX10_lines_116 ?_
                  refine j_ist_3 dX10_lines_117 (by decide) rfl ?_
                  rw [hc2] at hN
                  exact T118 _ _ hN
            intro o6 o7
            have hd5 : fst8 (dmp (c0 M) a up (u + 1) v) ≤ 8 := fst8_b _
            have hd4 : fst8 (dmp (c0 M) a up u v) ≤ 8 := fst8_b _
            refine j_il dX10_lines_35 rfl ?_
            refine j_biN 8 dX10_lines_37 rfl ?_
            refine j_icgeN (tgt := 189) dX10_lines_39 (by decide) (by omega) (by omega) (fun h39 => ?_) (fun h39 => ?_)
            · exact absurd h39 (by omega)
            · refine j_aln dX10_lines_42 rfl rfl ?_
              refine j_iln dX10_lines_43 rfl rfl ?_
              refine j_iln dX10_lines_44 rfl rfl ?_
              refine j_il dX10_lines_45 rfl ?_
              refine j_il dX10_lines_47 rfl ?_
              refine j_V4d mf_X10_depthAt ml_X10_249 dX10_lines_49 (Nat.le_of_ble_eq_true rfl) (Nat.le_of_ble_eq_true rfl) (Nat.le_of_ble_eq_true rfl) ⟨(Nat.le_of_ble_eq_true rfl), (Nat.le_of_ble_eq_true rfl)⟩ (by first | assumption | decide | (simp only [nv] at *; omega)) rfl rfl (c_X10_depthAt (M := c0 M) ha hu hv) ?_
              refine j_ist_6 dX10_lines_52 (by decide) rfl ?_
              refine j_iln dX10_lines_54 rfl rfl ?_
              refine j_il dX10_lines_55 rfl ?_
              refine j_biN 7 dX10_lines_57 rfl ?_
              refine j_icgeN (tgt := 83) dX10_lines_59 (by decide) (by omega) (by omega) (fun h59 => ?_) (fun h59 => ?_)
              · have hc1 : (if u < 7 ∧ ¬ (dmD M a up) u v = (dmD M a up) (u + 1) v then 1 else 0) = 0 := if_neg (by omega)
                refine j_icN 0 dX10_lines_83 rfl ?_
                refine j_iaddN dX10_lines_84 ?_
                refine j_ist_3 dX10_lines_85 (by decide) rfl ?_
                exact T86 _ _ (by rw [lcV_s]; unfold lcN; rw [hc1]; omega)
              · refine j_il dX10_lines_62 rfl ?_
                refine j_aln dX10_lines_64 rfl rfl ?_
                refine j_iln dX10_lines_65 rfl rfl ?_
                refine j_iln dX10_lines_66 rfl rfl ?_
                refine j_il dX10_lines_67 rfl ?_
                refine j_icN 1 dX10_lines_69 rfl ?_
                refine j_iaddN dX10_lines_70 ?_
                refine j_il dX10_lines_71 rfl ?_
                refine j_V4d mf_X10_depthAt ml_X10_249 dX10_lines_73 (Nat.le_of_ble_eq_true rfl) (Nat.le_of_ble_eq_true rfl) (Nat.le_of_ble_eq_true rfl) ⟨(Nat.le_of_ble_eq_true rfl), (Nat.le_of_ble_eq_true rfl)⟩ (by first | assumption | decide | (simp only [nv] at *; omega)) rfl rfl (c_X10_depthAt (M := c0 M) ha (show u + 1 < 8 by omega) hv) ?_
                refine j_iceqN (tgt := 83) dX10_lines_76 (by decide) (by omega) (by omega) (fun h76 => ?_) (fun h76 => ?_)
                · have h9 : (dmD M a up) u v = (dmD M a up) (u + 1) v := h76
                  have hc1 : (if u < 7 ∧ ¬ (dmD M a up) u v = (dmD M a up) (u + 1) v then 1 else 0) = 0 := if_neg (fun q => q.2 h9)
                  refine j_icN 0 dX10_lines_83 rfl ?_
                  refine j_iaddN dX10_lines_84 ?_
                  refine j_ist_3 dX10_lines_85 (by decide) rfl ?_
                  exact T86 _ _ (by rw [lcV_s]; unfold lcN; rw [hc1]; omega)
                · have h9 : ¬ (dmD M a up) u v = (dmD M a up) (u + 1) v := h76
                  have hc1 : (if u < 7 ∧ ¬ (dmD M a up) u v = (dmD M a up) (u + 1) v then 1 else 0) = 1 := if_pos ⟨by omega, h9⟩
                  refine j_icN 1 dX10_lines_79 rfl ?_
                  refine j_goto (tgt := 84) dX10_lines_80 (by decide) ?_
                  refine j_iaddN dX10_lines_84 ?_
                  refine j_ist_3 dX10_lines_85 (by decide) rfl ?_
                  exact T86 _ _ (by rw [lcV_s]; unfold lcN; rw [hc1]; omega)
        refine j_il dX10_lines_25 rfl ?_
        refine j_biN 8 dX10_lines_27 rfl ?_
        refine j_icgeN (tgt := 195) dX10_lines_29 (by decide) (by omega) (by omega) (fun h29 => ?_) (fun h29 => ?_)
        · exact absurd h29 (by omega)
        · refine j_icN 0 dX10_lines_32 rfl ?_
          refine j_ist_5 dX10_lines_33 (by decide) rfl ?_
          have K0 := KV 0 (by omega) o6 o7
          rw [lcV_0] at K0
          exact K0
    refine j_icN 0 dX10_lines_20 rfl ?_
    refine j_ist_3 dX10_lines_21 (by decide) rfl ?_
    refine j_icN 0 dX10_lines_22 rfl ?_
    refine j_ist_4 dX10_lines_23 (by decide) rfl ?_
    have K0 := KU 0 (by omega) none none none
    rw [lcU_0] at K0
    exact K0
  · have hi : in2 x = false := bI_eq.mp h11
    refine j_aln dX10_lines_14 rfl rfl ?_
    refine j_icN 1 dX10_lines_15 rfl ?_
    refine j_V1d mf_X10_fails ml_X10_112 dX10_lines_16 (Nat.le_of_ble_eq_true rfl) (Nat.le_of_ble_eq_true rfl) (Nat.le_of_ble_eq_true rfl) ⟨(Nat.le_of_ble_eq_true rfl), (Nat.le_of_ble_eq_true rfl)⟩ (by first | assumption | decide | (simp only [nv] at *; omega)) rfl rfl c_X10_fails ?_
    exact j_iret dX10_lines_19 rfl rfl (Nat.le_of_ble_eq_true rfl) (Nat.le_of_ble_eq_true rfl) (Or.inl ⟨hi, rfl, rfl⟩)
