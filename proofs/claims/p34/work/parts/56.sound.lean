/-! the law's sound: all is as it should be -/
theorem mf_L_sound : MfS yL_sound cL_sound 8 (some .boolean) 3 := ⟨⟨by decide +kernel, by decide +kernel, by decide +kernel⟩, (wg5 (i := 36) rfl rfl), (wg1 (i := 0) rfl rfl), (wg5 (i := 37) rfl rfl)⟩
set_option maxRecDepth 100000 in
set_option maxHeartbeats 8000000 in
theorem c_L_sound {l : Launch} {E : Ev} {M : Mm} (hl9 : l.stackTraces = false) (h0 : eN E = 0) {g cnt bar : Nat} {fr : Nat → Nat} {pc mc : Nat} (q : CI M g cnt bar fr pc mc) : Ct l E yL_sound cL_sound 8 (some .boolean) 9 400 2500 [.ref (eA E 0 0), .int (nI g), .int (nI cnt)] M (fun v M1 => v = some (.int 1) ∧ bfF M M1) := by
  refine Ct.of (own := RL) rfl [some (.ref (eA E 0 0)), some (.int (nI g)), some (.int (nI cnt)), none, none, none, none, none] (by decide) (Nat.le_of_ble_eq_true rfl) rfl ?_
  obtain ⟨hg, hc12, hbc, hb12, hpc, hmc⟩ := CI_b q
  refine j_two h0 ⟨(Nat.le_of_ble_eq_true rfl), (Nat.le_of_ble_eq_true rfl)⟩ rfl (fun a b ha hb0 => ?_)
  refine j_eq (ls' := [some (.ref (eA (exA E a b) 0 0)), some (.int (nI g)), some (.int (nI cnt)), some (.ref (eA (exA E a b) 14 0)), some (.ref (eA (exA E a b) 15 0)), none, none, none]) rfl rfl rfl ?_
  have hnse : NseR l (exA E a b) := nse_r hl9
  -- the last question
  have T : ∀ M', bfX M M' → ∀ (o5 o6 o7 : Option Value), Jd l (exA E a b) RL cL_sound 8 (some .boolean) [] (rmm 9 400 2500) (QfN E (fun v M1 => v = some (.int 1) ∧ bfF M M1) 400 2500) (350) (2200) 257 [some (.ref (eA (exA E a b) 0 0)), some (.int (nI g)), some (.int (nI cnt)), some (.ref (eA (exA E a b) 14 0)), some (.ref (eA (exA E a b) 15 0)), o5, o6, o7] [] M' := by
    intro M' hb o5 o6 o7
    refine j_aln dL_sound_257 rfl rfl ?_
    have q8 := (CI_bx hb q)
    refine j_V0g mf_X9_isSound ml_L_131 dL_sound_258 (Nat.le_of_ble_eq_true rfl) (Nat.le_of_ble_eq_true rfl) (Nat.le_of_ble_eq_true rfl) ⟨(Nat.le_of_ble_eq_true rfl), (Nat.le_of_ble_eq_true rfl)⟩ (by decide) rfl rfl (c_X9_isSound q8.1.1 q8.1.2.2.1 hbc hc12 (CI_row q8) (CI_kd q8) q8.2.2.2.2.2.2.2.1.1 hmc (CI_mt q8)) (fun v M8 h8 => ?_)
    obtain ⟨b8, s8, e8⟩ := h8
    rw [snd_ok q8 b8 s8] at e8
    subst e8
    refine j_ifeq (tgt := 268) dL_sound_261 (by decide) (fun h => absurd h (by decide)) (fun _ => ?_)
    refine j_ic (v := 1) dL_sound_264 (by decide) ?_
    refine j_goto (tgt := 269) dL_sound_265 (by decide) ?_
    exact j_iretS M h0 ha hb0 dL_sound_269 rfl (by decide) (Nat.le_of_ble_eq_true rfl) (Nat.le_of_ble_eq_true rfl) ⟨rfl, bx_rs (bx_tr hb (bx_of b8))⟩
  have T2 : ∀ M', bfX M M' → (∀ s, s < 6 → mI M' 14 s = nI (asN M bar s)) → ∀ (o7 : Option Value), Jd l (exA E a b) RL cL_sound 8 (some .boolean) [] (rmm 9 400 2500) (QfN E (fun v M1 => v = some (.int 1) ∧ bfF M M1) 400 2500) (2 + 8 * g) (18 + 48 * g) 178 [some (.ref (eA (exA E a b) 0 0)), some (.int (nI g)), some (.int (nI cnt)), some (.ref (eA (exA E a b) 14 0)), some (.ref (eA (exA E a b) 15 0)), some (.int (nI cnt)), some (.int (nI (fb_sm (asN M bar) 6))), o7] [] M' := by
    intro M' hb h14 o7
    refine j_wd (k' := 350) (n' := 2200) (by omega) (by omega) ?_
    have q8 := (CI_bx hb q)
    have hvol : voX M' bar = nI (fb_ct (cb (mL M' bar)) 512) := voX_n
    have hv5 := fb_ct_le (cb (mL M' bar)) 512
    have hpv := pc_vol (mL M' bar)
    have hp5 := pcX_le (mL M' bar)
    have harr : arX M' bar = nI (fb_sm (asN M bar) 6) := by unfold arX; rw [hb.2.2.1 bar (by omega)]; exact arX_n
    refine j_il dL_sound_178 rfl ?_
    refine j_iln dL_sound_180 rfl rfl ?_
    refine j_icneN (tgt := 268) dL_sound_181 (by decide) (by omega) (by omega) (fun h181 => ?_) (fun h181 => ?_)
    · exact absurd rfl h181
    · refine j_il dL_sound_184 rfl ?_
      refine j_aln dL_sound_186 rfl rfl ?_
      refine j_V0d mf_X9_area ml_L_118 dL_sound_187 (Nat.le_of_ble_eq_true rfl) (Nat.le_of_ble_eq_true rfl) (Nat.le_of_ble_eq_true rfl) ⟨(Nat.le_of_ble_eq_true rfl), (Nat.le_of_ble_eq_true rfl)⟩ (by first | assumption | decide | (simp only [nv] at *; omega)) rfl rfl (c_X9_area q8.1.2.2.1 hb12) ?_
      refine j_icne (tgt := 268) dL_sound_190 (by decide) (fun h190 => ?_) (fun h190 => ?_)
      · exact absurd harr.symm h190
      · refine j_aln dL_sound_193 rfl rfl ?_
        refine j_icN 0 dL_sound_194 rfl ?_
        refine j_xldN dL_sound_195 rfl rfl rfl (by decide) (by decide) ?_
        refine j_aln dL_sound_196 rfl rfl ?_
        refine j_icN 1 dL_sound_197 rfl ?_
        refine j_xldN dL_sound_198 rfl rfl rfl (by decide) (by decide) ?_
        refine j_icne (tgt := 268) dL_sound_199 (by decide) (fun h199 => ?_) (fun h199 => ?_)
        · exact absurd (by rw [h14 0 (by decide), h14 1 (by decide), (asN_2 (M := M) (bar := bar)).1]) h199
        · refine j_aln dL_sound_202 rfl rfl ?_
          refine j_icN 2 dL_sound_203 rfl ?_
          refine j_xldN dL_sound_204 rfl rfl rfl (by decide) (by decide) ?_
          refine j_aln dL_sound_205 rfl rfl ?_
          refine j_icN 3 dL_sound_206 rfl ?_
          refine j_xldN dL_sound_207 rfl rfl rfl (by decide) (by decide) ?_
          refine j_icne (tgt := 268) dL_sound_208 (by decide) (fun h208 => ?_) (fun h208 => ?_)
          · exact absurd (by rw [h14 2 (by decide), h14 3 (by decide), (asN_2 (M := M) (bar := bar)).2.1]) h208
          · refine j_aln dL_sound_211 rfl rfl ?_
            refine j_icN 4 dL_sound_212 rfl ?_
            refine j_xldN dL_sound_213 rfl rfl rfl (by decide) (by decide) ?_
            refine j_aln dL_sound_214 rfl rfl ?_
            refine j_icN 5 dL_sound_215 rfl ?_
            refine j_xldN dL_sound_216 rfl rfl rfl (by decide) (by decide) ?_
            refine j_icne (tgt := 268) dL_sound_217 (by decide) (fun h217 => ?_) (fun h217 => ?_)
            · exact absurd (by rw [h14 4 (by decide), h14 5 (by decide), (asN_2 (M := M) (bar := bar)).2.2]) h217
            · refine j_aln dL_sound_220 rfl rfl ?_
              refine j_V0d mf_X9_volume ml_L_114 dL_sound_221 (Nat.le_of_ble_eq_true rfl) (Nat.le_of_ble_eq_true rfl) (Nat.le_of_ble_eq_true rfl) ⟨(Nat.le_of_ble_eq_true rfl), (Nat.le_of_ble_eq_true rfl)⟩ (by first | assumption | decide | (simp only [nv] at *; omega)) rfl rfl (c_X9_volume q8.1.2.2.1 hb12) ?_
              refine j_si (v := 512) dL_sound_224 (by decide) ?_
              refine j_icgt (tgt := 268) dL_sound_227 (by decide) (fun h227 => ?_) (fun h227 => ?_)
              · exact absurd h227 (by show ¬ _ < voX M' bar; rw [hvol]; exact Int32.not_lt.mpr (nI_le (a := _) hv5 (by decide)))
              · refine j_aln dL_sound_230 rfl rfl ?_
                refine j_V0g mf_X9_bodies ml_L_128 dL_sound_231 (Nat.le_of_ble_eq_true rfl) (Nat.le_of_ble_eq_true rfl) (Nat.le_of_ble_eq_true rfl) ⟨(Nat.le_of_ble_eq_true rfl), (Nat.le_of_ble_eq_true rfl)⟩ (by decide) rfl rfl (c_X9_bodies q8.1.2.2.1 hb12) (fun v M8 h8 => ?_)
                obtain ⟨e8, R8, P8, hM8⟩ := h8
                subst e8
                have hb8 : bfX M M8 := by rw [hM8]; exact bx_tr hb (bx_of (bf_tr (bf_L (by decide) _) (bf_L (by decide) _)))
                have hv8 : voX M8 bar = nI (fb_ct (cb (mL M' bar)) 512) := by rw [← hvol]; unfold voX; rw [hb8.2.2.1 bar (by omega), hb.2.2.1 bar (by omega)]
                have q9 := CI_bx hb8 q
                rcases Nat.eq_zero_or_pos (pcX (mL M' bar)) with hz | hz
                · refine j_ifle (tgt := 241) dL_sound_234 (by decide) (fun h234 => ?_) (fun h234 => ?_)
                  · refine j_ic (v := 0) dL_sound_241 (by decide) ?_
                    refine j_aln dL_sound_242 rfl rfl ?_
                    refine j_V0d mf_X9_volume ml_L_114 dL_sound_243 (Nat.le_of_ble_eq_true rfl) (Nat.le_of_ble_eq_true rfl) (Nat.le_of_ble_eq_true rfl) ⟨(Nat.le_of_ble_eq_true rfl), (Nat.le_of_ble_eq_true rfl)⟩ (by first | assumption | decide | (simp only [nv] at *; omega)) rfl rfl (c_X9_volume q9.1.2.2.1 hb12) ?_
                    refine j_ifle (tgt := 253) dL_sound_246 (by decide) (fun h246 => ?_) (fun h246 => ?_)
                    · refine j_ic (v := 0) dL_sound_253 (by decide) ?_
                      refine j_icne (tgt := 268) dL_sound_254 (by decide) (fun h254 => ?_) (fun h254 => ?_)
                      · exact absurd rfl h254
                      · exact T M8 hb8 _ _ _
                    · exact absurd (by show voX M8 bar ≤ 0; rw [hv8, hpv.mp hz]; decide) h246
                  · exact absurd (by rw [hz]; decide) h234
                · refine j_ifle (tgt := 241) dL_sound_234 (by decide) (fun h234 => ?_) (fun h234 => ?_)
                  · exact absurd h234 (Int32.not_le.mpr (nI_lt hz (by omega)))
                  · refine j_ic (v := 1) dL_sound_237 (by decide) ?_
                    refine j_goto (tgt := 242) dL_sound_238 (by decide) ?_
                    refine j_aln dL_sound_242 rfl rfl ?_
                    refine j_V0d mf_X9_volume ml_L_114 dL_sound_243 (Nat.le_of_ble_eq_true rfl) (Nat.le_of_ble_eq_true rfl) (Nat.le_of_ble_eq_true rfl) ⟨(Nat.le_of_ble_eq_true rfl), (Nat.le_of_ble_eq_true rfl)⟩ (by first | assumption | decide | (simp only [nv] at *; omega)) rfl rfl (c_X9_volume q9.1.2.2.1 hb12) ?_
                    refine j_ifle (tgt := 253) dL_sound_246 (by decide) (fun h246 => ?_) (fun h246 => ?_)
                    · exact absurd h246 (by show ¬ voX M8 bar ≤ 0; rw [hv8]; exact Int32.not_le.mpr (nI_lt (Nat.pos_of_ne_zero fun z => by have := hpv.mpr z; omega) (by omega)))
                    · refine j_ic (v := 1) dL_sound_249 (by decide) ?_
                      refine j_goto (tgt := 254) dL_sound_250 (by decide) ?_
                      refine j_icne (tgt := 268) dL_sound_254 (by decide) (fun h254 => ?_) (fun h254 => ?_)
                      · exact absurd rfl h254
                      · exact T M8 hb8 _ _ _
  have K4 : ∀ k, k ≤ cnt → ∀ M', bfX M M' → (∀ s, s < 6 → mI M' 14 s = nI (asN M bar s)) → (∀ j, j < cnt → mI M' 15 j = nI 1) → Jd l (exA E a b) RL cL_sound 8 (some .boolean) [] (rmm 9 400 2500) (QfN E (fun v M1 => v = some (.int 1) ∧ bfF M M1) 400 2500) (2 + 8 * g) (18 + 48 * g) 155 [some (.ref (eA (exA E a b) 0 0)), some (.int (nI g)), some (.int (nI cnt)), some (.ref (eA (exA E a b) 14 0)), some (.ref (eA (exA E a b) 15 0)), some (.int (nI cnt)), some (.int (nI (fb_sm (asN M bar) 6))), some (.int (nI k))] [] M' := by
    refine up_to cnt _ ?_ (fun k hk ih => ?_)
    · intro M' hb h14 h15
      refine j_il dL_sound_155 rfl ?_
      refine j_iln dL_sound_157 rfl rfl ?_
      refine j_icgeN (tgt := 178) dL_sound_158 (by decide) (by omega) (by omega) (fun h158 => ?_) (fun h158 => ?_)
      · exact T2 M' hb h14 _
      · exact absurd (Nat.le_refl _) h158
    · intro M' hb h14 h15
      refine j_il dL_sound_155 rfl ?_
      refine j_iln dL_sound_157 rfl rfl ?_
      refine j_icgeN (tgt := 178) dL_sound_158 (by decide) (by omega) (by omega) (fun h158 => ?_) (fun h158 => ?_)
      · exact absurd h158 (by omega)
      · refine j_al dL_sound_161 rfl ?_
        refine j_il dL_sound_163 rfl ?_
        refine j_xldN dL_sound_165 rfl rfl rfl (by decide) (by omega) ?_
        refine j_topi (h15 k (by omega)) ?_
        refine j_icN 1 dL_sound_166 rfl ?_
        refine j_iceqN (tgt := 172) dL_sound_167 (by decide) (by omega) (by omega) (fun h167 => ?_) (fun h167 => ?_)
        · refine j_incN_7 1 dL_sound_172 rfl (by decide) rfl ?_
          refine j_goto (tgt := 155) dL_sound_175 (by decide) ?_
          exact ih M' hb h14 h15
        · exact absurd rfl h167
  have K3 : ∀ s, s ≤ 6 → ∀ M', bfX M M' → (∀ s, s < 6 → mI M' 14 s = nI (asN M bar s)) → (∀ j, j < cnt → mI M' 15 j = nI 1) → Jd l (exA E a b) RL cL_sound 8 (some .boolean) [] (rmm 9 400 2500) (QfN E (fun v M1 => v = some (.int 1) ∧ bfF M M1) 400 2500) (2 + 8 * g) (18 + 48 * g) 130 [some (.ref (eA (exA E a b) 0 0)), some (.int (nI g)), some (.int (nI cnt)), some (.ref (eA (exA E a b) 14 0)), some (.ref (eA (exA E a b) 15 0)), some (.int (nI cnt)), some (.int (nI (fb_sm (asN M bar) s))), some (.int (nI s))] [] M' := by
    refine up_to 6 _ ?_ (fun s hs ih => ?_)
    · intro M' hb h14 h15
      refine j_il dL_sound_130 rfl ?_
      refine j_biN 6 dL_sound_132 rfl ?_
      refine j_icgeN (tgt := 152) dL_sound_134 (by decide) (by omega) (by omega) (fun h134 => ?_) (fun h134 => ?_)
      · refine j_icN 0 dL_sound_152 rfl ?_
        refine j_ist_7 dL_sound_153 (by decide) rfl ?_
        exact K4 0 (by omega) M' hb h14 h15
      · exact absurd (Nat.le_refl _) h134
    · intro M' hb h14 h15
      refine j_il dL_sound_130 rfl ?_
      refine j_biN 6 dL_sound_132 rfl ?_
      refine j_icgeN (tgt := 152) dL_sound_134 (by decide) (by omega) (by omega) (fun h134 => ?_) (fun h134 => ?_)
      · exact absurd h134 (by omega)
      · refine j_il dL_sound_137 rfl ?_
        refine j_aln dL_sound_139 rfl rfl ?_
        refine j_il dL_sound_140 rfl ?_
        refine j_xldN dL_sound_142 rfl rfl rfl (by decide) (by omega) ?_
        refine j_topi (h14 s (by omega)) ?_
        refine j_iaddN dL_sound_143 ?_
        refine j_ist_6 dL_sound_144 (by decide) rfl ?_
        refine j_incN_7 1 dL_sound_146 rfl (by decide) rfl ?_
        refine j_goto (tgt := 130) dL_sound_149 (by decide) ?_
        exact ih M' hb h14 h15
  have K1 : ∀ i, i ≤ g → ∀ M', bfX M M' → (∀ s, s < 6 → mI M' 14 s = nI (fb_sm (sqN M bar s) i)) → (∀ j, j < 12 → mI M' 15 j = nI (atN M cnt i j)) → ∀ o7 : Option Value, Jd l (exA E a b) RL cL_sound 8 (some .boolean) [] (rmm 9 400 2500) (QfN E (fun v M1 => v = some (.int 1) ∧ bfF M M1) 400 2500) (2 + 8 * i) (18 + 48 * i) 17 [some (.ref (eA (exA E a b) 0 0)), some (.int (nI g)), some (.int (nI cnt)), some (.ref (eA (exA E a b) 14 0)), some (.ref (eA (exA E a b) 15 0)), some (.int (nI (inN M cnt i))), some (.int (nI i)), o7] [] M' := by
    refine up_to g _ ?_ (fun i hi ih => ?_)
    · intro M' hb h14 h15 o7
      have hin := in_c q
      refine j_il dL_sound_17 rfl ?_
      refine j_iln dL_sound_19 rfl rfl ?_
      refine j_icgeN (tgt := 124) dL_sound_20 (by decide) (by omega) (by omega) (fun h20 => ?_) (fun h20 => ?_)
      · refine j_icN 0 dL_sound_124 rfl ?_
        refine j_ist_6 dL_sound_125 (by decide) rfl ?_
        refine j_icN 0 dL_sound_127 rfl ?_
        refine j_ist_7 dL_sound_128 (by decide) rfl ?_
        have e := K3 0 (by omega) M' hb (fun s hs => by rw [h14 s hs, sum_sq q hs]) (fun j hj => by rw [h15 j (by omega), at_1 q hj])
        rw [in_c q]
        exact e
      · exact absurd (Nat.le_refl _) h20
    · intro M' hb h14 h15 o7
      have hlt : inN M cnt i ≤ i := fb_ct_le _ _
      have hat : ∀ j, atN M cnt i j ≤ i := fun j => fb_ct_le _ _
      have K2 : ∀ s, s ≤ 6 → ∀ M2, bfX M M2 → (∀ u, u < 6 → mI M2 14 u = nI (fb_sm (sqN M bar u) (if u < s then i + 1 else i))) → (∀ j, j < 12 → mI M2 15 j = nI (atN M cnt i j)) → Jd l (exA E a b) RL cL_sound 8 (some .boolean) [] (rmm 9 400 2500) (QfN E (fun v M1 => v = some (.int 1) ∧ bfF M M1) 400 2500) (2 + 8 * i + s) (18 + 48 * i + 6 * s) 26 [some (.ref (eA (exA E a b) 0 0)), some (.int (nI g)), some (.int (nI cnt)), some (.ref (eA (exA E a b) 14 0)), some (.ref (eA (exA E a b) 15 0)), some (.int (nI (inN M cnt i))), some (.int (nI i)), some (.int (nI s))] [] M2 := by
        refine up_to 6 _ ?_ (fun s hs ih2 => ?_)
        · intro M2 hb h14 h15
          have q8 := CI_bx hb q
          refine j_il dL_sound_26 rfl ?_
          refine j_biN 6 dL_sound_28 rfl ?_
          refine j_icgeN (tgt := 58) dL_sound_30 (by decide) (by omega) (by omega) (fun h30 => ?_) (fun h30 => ?_)
          · rcases row_or (cnt := cnt) (fr := fr) i with ⟨j, hj, hfj⟩ | hout
            · have hpl : plX M2 cnt (nI i) = nI j := by rw [← hfj]; exact plX_in q8 hj
              have h1 : inN M cnt (i + 1) = inN M cnt i + 1 := by unfold inN; rw [fb_ct_succ, ← plX_bx hb, hpl, if_pos (show decide (¬ nI j < 0) = true from decide_eq_true (nI_pos (by omega)))]
              have h2 : ∀ k, k < 12 → atN M cnt (i + 1) k = if k = j then atN M cnt i k + 1 else atN M cnt i k := fun k hk => by
                unfold atN
                rw [fb_ct_succ, ← plX_bx hb, hpl]
                by_cases c : k = j
                · rw [if_pos c, if_pos (show decide (nI j = nI k) = true from decide_eq_true (by rw [c]))]
                · rw [if_neg c, if_neg (show ¬ decide (nI j = nI k) = true from fun z => c ((nI_eq (by omega) (by omega)).mp (of_decide_eq_true z)).symm)]; rfl
              refine j_aln dL_sound_58 rfl rfl ?_
              refine j_biN 8 dL_sound_59 rfl ?_
              refine j_il dL_sound_61 rfl ?_
              refine j_icN 0 dL_sound_63 rfl ?_
              refine j_icN 0 dL_sound_64 rfl ?_
              refine j_icN 0 dL_sound_65 rfl ?_
              refine j_lcd (sp8 hl9 hnse q8) ⟨(Nat.le_of_ble_eq_true rfl), (Nat.le_of_ble_eq_true rfl)⟩ (Nat.le_of_ble_eq_true rfl) dL_sound_66 ⟨by show _ + 1 ≤ 400; omega, by show _ + 6 ≤ 2500; omega⟩ ?_
              refine j_topi hpl ?_
              refine j_ist_7 dL_sound_69 (by decide) rfl ?_
              refine j_il dL_sound_71 rfl ?_
              refine j_ifltN (tgt := 91) dL_sound_73 (by decide) (by omega) ?_
              refine j_incN_5 1 dL_sound_76 rfl (by decide) rfl ?_
              refine j_al dL_sound_79 rfl ?_
              refine j_il dL_sound_81 rfl ?_
              refine j_dup2 dL_sound_83 rfl rfl ?_
              refine j_xldN dL_sound_84 rfl rfl rfl (by decide) (by omega) ?_
              refine j_topi (h15 j (by omega)) ?_
              refine j_icN 1 dL_sound_85 rfl ?_
              refine j_iaddN dL_sound_86 ?_
              refine j_xstN dL_sound_87 rfl (fun _ => rfl) rfl (by decide) (by omega) ?_
              refine j_goto (tgt := 118) dL_sound_88 (by decide) ?_
              refine j_incN_6 1 dL_sound_118 rfl (by decide) rfl ?_
              refine j_goto (tgt := 17) dL_sound_121 (by decide) ?_
              have e := ih _ (bx_I (t := 15) hb (Or.inr rfl) (upd (mI M2 15) j (nI (atN M cnt i j + 1)))) (fun s hs => by rw [mI_sI, if_neg (by decide), h14 s hs, if_pos hs]) (fun k hk => by rw [mI_sI, if_pos rfl, upd_at, h2 k hk]; by_cases c : k = j; (· rw [if_pos c, if_pos c, c]); (· rw [if_neg c, if_neg c, h15 k hk])) (some (.int (nI j)))
              rw [h1] at e
              exact j_wd (by omega) (by omega) e
            · have hpl := plX_out q8 (show i < 40 by omega) hout
              have h1 : inN M cnt (i + 1) = inN M cnt i := by unfold inN; rw [fb_ct_succ, ← plX_bx hb, hpl.1]; rfl
              have h2 : ∀ k, k < 12 → atN M cnt (i + 1) k = atN M cnt i k := fun k hk => by
                unfold atN
                rw [fb_ct_succ, ← plX_bx hb, hpl.1, if_neg (show ¬ decide ((-1005 : Int32) = nI k) = true from fun z => absurd (show (-1005 : Int32) < 0 by decide) (by rw [of_decide_eq_true z]; exact nI_pos (by omega)))]; rfl
              refine j_aln dL_sound_58 rfl rfl ?_
              refine j_biN 8 dL_sound_59 rfl ?_
              refine j_il dL_sound_61 rfl ?_
              refine j_icN 0 dL_sound_63 rfl ?_
              refine j_icN 0 dL_sound_64 rfl ?_
              refine j_icN 0 dL_sound_65 rfl ?_
              refine j_lcd (sp8 hl9 hnse q8) ⟨(Nat.le_of_ble_eq_true rfl), (Nat.le_of_ble_eq_true rfl)⟩ (Nat.le_of_ble_eq_true rfl) dL_sound_66 ⟨by show _ + 1 ≤ 400; omega, by show _ + 6 ≤ 2500; omega⟩ ?_
              refine j_topi hpl.1 ?_
              refine j_ist_7 dL_sound_69 (by decide) rfl ?_
              refine j_il dL_sound_71 rfl ?_
              refine j_iflt (tgt := 91) dL_sound_73 (by decide) (fun h73 => ?_) (fun h73 => ?_)
              · refine j_il dL_sound_91 rfl ?_
                refine j_si (v := (-1005)) dL_sound_93 (by decide) ?_
                refine j_icne (tgt := 116) dL_sound_96 (by decide) (fun h96 => ?_) (fun h96 => ?_)
                · exact absurd rfl h96
                · refine j_aln dL_sound_99 rfl rfl ?_
                  refine j_biN 9 dL_sound_100 rfl ?_
                  refine j_il dL_sound_102 rfl ?_
                  refine j_icN 0 dL_sound_104 rfl ?_
                  refine j_icN 0 dL_sound_105 rfl ?_
                  refine j_icN 0 dL_sound_106 rfl ?_
                  refine j_lcd (sp9 hl9 hnse q8) ⟨(Nat.le_of_ble_eq_true rfl), (Nat.le_of_ble_eq_true rfl)⟩ (Nat.le_of_ble_eq_true rfl) dL_sound_107 ⟨by show _ + 1 ≤ 400; omega, by show _ + 6 ≤ 2500; omega⟩ ?_
                  refine j_topi hpl.2 ?_
                  refine j_si (v := (-1005)) dL_sound_110 (by decide) ?_
                  refine j_iceq (tgt := 118) dL_sound_113 (by decide) (fun h113 => ?_) (fun h113 => ?_)
                  · refine j_incN_6 1 dL_sound_118 rfl (by decide) rfl ?_
                    refine j_goto (tgt := 17) dL_sound_121 (by decide) ?_
                    have e := ih _ hb (fun s hs => by rw [h14 s hs, if_pos hs]) (fun k hk => by rw [h15 k hk, h2 k hk]) (some (.int (-1005)))
                    rw [h1] at e
                    exact j_wd (by omega) (by omega) e
                  · exact absurd rfl h113
              · exact absurd (by decide) h73
          · exact absurd (Nat.le_refl _) h30
        · intro M2 hb h14 h15
          have q8 := CI_bx hb q
          have hsz : ∀ f u, sqN M bar u f ≤ 512 := fun f u => fb_ct_le _ _
          refine j_il dL_sound_26 rfl ?_
          refine j_biN 6 dL_sound_28 rfl ?_
          refine j_icgeN (tgt := 58) dL_sound_30 (by decide) (by omega) (by omega) (fun h30 => ?_) (fun h30 => ?_)
          · exact absurd h30 (by omega)
          · refine j_aln dL_sound_33 rfl rfl ?_
            refine j_il dL_sound_34 rfl ?_
            refine j_dup2 dL_sound_36 rfl rfl ?_
            refine j_xldN dL_sound_37 rfl rfl rfl (by decide) (by omega) ?_
            refine j_topi ((h14 s (by omega)).trans (by rw [if_neg (Nat.lt_irrefl s)])) ?_
            refine j_aln dL_sound_38 rfl rfl ?_
            refine j_biN 13 dL_sound_39 rfl ?_
            refine j_il dL_sound_41 rfl ?_
            refine j_il dL_sound_43 rfl ?_
            refine j_icN 0 dL_sound_45 rfl ?_
            refine j_icN 0 dL_sound_46 rfl ?_
            refine j_lq (sp13 hl9 q8 (show i < 40 by omega) (show s < 6 by omega)) ⟨(Nat.le_of_ble_eq_true rfl), (Nat.le_of_ble_eq_true rfl)⟩ (Nat.le_of_ble_eq_true rfl) dL_sound_47 ⟨by show _ + 1 ≤ 400; omega, by show _ + 6 ≤ 2500; omega⟩ (fun v9 M9 hM9 => ?_)
            obtain ⟨eM9, hbM9⟩ := hM9
            subst eM9
            refine j_topi ((sqX_bx hb hb12 i s).trans (sqX_n (show i < 40 by omega) (show s < 6 by omega))) ?_
            refine j_iaddN dL_sound_50 ?_
            refine j_xstN dL_sound_51 rfl (fun _ => rfl) rfl (by decide) (by omega) ?_
            refine j_incN_7 1 dL_sound_52 rfl (by decide) rfl ?_
            refine j_goto (tgt := 26) dL_sound_55 (by decide) ?_
            have e := ih2 _ (bx_I (t := 14) (bx_tr hb (bx_of hbM9)) (Or.inl rfl) (upd (mI M9 14) s (nI (fb_sm (sqN M bar s) i + sqN M bar s i)))) (fun u hu => ?_) (fun k hk => by rw [mI_sI, if_neg (by decide), hbM9.1 15 (by decide)]; exact h15 k hk)
            · exact j_wd (by omega) (by omega) e
            · rw [mI_sI, if_pos rfl, upd_at]
              by_cases c : u = s
              · rw [if_pos c, if_pos (by omega), c, fb_sm_succ]
              · rw [if_neg c, hbM9.1 14 (by decide), h14 u hu]
                by_cases d : u < s
                · rw [if_pos d, if_pos (by omega)]
                · rw [if_neg d, if_neg (by omega)]
      refine j_il dL_sound_17 rfl ?_
      refine j_iln dL_sound_19 rfl rfl ?_
      refine j_icgeN (tgt := 124) dL_sound_20 (by decide) (by omega) (by omega) (fun h20 => ?_) (fun h20 => ?_)
      · exact absurd h20 (by omega)
      · refine j_icN 0 dL_sound_23 rfl ?_
        refine j_ist_7 dL_sound_24 (by decide) rfl ?_
        have e := K2 0 (by omega) M' hb (fun u hu => by rw [if_neg (Nat.not_lt_zero _)]; exact h14 u hu) h15
        exact e
  refine j_icN 0 dL_sound_11 rfl ?_
  refine j_ist_5 dL_sound_12 (by decide) rfl ?_
  refine j_icN 0 dL_sound_14 rfl ?_
  refine j_ist_6 dL_sound_15 (by decide) rfl ?_
  have e := K1 0 (by omega) (zzT M) (bx_zz M) (fun s hs => rfl) (fun j hj => rfl) none
  exact e
