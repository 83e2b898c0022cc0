/-! the model: marks, Euler count -/
theorem j_S6d {l : Launch} {E : Ev} {own : String} {cc : ByteArray} {nL : Nat} {rt : Option FieldType} {tb : List ExceptionTableEntry} {Qf : List Frame → Array Value → State → State → Prop} {k n : Nat} {pc : Nat} {ls : List (Option Value)} {M : Mm} {y : MethodName} {cy : ByteArray} {nY ix lv' lv mc ms mc0 ms0 : Nat} {ret : Option FieldType} {rest : List Value} {w : Value} {M1 : Mm} {v1 v2 v3 v4 v5 v6 : Value} (mf : MfS y cy nY ret 6) (hw : Cond.methodLink own ix y ∈ wsG) (d : decode cc pc = .ok (.invokestatic ix, 3)) (hlv : lv' + 1 ≤ lv) (hy : nY ≤ 30) (hr8 : (rest.map fun v => v.category).sum ≤ 8) (hf : k + mc ≤ mc0 ∧ n + ms ≤ ms0) (hC : Ct l E y cy nY ret lv' mc ms [v1, v2, v3, v4, v5, v6] M (dv w M1)) (kk : Jd l E own cc nL rt tb (rmm lv mc0 ms0) Qf (k + mc) (n + ms) (pc + 3) ls (w :: rest) M1) : Jd l E own cc nL rt tb (rmm lv mc0 ms0) Qf k n pc ls (v6 :: v5 :: v4 :: v3 :: v2 :: v1 :: rest) M := j_callS mf hw hlv hy hC rfl rfl hr8 d hf (fun v M9 h => by obtain ⟨rfl, rfl⟩ := h; exact kk)
def plN (n s u k e : Nat) : Nat := if k = s / 2 then alN n k + s % 2 else if k = u then alN n k + e % 2 else alN n k + e / 2 % 2
theorem al_lt {n : Nat} (hn : n < 512) (k : Nat) : alN n k < 8 := by
  unfold alN
  (repeat' split) <;> omega
theorem pl_lt {n s u k e : Nat} (hn : n < 512) : plN n s u k e < 9 := by
  have := al_lt hn k
  unfold plN
  (repeat' split) <;> omega
theorem and1 : ∀ e, e < 4 → nI e &&& nI 1 = nI (e % 2) ∧ (nI e >>> (nI 1 &&& 31)) &&& nI 1 = nI (e / 2 % 2) := by decide +kernel
theorem plX_n {n s u k e : Nat} (hk : k < 3) (hu : u < 3) (he : e < 4) : plX n s (nI u) k (nI e) = nI (plN n s u k e) := by
  unfold plX plN
  rw [(and1 e he).1, (and1 e he).2]
  by_cases h : k = s / 2
  · rw [if_pos h, if_pos h]
  · rw [if_neg h, if_neg h]
    by_cases g : k = u
    · rw [if_pos (by rw [g]), if_pos g, nI_add]
    · rw [if_neg (fun q => g ((nI_eq (by omega) (by omega)).mp q)), if_neg g, nI_add]
def sN (r : Nat → Int32) (g : Nat → Nat) : Nat → Nat → Int32
  | 0 => r
  | k + 1 => upd (sN r g k) (g k) (nI 1)
theorem sN_0 (r : Nat → Int32) (g : Nat → Nat) : sN r g 0 = r := by rw [sN]
theorem sN_s (r : Nat → Int32) (g : Nat → Nat) (k : Nat) : sN r g (k + 1) = upd (sN r g k) (g k) (nI 1) := by rw [sN]
def usN (s : Nat) : Nat := if s / 2 = 0 then 1 else 0
def vsN (s : Nat) : Nat := if s / 2 = 2 then 1 else 2
def cnI (n s k : Nat) : Nat := 81 * plN n s (usN s) 0 k + 9 * plN n s (usN s) 1 k + plN n s (usN s) 2 k
def ecN (k : Nat) : Nat := if k = 0 then 0 else if k = 1 then 2 else if k = 2 then 0 else 1
def egI (n s k : Nat) : Nat := 3 * (81 * plN n s (usN s) 0 (ecN k) + 9 * plN n s (usN s) 1 (ecN k) + plN n s (usN s) 2 (ecN k)) + (if k < 2 then usN s else vsN s)
def ma4 (r : Nat → Int32) (g : Nat → Nat) : Nat → Int32 := sN r g 4
set_option maxRecDepth 100000 in
set_option maxHeartbeats 4000000 in
theorem c_X10_marks {l : Launch} {E : Ev} {M : Mm} {n s : Nat} (hn : n < 512) (hs : s < 6) : Ct l E yX10_marks cX10_marks 12 none 3 0 0 [.ref (eA E 12 0), .int (nI n), .int (nI s)] M (dn (sI (sI M 58 (ma4 (mI M 58) (cnI n s))) 59 (ma4 (mI M 59) (egI n s)))) := by
  refine Ct.of (own := RX10) rfl [some (.ref (eA E 12 0)), some (.int (nI n)), some (.int (nI s)), none, none, none, none, none, none, none, none, none] (by decide) (Nat.le_of_ble_eq_true rfl) rfl ?_
  obtain ⟨w, hw⟩ : ∃ w, w = 4 := ⟨4, rfl⟩
  have hu3 : usN s < 3 := by unfold usN; split <;> omega
  have hv3 : vsN s < 3 := by unfold vsN; split <;> omega
  have KE : ∀ k, k ≤ w → ∀ (o7 o8 o9 o10 o11 : Option Value), Jd l E RX10 cX10_marks 12 none [] (rmm 3 0 0) (QfN E (dn (sI (sI M 58 (ma4 (mI M 58) (cnI n s))) 59 (ma4 (mI M 59) (egI n s)))) 0 0) 0 0 107 [some (.ref (eA E 12 0)), some (.int (nI n)), some (.int (nI s)), some (.int (nI (s / 2))), some (.int (nI (usN s))), some (.int (nI (vsN s))), some (.int (nI k)), o7, o8, o9, o10, o11] [] (sI (sI M 58 (ma4 (mI M 58) (cnI n s))) 59 (sN (mI M 59) (egI n s) k)) := by
    refine up_to w _ ?_ (fun k hk9 ih => ?_)
    · intro o7 o8 o9 o10 o11
      refine j_il dX10_marks_107 rfl ?_
      refine j_icN 4 dX10_marks_109 rfl ?_
      refine j_icgeN (tgt := 233) dX10_marks_110 (by decide) (by omega) (by omega) (fun h110 => ?_) (fun h110 => ?_)
      · exact j_vret dX10_marks_233 rfl (Nat.le_of_ble_eq_true rfl) (Nat.le_of_ble_eq_true rfl) ⟨rfl, by rw [hw]; rfl⟩
      · exact absurd (Nat.le_of_eq hw.symm) h110
    · intro o7 o8 o9 o10 o11
      have hk : k < 4 := by omega
      have TE : ∀ (al c : Nat), (if k < 2 then usN s else vsN s) = al → ecN k = c → Jd l E RX10 cX10_marks 12 none [] (rmm 3 0 0) (QfN E (dn (sI (sI M 58 (ma4 (mI M 58) (cnI n s))) 59 (ma4 (mI M 59) (egI n s)))) 0 0) 0 0 160 [some (.ref (eA E 12 0)), some (.int (nI n)), some (.int (nI s)), some (.int (nI (s / 2))), some (.int (nI (usN s))), some (.int (nI (vsN s))), some (.int (nI k)), some (.int (nI al)), some (.int (nI c)), o9, o10, o11] [] (sI (sI M 58 (ma4 (mI M 58) (cnI n s))) 59 (sN (mI M 59) (egI n s) k)) := by
        intro al c hal hc
        have hc4 : c < 4 := by rw [← hc]; unfold ecN; (repeat' split) <;> omega
        have hal3 : al < 3 := by rw [← hal]; split <;> omega
        have b0 := pl_lt (n := n) (s := s) (u := usN s) (k := 0) (e := c) hn
        have b1 := pl_lt (n := n) (s := s) (u := usN s) (k := 1) (e := c) hn
        have b2 := pl_lt (n := n) (s := s) (u := usN s) (k := 2) (e := c) hn
        refine j_iln dX10_marks_160 rfl rfl ?_
        refine j_iln dX10_marks_161 rfl rfl ?_
        refine j_il dX10_marks_162 rfl ?_
        refine j_il dX10_marks_164 rfl ?_
        refine j_icN 0 dX10_marks_166 rfl ?_
        refine j_il dX10_marks_167 rfl ?_
        refine j_S6d mf_X10_place_ ml_X10_217 dX10_marks_169 (Nat.le_of_ble_eq_true rfl) (Nat.le_of_ble_eq_true rfl) (Nat.le_of_ble_eq_true rfl) ⟨(Nat.le_of_ble_eq_true rfl), (Nat.le_of_ble_eq_true rfl)⟩ (c_X10_place_ hn hs (by decide)) ?_
        refine j_topi (plX_n (n := n) (s := s) (u := usN s) (k := 0) (e := c) (by decide) hu3 hc4) ?_
        refine j_ist_9 dX10_marks_172 (by decide) rfl ?_
        refine j_iln dX10_marks_174 rfl rfl ?_
        refine j_iln dX10_marks_175 rfl rfl ?_
        refine j_il dX10_marks_176 rfl ?_
        refine j_il dX10_marks_178 rfl ?_
        refine j_icN 1 dX10_marks_180 rfl ?_
        refine j_il dX10_marks_181 rfl ?_
        refine j_S6d mf_X10_place_ ml_X10_217 dX10_marks_183 (Nat.le_of_ble_eq_true rfl) (Nat.le_of_ble_eq_true rfl) (Nat.le_of_ble_eq_true rfl) ⟨(Nat.le_of_ble_eq_true rfl), (Nat.le_of_ble_eq_true rfl)⟩ (c_X10_place_ hn hs (by decide)) ?_
        refine j_topi (plX_n (n := n) (s := s) (u := usN s) (k := 1) (e := c) (by decide) hu3 hc4) ?_
        refine j_ist_10 dX10_marks_186 (by decide) rfl ?_
        refine j_iln dX10_marks_188 rfl rfl ?_
        refine j_iln dX10_marks_189 rfl rfl ?_
        refine j_il dX10_marks_190 rfl ?_
        refine j_il dX10_marks_192 rfl ?_
        refine j_icN 2 dX10_marks_194 rfl ?_
        refine j_il dX10_marks_195 rfl ?_
        refine j_S6d mf_X10_place_ ml_X10_217 dX10_marks_197 (Nat.le_of_ble_eq_true rfl) (Nat.le_of_ble_eq_true rfl) (Nat.le_of_ble_eq_true rfl) ⟨(Nat.le_of_ble_eq_true rfl), (Nat.le_of_ble_eq_true rfl)⟩ (c_X10_place_ hn hs (by decide)) ?_
        refine j_topi (plX_n (n := n) (s := s) (u := usN s) (k := 2) (e := c) (by decide) hu3 hc4) ?_
        refine j_ist_11 dX10_marks_200 (by decide) rfl ?_
        refine j_aln dX10_marks_202 rfl rfl ?_
        refine g_X10_26 dX10_marks_203 fl_X10_69 ?_
        refine j_icN 3 dX10_marks_206 rfl ?_
        refine j_biN 81 dX10_marks_207 rfl ?_
        refine j_il dX10_marks_209 rfl ?_
        refine j_imulN dX10_marks_211 ?_
        refine j_biN 9 dX10_marks_212 rfl ?_
        refine j_il dX10_marks_214 rfl ?_
        refine j_imulN dX10_marks_216 ?_
        refine j_iaddN dX10_marks_217 ?_
        refine j_il dX10_marks_218 rfl ?_
        refine j_iaddN dX10_marks_220 ?_
        refine j_imulN dX10_marks_221 ?_
        refine j_il dX10_marks_222 rfl ?_
        refine j_iaddN dX10_marks_224 ?_
        refine j_icN 1 dX10_marks_225 rfl ?_
        refine j_azstN dX10_marks_226 rfl (fun _ => rfl) rfl (by decide) (by omega) (by decide) ?_
        refine j_incN_6 1 dX10_marks_227 rfl (by decide) rfl ?_
        refine j_goto (tgt := 107) dX10_marks_230 (by decide) ?_
        refine j_mem ?_ (ih _ _ _ _ _)
        rw [sN_s, sI_sI]
        rw [show egI n s k = 3 * (81 * plN n s (usN s) 0 c + 9 * plN n s (usN s) 1 c + plN n s (usN s) 2 c) + al from by unfold egI; rw [hal, hc]]
        rfl
      refine j_il dX10_marks_107 rfl ?_
      refine j_icN 4 dX10_marks_109 rfl ?_
      refine j_icgeN (tgt := 233) dX10_marks_110 (by decide) (by omega) (by omega) (fun h110 => ?_) (fun h110 => ?_)
      · exact absurd h110 (by omega)
      · refine j_il dX10_marks_113 rfl ?_
        refine j_icN 2 dX10_marks_115 rfl ?_
        refine j_icgeN (tgt := 124) dX10_marks_116 (by decide) (by omega) (by omega) (fun h116 => ?_) (fun h116 => ?_)
        · refine j_il dX10_marks_124 rfl ?_
          refine j_ist_7 dX10_marks_126 (by decide) rfl ?_
          refine j_il dX10_marks_128 rfl ?_
          refine j_ifneN (tgt := 137) dX10_marks_130 (by decide) (by omega) (fun h130 => ?_) (fun h130 => ?_)
          · refine j_il dX10_marks_137 rfl ?_
            refine j_icN 1 dX10_marks_139 rfl ?_
            refine j_icneN (tgt := 147) dX10_marks_140 (by decide) (by omega) (by omega) (fun h140 => ?_) (fun h140 => ?_)
            · refine j_il dX10_marks_147 rfl ?_
              refine j_icN 2 dX10_marks_149 rfl ?_
              refine j_icneN (tgt := 157) dX10_marks_150 (by decide) (by omega) (by omega) (fun h150 => ?_) (fun h150 => ?_)
              · refine j_icN 1 dX10_marks_157 rfl ?_
                refine j_ist_8 dX10_marks_158 (by decide) rfl ?_
                first | exact (show False by omega).elim | exact TE _ _ (by first | (rw [if_pos (by omega)]) | (rw [if_neg (by omega)])) (by unfold ecN; first | rw [if_pos (by omega)] | rw [if_neg (by omega), if_pos (by omega)] | rw [if_neg (by omega), if_neg (by omega), if_pos (by omega)] | rw [if_neg (by omega), if_neg (by omega), if_neg (by omega)])
              · refine j_icN 0 dX10_marks_153 rfl ?_
                refine j_goto (tgt := 158) dX10_marks_154 (by decide) ?_
                refine j_ist_8 dX10_marks_158 (by decide) rfl ?_
                first | exact (show False by omega).elim | exact TE _ _ (by first | (rw [if_pos (by omega)]) | (rw [if_neg (by omega)])) (by unfold ecN; first | rw [if_pos (by omega)] | rw [if_neg (by omega), if_pos (by omega)] | rw [if_neg (by omega), if_neg (by omega), if_pos (by omega)] | rw [if_neg (by omega), if_neg (by omega), if_neg (by omega)])
            · refine j_icN 2 dX10_marks_143 rfl ?_
              refine j_goto (tgt := 158) dX10_marks_144 (by decide) ?_
              refine j_ist_8 dX10_marks_158 (by decide) rfl ?_
              first | exact (show False by omega).elim | exact TE _ _ (by first | (rw [if_pos (by omega)]) | (rw [if_neg (by omega)])) (by unfold ecN; first | rw [if_pos (by omega)] | rw [if_neg (by omega), if_pos (by omega)] | rw [if_neg (by omega), if_neg (by omega), if_pos (by omega)] | rw [if_neg (by omega), if_neg (by omega), if_neg (by omega)])
          · refine j_icN 0 dX10_marks_133 rfl ?_
            refine j_goto (tgt := 158) dX10_marks_134 (by decide) ?_
            refine j_ist_8 dX10_marks_158 (by decide) rfl ?_
            first | exact (show False by omega).elim | exact TE _ _ (by first | (rw [if_pos (by omega)]) | (rw [if_neg (by omega)])) (by unfold ecN; first | rw [if_pos (by omega)] | rw [if_neg (by omega), if_pos (by omega)] | rw [if_neg (by omega), if_neg (by omega), if_pos (by omega)] | rw [if_neg (by omega), if_neg (by omega), if_neg (by omega)])
        · refine j_il dX10_marks_119 rfl ?_
          refine j_goto (tgt := 126) dX10_marks_121 (by decide) ?_
          refine j_ist_7 dX10_marks_126 (by decide) rfl ?_
          refine j_il dX10_marks_128 rfl ?_
          refine j_ifneN (tgt := 137) dX10_marks_130 (by decide) (by omega) (fun h130 => ?_) (fun h130 => ?_)
          · refine j_il dX10_marks_137 rfl ?_
            refine j_icN 1 dX10_marks_139 rfl ?_
            refine j_icneN (tgt := 147) dX10_marks_140 (by decide) (by omega) (by omega) (fun h140 => ?_) (fun h140 => ?_)
            · refine j_il dX10_marks_147 rfl ?_
              refine j_icN 2 dX10_marks_149 rfl ?_
              refine j_icneN (tgt := 157) dX10_marks_150 (by decide) (by omega) (by omega) (fun h150 => ?_) (fun h150 => ?_)
              · refine j_icN 1 dX10_marks_157 rfl ?_
                refine j_ist_8 dX10_marks_158 (by decide) rfl ?_
                first | exact (show False by omega).elim | exact TE _ _ (by first | (rw [if_pos (by omega)]) | (rw [if_neg (by omega)])) (by unfold ecN; first | rw [if_pos (by omega)] | rw [if_neg (by omega), if_pos (by omega)] | rw [if_neg (by omega), if_neg (by omega), if_pos (by omega)] | rw [if_neg (by omega), if_neg (by omega), if_neg (by omega)])
              · refine j_icN 0 dX10_marks_153 rfl ?_
                refine j_goto (tgt := 158) dX10_marks_154 (by decide) ?_
                refine j_ist_8 dX10_marks_158 (by decide) rfl ?_
                first | exact (show False by omega).elim | exact TE _ _ (by first | (rw [if_pos (by omega)]) | (rw [if_neg (by omega)])) (by unfold ecN; first | rw [if_pos (by omega)] | rw [if_neg (by omega), if_pos (by omega)] | rw [if_neg (by omega), if_neg (by omega), if_pos (by omega)] | rw [if_neg (by omega), if_neg (by omega), if_neg (by omega)])
            · refine j_icN 2 dX10_marks_143 rfl ?_
              refine j_goto (tgt := 158) dX10_marks_144 (by decide) ?_
              refine j_ist_8 dX10_marks_158 (by decide) rfl ?_
              first | exact (show False by omega).elim | exact TE _ _ (by first | (rw [if_pos (by omega)]) | (rw [if_neg (by omega)])) (by unfold ecN; first | rw [if_pos (by omega)] | rw [if_neg (by omega), if_pos (by omega)] | rw [if_neg (by omega), if_neg (by omega), if_pos (by omega)] | rw [if_neg (by omega), if_neg (by omega), if_neg (by omega)])
          · refine j_icN 0 dX10_marks_133 rfl ?_
            refine j_goto (tgt := 158) dX10_marks_134 (by decide) ?_
            refine j_ist_8 dX10_marks_158 (by decide) rfl ?_
            first | exact (show False by omega).elim | exact TE _ _ (by first | (rw [if_pos (by omega)]) | (rw [if_neg (by omega)])) (by unfold ecN; first | rw [if_pos (by omega)] | rw [if_neg (by omega), if_pos (by omega)] | rw [if_neg (by omega), if_neg (by omega), if_pos (by omega)] | rw [if_neg (by omega), if_neg (by omega), if_neg (by omega)])
  have KC : ∀ k, k ≤ w → ∀ (o7 o8 o9 o10 o11 : Option Value), Jd l E RX10 cX10_marks 12 none [] (rmm 3 0 0) (QfN E (dn (sI (sI M 58 (ma4 (mI M 58) (cnI n s))) 59 (ma4 (mI M 59) (egI n s)))) 0 0) 0 0 30 [some (.ref (eA E 12 0)), some (.int (nI n)), some (.int (nI s)), some (.int (nI (s / 2))), some (.int (nI (usN s))), some (.int (nI (vsN s))), some (.int (nI k)), o7, o8, o9, o10, o11] [] (sI M 58 (sN (mI M 58) (cnI n s) k)) := by
    refine up_to w _ ?_ (fun k hk9 ih => ?_)
    · intro o7 o8 o9 o10 o11
      refine j_il dX10_marks_30 rfl ?_
      refine j_icN 4 dX10_marks_32 rfl ?_
      refine j_icgeN (tgt := 104) dX10_marks_33 (by decide) (by omega) (by omega) (fun h33 => ?_) (fun h33 => ?_)
      · refine j_icN 0 dX10_marks_104 rfl ?_
        refine j_ist_6 dX10_marks_105 (by decide) rfl ?_
        have K0 := KE 0 (by omega) o7 o8 o9 o10 o11
        rw [sN_0] at K0
        refine j_mem ?_ K0
        rw [show mI M 59 = mI (sI M 58 (ma4 (mI M 58) (cnI n s))) 59 from rfl, sI_id, hw]
        rfl
      · exact absurd (Nat.le_of_eq hw.symm) h33
    · intro o7 o8 o9 o10 o11
      have hk : k < 4 := by omega
      have b0 := pl_lt (n := n) (s := s) (u := usN s) (k := 0) (e := k) hn
      have b1 := pl_lt (n := n) (s := s) (u := usN s) (k := 1) (e := k) hn
      have b2 := pl_lt (n := n) (s := s) (u := usN s) (k := 2) (e := k) hn
      refine j_il dX10_marks_30 rfl ?_
      refine j_icN 4 dX10_marks_32 rfl ?_
      refine j_icgeN (tgt := 104) dX10_marks_33 (by decide) (by omega) (by omega) (fun h33 => ?_) (fun h33 => ?_)
      · exact absurd h33 (by omega)
      · refine j_iln dX10_marks_36 rfl rfl ?_
        refine j_iln dX10_marks_37 rfl rfl ?_
        refine j_il dX10_marks_38 rfl ?_
        refine j_il dX10_marks_40 rfl ?_
        refine j_icN 0 dX10_marks_42 rfl ?_
        refine j_il dX10_marks_43 rfl ?_
        refine j_S6d mf_X10_place_ ml_X10_217 dX10_marks_45 (Nat.le_of_ble_eq_true rfl) (Nat.le_of_ble_eq_true rfl) (Nat.le_of_ble_eq_true rfl) ⟨(Nat.le_of_ble_eq_true rfl), (Nat.le_of_ble_eq_true rfl)⟩ (c_X10_place_ hn hs (by decide)) ?_
        refine j_topi (plX_n (n := n) (s := s) (u := usN s) (k := 0) (e := k) (by decide) hu3 hk) ?_
        refine j_ist_7 dX10_marks_48 (by decide) rfl ?_
        refine j_iln dX10_marks_50 rfl rfl ?_
        refine j_iln dX10_marks_51 rfl rfl ?_
        refine j_il dX10_marks_52 rfl ?_
        refine j_il dX10_marks_54 rfl ?_
        refine j_icN 1 dX10_marks_56 rfl ?_
        refine j_il dX10_marks_57 rfl ?_
        refine j_S6d mf_X10_place_ ml_X10_217 dX10_marks_59 (Nat.le_of_ble_eq_true rfl) (Nat.le_of_ble_eq_true rfl) (Nat.le_of_ble_eq_true rfl) ⟨(Nat.le_of_ble_eq_true rfl), (Nat.le_of_ble_eq_true rfl)⟩ (c_X10_place_ hn hs (by decide)) ?_
        refine j_topi (plX_n (n := n) (s := s) (u := usN s) (k := 1) (e := k) (by decide) hu3 hk) ?_
        refine j_ist_8 dX10_marks_62 (by decide) rfl ?_
        refine j_iln dX10_marks_64 rfl rfl ?_
        refine j_iln dX10_marks_65 rfl rfl ?_
        refine j_il dX10_marks_66 rfl ?_
        refine j_il dX10_marks_68 rfl ?_
        refine j_icN 2 dX10_marks_70 rfl ?_
        refine j_il dX10_marks_71 rfl ?_
        refine j_S6d mf_X10_place_ ml_X10_217 dX10_marks_73 (Nat.le_of_ble_eq_true rfl) (Nat.le_of_ble_eq_true rfl) (Nat.le_of_ble_eq_true rfl) ⟨(Nat.le_of_ble_eq_true rfl), (Nat.le_of_ble_eq_true rfl)⟩ (c_X10_place_ hn hs (by decide)) ?_
        refine j_topi (plX_n (n := n) (s := s) (u := usN s) (k := 2) (e := k) (by decide) hu3 hk) ?_
        refine j_ist_9 dX10_marks_76 (by decide) rfl ?_
        refine j_aln dX10_marks_78 rfl rfl ?_
        refine g_X10_25 dX10_marks_79 fl_X10_66 ?_
        refine j_biN 81 dX10_marks_82 rfl ?_
        refine j_il dX10_marks_84 rfl ?_
        refine j_imulN dX10_marks_86 ?_
        refine j_biN 9 dX10_marks_87 rfl ?_
        refine j_il dX10_marks_89 rfl ?_
        refine j_imulN dX10_marks_91 ?_
        refine j_iaddN dX10_marks_92 ?_
        refine j_il dX10_marks_93 rfl ?_
        refine j_iaddN dX10_marks_95 ?_
        refine j_icN 1 dX10_marks_96 rfl ?_
        refine j_azstN dX10_marks_97 rfl (fun _ => rfl) rfl (by decide) (by omega) (by decide) ?_
        refine j_incN_6 1 dX10_marks_98 rfl (by decide) rfl ?_
        refine j_goto (tgt := 30) dX10_marks_101 (by decide) ?_
        refine j_mem ?_ (ih _ _ _ _ _)
        rw [sN_s, sI_sI]
        rfl
  have K0 := KC 0 (by omega) none none none none none
  rw [sN_0, sI_id] at K0
  refine j_iln dX10_marks_0 rfl rfl ?_
  refine j_icN 2 dX10_marks_1 rfl ?_
  refine j_idivN dX10_marks_2 (by omega) (by omega) (by omega) ?_
  refine j_ist_3 dX10_marks_3 (by decide) rfl ?_
  refine j_iln dX10_marks_4 rfl rfl ?_
  refine j_ifneN (tgt := 12) dX10_marks_5 (by decide) (by omega) (fun h5 => ?_) (fun h5 => ?_)
  · have hue : 0 = usN s := by unfold usN; rw [if_neg h5]
    refine j_icN 0 dX10_marks_12 rfl ?_
    refine j_ist_4 dX10_marks_13 (by decide) rfl ?_
    refine j_iln dX10_marks_15 rfl rfl ?_
    refine j_icN 2 dX10_marks_16 rfl ?_
    refine j_icneN (tgt := 24) dX10_marks_17 (by decide) (by omega) (by omega) (fun h17 => ?_) (fun h17 => ?_)
    · have hve : 2 = vsN s := by unfold vsN; rw [if_neg h17]
      refine j_icN 2 dX10_marks_24 rfl ?_
      refine j_ist_5 dX10_marks_25 (by decide) rfl ?_
      refine j_icN 0 dX10_marks_27 rfl ?_
      refine j_ist_6 dX10_marks_28 (by decide) rfl ?_
      refine j_eq (congrArg (fun q => [_, _, _, _, some (Value.int (nI q)), _, _, _, _, _, _, _]) hue) rfl rfl ?_
      refine j_eq (congrArg (fun q => [_, _, _, _, _, some (Value.int (nI q)), _, _, _, _, _, _]) hve) rfl rfl ?_
      exact K0
    · have hve : 1 = vsN s := by unfold vsN; rw [if_pos h17]
      refine j_icN 1 dX10_marks_20 rfl ?_
      refine j_goto (tgt := 25) dX10_marks_21 (by decide) ?_
      refine j_ist_5 dX10_marks_25 (by decide) rfl ?_
      refine j_icN 0 dX10_marks_27 rfl ?_
      refine j_ist_6 dX10_marks_28 (by decide) rfl ?_
      refine j_eq (congrArg (fun q => [_, _, _, _, some (Value.int (nI q)), _, _, _, _, _, _, _]) hue) rfl rfl ?_
      refine j_eq (congrArg (fun q => [_, _, _, _, _, some (Value.int (nI q)), _, _, _, _, _, _]) hve) rfl rfl ?_
      exact K0
  · have hue : 1 = usN s := by unfold usN; rw [if_pos h5]
    refine j_icN 1 dX10_marks_8 rfl ?_
    refine j_goto (tgt := 13) dX10_marks_9 (by decide) ?_
    refine j_ist_4 dX10_marks_13 (by decide) rfl ?_
    refine j_iln dX10_marks_15 rfl rfl ?_
    refine j_icN 2 dX10_marks_16 rfl ?_
    refine j_icneN (tgt := 24) dX10_marks_17 (by decide) (by omega) (by omega) (fun h17 => ?_) (fun h17 => ?_)
    · have hve : 2 = vsN s := by unfold vsN; rw [if_neg h17]
      refine j_icN 2 dX10_marks_24 rfl ?_
      refine j_ist_5 dX10_marks_25 (by decide) rfl ?_
      refine j_icN 0 dX10_marks_27 rfl ?_
      refine j_ist_6 dX10_marks_28 (by decide) rfl ?_
      refine j_eq (congrArg (fun q => [_, _, _, _, some (Value.int (nI q)), _, _, _, _, _, _, _]) hue) rfl rfl ?_
      refine j_eq (congrArg (fun q => [_, _, _, _, _, some (Value.int (nI q)), _, _, _, _, _, _]) hve) rfl rfl ?_
      exact K0
    · have hve : 1 = vsN s := by unfold vsN; rw [if_pos h17]
      refine j_icN 1 dX10_marks_20 rfl ?_
      refine j_goto (tgt := 25) dX10_marks_21 (by decide) ?_
      refine j_ist_5 dX10_marks_25 (by decide) rfl ?_
      refine j_icN 0 dX10_marks_27 rfl ?_
      refine j_ist_6 dX10_marks_28 (by decide) rfl ?_
      refine j_eq (congrArg (fun q => [_, _, _, _, some (Value.int (nI q)), _, _, _, _, _, _, _]) hue) rfl rfl ?_
      refine j_eq (congrArg (fun q => [_, _, _, _, _, some (Value.int (nI q)), _, _, _, _, _, _]) hve) rfl rfl ?_
      exact K0
def euF (M : Mm) (g : Nat → Nat → Nat → Nat) (r : Nat → Int32) : Nat → Nat → Int32
  | 0 => r
  | q + 1 => if mI M 56 q = -1 then euF M g r q else ma4 (euF M g r q) (g (q / 6) (q % 6))
theorem euF_0 (M : Mm) (g : Nat → Nat → Nat → Nat) (r : Nat → Int32) : euF M g r 0 = r := by rw [euF]
theorem euF_z {M : Mm} {g : Nat → Nat → Nat → Nat} {r : Nat → Int32} {q : Nat} (h : mI M 56 q = -1) : euF M g r (q + 1) = euF M g r q := by rw [euF, if_pos h]
theorem euF_s {M : Mm} {g : Nat → Nat → Nat → Nat} {r : Nat → Int32} {q : Nat} (h : ¬ mI M 56 q = -1) : euF M g r (q + 1) = ma4 (euF M g r q) (g (q / 6) (q % 6)) := by rw [euF, if_neg h]
theorem sub_add1 (a b c : Int32) : a - b - c = a - (b + c) := by
  rw [Int32.sub_eq_add_neg, Int32.sub_eq_add_neg, Int32.sub_eq_add_neg, Int32.neg_add, Int32.sub_eq_add_neg, Int32.add_assoc]
theorem eu_m {M : Mm} {A B C D : Nat → Int32} : sI (sI (sI (sI M 58 A) 59 B) 58 C) 59 D = sI (sI M 58 C) 59 D := by
  refine Prod.ext (funext fun t => ?_) rfl
  show (if t = 59 then D else if t = 58 then C else if t = 59 then B else if t = 58 then A else M.1 t) = if t = 59 then D else if t = 58 then C else M.1 t
  by_cases h : t = 59
  · rw [if_pos h, if_pos h]
  · rw [if_neg h, if_neg h]
    by_cases g : t = 58
    · rw [if_pos g, if_neg h, if_pos g]
    · rw [if_neg g, if_neg g, if_neg h, if_neg g]
theorem eu_c {M : Mm} {A B : Nat → Int32} {w : Int32} : cdM (sI (sI M 58 A) 59 B) w = sI (sI (cdM M w) 58 A) 59 B := by
  refine Prod.ext (funext fun t => ?_) rfl
  show (if t = 12 then upd (mI M 12) 0 w else if t = 59 then B else if t = 58 then A else M.1 t) = if t = 59 then B else if t = 58 then A else if t = 12 then upd (mI M 12) 0 w else M.1 t
  by_cases h : t = 12
  · subst h; rfl
  · rw [if_neg h, if_neg h]
set_option maxRecDepth 100000 in
set_option maxHeartbeats 4000000 in
theorem c_X10_euler {l : Launch} {E : Ev} {M : Mm}   : Ct l E yX10_euler cX10_euler 3 (some .int) 4 0 0 [.ref (eA E 12 0)] M (fun v M1 => ∃ C0 E0, (∀ j, j < 729 → C0 j = nI 0) ∧ (∀ j, j < 2187 → E0 j = nI 0) ∧ v = some (.int ((ctK (fun i => mI M 56 i = -1) 3072) + ctK (fun i => (euF M cnI C0 3072) i = 0) 729 - ctK (fun i => (euF M egI E0 3072) i = 0) 2187)) ∧ mFr (c0 M) M1 (fun t => t = 58 ∨ t = 59)) := by
  refine Ct.of (own := RX10) rfl [some (.ref (eA E 12 0)), none, none] (by decide) (Nat.le_of_ble_eq_true rfl) rfl ?_
  obtain ⟨u, hu⟩ : ∃ u, u = 729 := ⟨729, rfl⟩
  obtain ⟨v, hv⟩ : ∃ v, v = 2187 := ⟨2187, rfl⟩
  obtain ⟨z, hz⟩ : ∃ z, z = 3072 := ⟨3072, rfl⟩
  obtain ⟨C0, hCe⟩ : ∃ C0, cpR (fun _ => nI 0) (mI M 58) u = C0 := ⟨_, rfl⟩
  obtain ⟨E0, hEe⟩ : ∃ E0, cpR (fun _ => nI 0) (mI M 59) v = E0 := ⟨_, rfl⟩
  have hC0 : ∀ j, j < 729 → C0 j = nI 0 := fun j hj => by rw [← hCe]; exact cpR_lt (fun _ => nI 0) (mI M 58) (by omega)
  have hE0 : ∀ j, j < 2187 → E0 j = nI 0 := fun j hj => by rw [← hEe]; exact cpR_lt (fun _ => nI 0) (mI M 59) (by omega)
  have KS : ∀ i, i ≤ v → Jd l E RX10 cX10_euler 3 (some .int) [] (rmm 4 0 0) (QfN E (fun v M1 => ∃ C0 E0, (∀ j, j < 729 → C0 j = nI 0) ∧ (∀ j, j < 2187 → E0 j = nI 0) ∧ v = some (.int ((ctK (fun i => mI M 56 i = -1) 3072) + ctK (fun i => (euF M cnI C0 3072) i = 0) 729 - ctK (fun i => (euF M egI E0 3072) i = 0) 2187)) ∧ mFr (c0 M) M1 (fun t => t = 58 ∨ t = 59)) 0 0) 0 0 125 [some (.ref (eA E 12 0)), some (.int (((ctK (fun i => mI M 56 i = -1) 3072) + ctK (fun i => (euF M cnI C0 z) i = 0) u) - ctK (fun i => (euF M egI E0 z) i = 0) i)), some (.int (nI i))] [] (sI (sI (c0 M) 58 (euF M cnI C0 z)) 59 (euF M egI E0 z)) := by
    refine up_to v _ ?_ (fun i hi ih => ?_)
    · skip
      refine j_iln dX10_euler_125 rfl rfl ?_
      refine j_siN 2187 dX10_euler_126 rfl ?_
      refine j_icgeN (tgt := 155) dX10_euler_129 (by decide) (by omega) (by omega) (fun h129 => ?_) (fun h129 => ?_)
      · refine j_iln dX10_euler_155 rfl rfl ?_
        exact j_iret dX10_euler_156 rfl rfl (Nat.le_of_ble_eq_true rfl) (Nat.le_of_ble_eq_true rfl) ⟨C0, E0, hC0, hE0, by rw [hu, hv, hz], ⟨rfl, fun t ht => by rw [mI_sI, if_neg (fun q => ht (Or.inr q)), mI_sI, if_neg (fun q => ht (Or.inl q))]⟩⟩
      · exact absurd (Nat.le_of_eq hv.symm) h129
    · skip
      refine j_iln dX10_euler_125 rfl rfl ?_
      refine j_siN 2187 dX10_euler_126 rfl ?_
      refine j_icgeN (tgt := 155) dX10_euler_129 (by decide) (by omega) (by omega) (fun h129 => ?_) (fun h129 => ?_)
      · exact absurd h129 (by omega)
      · refine j_iln dX10_euler_132 rfl rfl ?_
        refine j_aln dX10_euler_133 rfl rfl ?_
        refine g_X10_26 dX10_euler_134 fl_X10_69 ?_
        refine j_iln dX10_euler_137 rfl rfl ?_
        refine j_azldN dX10_euler_138 rfl rfl rfl (by decide) (by omega) ?_
        refine j_ifeq (tgt := 146) dX10_euler_139 (by decide) (fun h139 => ?_) (fun h139 => ?_)
        · have hg : ctK (fun i => (euF M egI E0 z) i = 0) (i + 1) = ctK (fun i => (euF M egI E0 z) i = 0) i + nI 0 := ctK_t (P := (fun i => (euF M egI E0 z) i = 0)) h139
          refine j_icN 0 dX10_euler_146 rfl ?_
          refine j_isub dX10_euler_147 ?_
          refine j_ist_1 dX10_euler_148 (by decide) rfl ?_
          refine j_incN_2 1 dX10_euler_149 rfl (by decide) rfl ?_
          refine j_goto (tgt := 125) dX10_euler_152 (by decide) ?_
          rw [hg, ← sub_add1] at ih
          exact ih
        · have hg : ctK (fun i => (euF M egI E0 z) i = 0) (i + 1) = ctK (fun i => (euF M egI E0 z) i = 0) i + nI 1 := ctK_f (P := (fun i => (euF M egI E0 z) i = 0)) h139
          refine j_icN 1 dX10_euler_142 rfl ?_
          refine j_goto (tgt := 147) dX10_euler_143 (by decide) ?_
          refine j_isub dX10_euler_147 ?_
          refine j_ist_1 dX10_euler_148 (by decide) rfl ?_
          refine j_incN_2 1 dX10_euler_149 rfl (by decide) rfl ?_
          refine j_goto (tgt := 125) dX10_euler_152 (by decide) ?_
          rw [hg, ← sub_add1] at ih
          exact ih
  have KA : ∀ i, i ≤ u → Jd l E RX10 cX10_euler 3 (some .int) [] (rmm 4 0 0) (QfN E (fun v M1 => ∃ C0 E0, (∀ j, j < 729 → C0 j = nI 0) ∧ (∀ j, j < 2187 → E0 j = nI 0) ∧ v = some (.int ((ctK (fun i => mI M 56 i = -1) 3072) + ctK (fun i => (euF M cnI C0 3072) i = 0) 729 - ctK (fun i => (euF M egI E0 3072) i = 0) 2187)) ∧ mFr (c0 M) M1 (fun t => t = 58 ∨ t = 59)) 0 0) 0 0 93 [some (.ref (eA E 12 0)), some (.int ((ctK (fun i => mI M 56 i = -1) 3072) + ctK (fun i => (euF M cnI C0 z) i = 0) i)), some (.int (nI i))] [] (sI (sI (c0 M) 58 (euF M cnI C0 z)) 59 (euF M egI E0 z)) := by
    refine up_to u _ ?_ (fun i hi ih => ?_)
    · skip
      refine j_iln dX10_euler_93 rfl rfl ?_
      refine j_siN 729 dX10_euler_94 rfl ?_
      refine j_icgeN (tgt := 123) dX10_euler_97 (by decide) (by omega) (by omega) (fun h97 => ?_) (fun h97 => ?_)
      · refine j_icN 0 dX10_euler_123 rfl ?_
        refine j_ist_2 dX10_euler_124 (by decide) rfl ?_
        have K0 := KS 0 (by omega)
        rw [ctK_0, show ((ctK (fun i => mI M 56 i = -1) 3072) + ctK (fun i => (euF M cnI C0 z) i = 0) u) - nI 0 = ((ctK (fun i => mI M 56 i = -1) 3072) + ctK (fun i => (euF M cnI C0 z) i = 0) u) from Int32.sub_zero _] at K0
        exact K0
      · exact absurd (Nat.le_of_eq hu.symm) h97
    · skip
      refine j_iln dX10_euler_93 rfl rfl ?_
      refine j_siN 729 dX10_euler_94 rfl ?_
      refine j_icgeN (tgt := 123) dX10_euler_97 (by decide) (by omega) (by omega) (fun h97 => ?_) (fun h97 => ?_)
      · exact absurd h97 (by omega)
      · refine j_iln dX10_euler_100 rfl rfl ?_
        refine j_aln dX10_euler_101 rfl rfl ?_
        refine g_X10_25 dX10_euler_102 fl_X10_66 ?_
        refine j_iln dX10_euler_105 rfl rfl ?_
        refine j_azldN dX10_euler_106 rfl rfl rfl (by decide) (by omega) ?_
        refine j_ifeq (tgt := 114) dX10_euler_107 (by decide) (fun h107 => ?_) (fun h107 => ?_)
        · have hg : ctK (fun i => (euF M cnI C0 z) i = 0) (i + 1) = ctK (fun i => (euF M cnI C0 z) i = 0) i + nI 0 := ctK_t (P := (fun i => (euF M cnI C0 z) i = 0)) h107
          refine j_icN 0 dX10_euler_114 rfl ?_
          refine j_iadd dX10_euler_115 ?_
          refine j_ist_1 dX10_euler_116 (by decide) rfl ?_
          refine j_incN_2 1 dX10_euler_117 rfl (by decide) rfl ?_
          refine j_goto (tgt := 93) dX10_euler_120 (by decide) ?_
          rw [hg, ← Int32.add_assoc] at ih
          exact ih
        · have hg : ctK (fun i => (euF M cnI C0 z) i = 0) (i + 1) = ctK (fun i => (euF M cnI C0 z) i = 0) i + nI 1 := ctK_f (P := (fun i => (euF M cnI C0 z) i = 0)) h107
          refine j_icN 1 dX10_euler_110 rfl ?_
          refine j_goto (tgt := 115) dX10_euler_111 (by decide) ?_
          refine j_iadd dX10_euler_115 ?_
          refine j_ist_1 dX10_euler_116 (by decide) rfl ?_
          refine j_incN_2 1 dX10_euler_117 rfl (by decide) rfl ?_
          refine j_goto (tgt := 93) dX10_euler_120 (by decide) ?_
          rw [hg, ← Int32.add_assoc] at ih
          exact ih
  have KQ : ∀ q, q ≤ z → Jd l E RX10 cX10_euler 3 (some .int) [] (rmm 4 0 0) (QfN E (fun v M1 => ∃ C0 E0, (∀ j, j < 729 → C0 j = nI 0) ∧ (∀ j, j < 2187 → E0 j = nI 0) ∧ v = some (.int ((ctK (fun i => mI M 56 i = -1) 3072) + ctK (fun i => (euF M cnI C0 3072) i = 0) 729 - ctK (fun i => (euF M egI E0 3072) i = 0) 2187)) ∧ mFr (c0 M) M1 (fun t => t = 58 ∨ t = 59)) 0 0) 0 0 51 [some (.ref (eA E 12 0)), some (.int (nI q)), none] [] (sI (sI (c0 M) 58 (euF M cnI C0 q)) 59 (euF M egI E0 q)) := by
    refine up_to z _ ?_ (fun q hi ih => ?_)
    · skip
      refine j_iln dX10_euler_51 rfl rfl ?_
      refine j_siN 3072 dX10_euler_52 rfl ?_
      refine j_icgeN (tgt := 86) dX10_euler_55 (by decide) (by omega) (by omega) (fun h55 => ?_) (fun h55 => ?_)
      · refine j_aln dX10_euler_86 rfl rfl ?_
        refine j_V0d mf_X10_area ml_X10_224 dX10_euler_87 (Nat.le_of_ble_eq_true rfl) (Nat.le_of_ble_eq_true rfl) (Nat.le_of_ble_eq_true rfl) ⟨(Nat.le_of_ble_eq_true rfl), (Nat.le_of_ble_eq_true rfl)⟩ (by first | assumption | decide | (simp only [nv] at *; omega)) rfl rfl (c_X10_area (M := (sI (sI (c0 M) 58 (euF M cnI C0 z)) 59 (euF M egI E0 z)))) ?_
        refine j_ist_1 dX10_euler_90 (by decide) rfl ?_
        refine j_icN 0 dX10_euler_91 rfl ?_
        refine j_ist_2 dX10_euler_92 (by decide) rfl ?_
        refine j_mem (M' := (sI (sI (c0 M) 58 (euF M cnI C0 z)) 59 (euF M egI E0 z))) (by rw [show cdM (sI (sI (c0 M) 58 (euF M cnI C0 z)) 59 (euF M egI E0 z)) (nI 0) = sI (sI (cdM (c0 M) (nI 0)) 58 (euF M cnI C0 z)) 59 (euF M egI E0 z) from eu_c, cd_cd]) ?_
        have K0 := KA 0 (by omega)
        rw [ctK_0, show (ctK (fun i => mI M 56 i = -1) 3072) + nI 0 = (ctK (fun i => mI M 56 i = -1) 3072) from Int32.add_zero _] at K0
        exact K0
      · exact absurd (Nat.le_of_eq hz.symm) h55
    · skip
      refine j_iln dX10_euler_51 rfl rfl ?_
      refine j_siN 3072 dX10_euler_52 rfl ?_
      refine j_icgeN (tgt := 86) dX10_euler_55 (by decide) (by omega) (by omega) (fun h55 => ?_) (fun h55 => ?_)
      · exact absurd h55 (by omega)
      · refine j_aln dX10_euler_58 rfl rfl ?_
        refine g_X10_23 dX10_euler_59 fl_X10_60 ?_
        refine j_iln dX10_euler_62 rfl rfl ?_
        refine j_aildN dX10_euler_63 rfl rfl rfl (by decide) (by omega) ?_
        refine j_ic (v := (-1)) dX10_euler_64 (by decide) ?_
        refine j_iceq (tgt := 80) dX10_euler_65 (by decide) (fun h65 => ?_) (fun h65 => ?_)
        · have hg1 := euF_z (g := cnI) (r := C0) (M := M) h65
          have hg2 := euF_z (g := egI) (r := E0) (M := M) h65
          refine j_incN_1 1 dX10_euler_80 rfl (by decide) rfl ?_
          refine j_goto (tgt := 51) dX10_euler_83 (by decide) ?_
          refine j_mem ?_ ih
          rw [hg1, hg2]
          first | done | exact eu_m
        · have hg1 := euF_s (g := cnI) (r := C0) (M := M) h65
          have hg2 := euF_s (g := egI) (r := E0) (M := M) h65
          refine j_aln dX10_euler_68 rfl rfl ?_
          refine j_iln dX10_euler_69 rfl rfl ?_
          refine j_biN 6 dX10_euler_70 rfl ?_
          refine j_idivN dX10_euler_72 (by omega) (by omega) (by omega) ?_
          refine j_iln dX10_euler_73 rfl rfl ?_
          refine j_biN 6 dX10_euler_74 rfl ?_
          refine j_iremN dX10_euler_76 (by omega) (by omega) (by omega) ?_
          refine j_V2n mf_X10_marks ml_X10_221 dX10_euler_77 (Nat.le_of_ble_eq_true rfl) (Nat.le_of_ble_eq_true rfl) (Nat.le_of_ble_eq_true rfl) ⟨(Nat.le_of_ble_eq_true rfl), (Nat.le_of_ble_eq_true rfl)⟩ (by first | assumption | decide | (simp only [nv] at *; omega)) rfl rfl (c_X10_marks (M := (sI (sI (c0 M) 58 (euF M cnI C0 q)) 59 (euF M egI E0 q))) (n := q / 6) (s := q % 6) (by omega) (by omega)) ?_
          refine j_incN_1 1 dX10_euler_80 rfl (by decide) rfl ?_
          refine j_goto (tgt := 51) dX10_euler_83 (by decide) ?_
          refine j_mem ?_ ih
          rw [hg1, hg2]
          first | done | exact eu_m
  have K9 : ∀ i, i ≤ v → Jd l E RX10 cX10_euler 3 (some .int) [] (rmm 4 0 0) (QfN E (fun v M1 => ∃ C0 E0, (∀ j, j < 729 → C0 j = nI 0) ∧ (∀ j, j < 2187 → E0 j = nI 0) ∧ v = some (.int ((ctK (fun i => mI M 56 i = -1) 3072) + ctK (fun i => (euF M cnI C0 3072) i = 0) 729 - ctK (fun i => (euF M egI E0 3072) i = 0) 2187)) ∧ mFr (c0 M) M1 (fun t => t = 58 ∨ t = 59)) 0 0) 0 0 29 [some (.ref (eA E 12 0)), some (.int (nI i)), none] [] (sI (sI (c0 M) 58 (cpR (fun _ => nI 0) (mI M 58) u)) 59 (cpR (fun _ => nI 0) (mI M 59) i)) := by
    refine up_to v _ ?_ (fun i hi ih => ?_)
    · skip
      refine j_iln dX10_euler_29 rfl rfl ?_
      refine j_siN 2187 dX10_euler_30 rfl ?_
      refine j_icgeN (tgt := 49) dX10_euler_33 (by decide) (by omega) (by omega) (fun h33 => ?_) (fun h33 => ?_)
      · refine j_icN 0 dX10_euler_49 rfl ?_
        refine j_ist_1 dX10_euler_50 (by decide) rfl ?_
        rw [hCe, hEe]
        have K0 := KQ 0 (by omega)
        rw [euF_0, euF_0] at K0
        exact K0
      · exact absurd (Nat.le_of_eq hv.symm) h33
    · skip
      refine j_iln dX10_euler_29 rfl rfl ?_
      refine j_siN 2187 dX10_euler_30 rfl ?_
      refine j_icgeN (tgt := 49) dX10_euler_33 (by decide) (by omega) (by omega) (fun h33 => ?_) (fun h33 => ?_)
      · exact absurd h33 (by omega)
      · refine j_aln dX10_euler_36 rfl rfl ?_
        refine g_X10_26 dX10_euler_37 fl_X10_69 ?_
        refine j_iln dX10_euler_40 rfl rfl ?_
        refine j_icN 0 dX10_euler_41 rfl ?_
        refine j_azstN dX10_euler_42 rfl (fun _ => rfl) rfl (by decide) (by omega) (by decide) ?_
        refine j_incN_1 1 dX10_euler_43 rfl (by decide) rfl ?_
        refine j_goto (tgt := 29) dX10_euler_46 (by decide) ?_
        refine j_mem ?_ ih
        rw [cpR_s, sI_sI]
        rfl
  have K8 : ∀ i, i ≤ u → Jd l E RX10 cX10_euler 3 (some .int) [] (rmm 4 0 0) (QfN E (fun v M1 => ∃ C0 E0, (∀ j, j < 729 → C0 j = nI 0) ∧ (∀ j, j < 2187 → E0 j = nI 0) ∧ v = some (.int ((ctK (fun i => mI M 56 i = -1) 3072) + ctK (fun i => (euF M cnI C0 3072) i = 0) 729 - ctK (fun i => (euF M egI E0 3072) i = 0) 2187)) ∧ mFr (c0 M) M1 (fun t => t = 58 ∨ t = 59)) 0 0) 0 0 7 [some (.ref (eA E 12 0)), some (.int (nI i)), none] [] (sI (c0 M) 58 (cpR (fun _ => nI 0) (mI M 58) i)) := by
    refine up_to u _ ?_ (fun i hi ih => ?_)
    · skip
      refine j_iln dX10_euler_7 rfl rfl ?_
      refine j_siN 729 dX10_euler_8 rfl ?_
      refine j_icgeN (tgt := 27) dX10_euler_11 (by decide) (by omega) (by omega) (fun h11 => ?_) (fun h11 => ?_)
      · refine j_icN 0 dX10_euler_27 rfl ?_
        refine j_ist_1 dX10_euler_28 (by decide) rfl ?_
        have K0 := K9 0 (by omega)
        rw [cpR_0] at K0
        refine j_mem ?_ K0
        exact (sI_id (sI (c0 M) 58 (cpR (fun _ => nI 0) (mI M 58) u)) 59).symm
      · exact absurd (Nat.le_of_eq hu.symm) h11
    · skip
      refine j_iln dX10_euler_7 rfl rfl ?_
      refine j_siN 729 dX10_euler_8 rfl ?_
      refine j_icgeN (tgt := 27) dX10_euler_11 (by decide) (by omega) (by omega) (fun h11 => ?_) (fun h11 => ?_)
      · exact absurd h11 (by omega)
      · refine j_aln dX10_euler_14 rfl rfl ?_
        refine g_X10_25 dX10_euler_15 fl_X10_66 ?_
        refine j_iln dX10_euler_18 rfl rfl ?_
        refine j_icN 0 dX10_euler_19 rfl ?_
        refine j_azstN dX10_euler_20 rfl (fun _ => rfl) rfl (by decide) (by omega) (by decide) ?_
        refine j_incN_1 1 dX10_euler_21 rfl (by decide) rfl ?_
        refine j_goto (tgt := 7) dX10_euler_24 (by decide) ?_
        refine j_mem ?_ ih
        rw [cpR_s, sI_sI]
        rfl
  refine j_aln dX10_euler_0 rfl rfl ?_
  refine j_icN 0 dX10_euler_1 rfl ?_
  refine p_X10_0 dX10_euler_2 fl_X10_96 ?_
  refine j_icN 0 dX10_euler_5 rfl ?_
  refine j_ist_1 dX10_euler_6 (by decide) rfl ?_
  have K0 := K8 0 (by omega)
  rw [cpR_0] at K0
  refine j_mem ?_ K0
  exact (sI_id (c0 M) 58).symm
