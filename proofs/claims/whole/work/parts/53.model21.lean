/-! the model: copies of a cell -/
def addS (r : Nat → Int32) (q : Int32) : Nat → Int32 := if q = -1 then r else upd r (ntX q) (nI 1)
def cpP (r : Nat → Int32) (g : Nat → Int32) : Nat → Nat → Int32
  | 0 => r
  | k + 1 => addS (cpP r g k) (g (k + 1))
theorem cpP_0 (r g : Nat → Int32) : cpP r g 0 = r := by rw [cpP]
theorem cpP_s (r g : Nat → Int32) (k : Nat) : cpP r g (k + 1) = addS (cpP r g k) (g (k + 1)) := by rw [cpP]
def mrC (a : Nat → Int32) (c : Nat) : Int32 := clX (mcy (a 0) 0 (nI 2 * a 1 - nI 1) (nI (alN c 0))) (mcy (a 0) (nI 1) (nI 2 * a 1 - nI 1) (nI (alN c 1))) (mcy (a 0) (nI 2) (nI 2 * a 1 - nI 1) (nI (alN c 2)))
def rpC (a : Nat → Int32) (c k : Nat) : Int32 := clX (nI (alN c 0) + nI k * a 0) (nI (alN c 1) + nI k * a 1) (nI (alN c 2) + nI k * a 2)
def phC (a : Nat → Int32) (c k : Nat) : Int32 := awX c (ntX (a 1)) (nI k)
def copR (kd : Int32) (a : Nat → Int32) (mk : Int32) (c : Nat) (r : Nat → Int32) : Nat → Int32 :=
  if kd = nI 109 then addS r (mrC a c) else if kd = nI 112 then cpP r (rpC a c) (a 3).toInt.toNat else if kd = nI 101 ∧ ¬ mk = 0 then cpP r (phC a c) (a 2).toInt.toNat else r
theorem mcy_t (k s v : Int32) : mcy k k s v = s - v := if_pos rfl
theorem mcy_f {A k s v : Int32} (h : ¬ A = k) : mcy A k s v = v := if_neg h
theorem c_X10_addsS {l : Launch} {E : Ev} {M : Mm} {q9 : Int32} (hq : ¬ q9 = -1 → ∃ t, t < 512 ∧ q9 = nI t) : Ct l E yX10_adds cX10_adds 2 none 1 0 0 [.ref (eA E 12 0), .int q9] M (dn (sI M 55 (addS (mI M 55) q9))) := by
  have h := c_X10_adds (l := l) (E := E) (M := M) hq
  by_cases e : q9 = -1
  · rw [if_pos e] at h
    unfold addS
    rw [if_pos e, sI_id]
    exact h
  · rw [if_neg e] at h
    unfold addS
    rw [if_neg e]
    exact h
theorem nt_gt {x : Int32} {j : Nat} (hj : j < 2 ^ 31) (h : x < nI j) : x.toInt.toNat ≤ j - 1 := by
  have h := Int32.lt_iff_toInt_lt.mp h
  rw [nI_toInt hj] at h
  omega
theorem nt_le {x : Int32} {j : Nat} (hj : j + 1 < 2 ^ 31) (h : ¬ x < nI (j + 1)) : j < x.toInt.toNat := by
  have h := Int32.not_lt.mp h
  have h := Int32.le_iff_toInt_le.mp h
  rw [nI_toInt hj] at h
  omega
set_option maxRecDepth 100000 in
set_option maxHeartbeats 4000000 in
theorem c_X10_copies {l : Launch} {E : Ev} {M : Mm} {f c : Nat} (hf : f < 40) (hc : c < 512) (ht : ∀ w, w < 6 → mT (mI M 46 (6 * f + w)) = true) (hB : ∀ w, w < 6 → (dmX M f w).toInt ≤ 99) (hm : mI M 45 f = nI 109 → ∃ x, x < 3 ∧ dmX M f 0 = nI x) (he : mI M 45 f = nI 101 → ¬ mI M 57 c = 0 → ∃ s, s < 6 ∧ dmX M f 1 = nI s) : Ct l E yX10_copies cX10_copies 9 none 4 0 0 [.ref (eA E 12 0), .int (nI f), .int (nI c)] M (dn (sI M 55 (copR (mI M 45 f) (dmX M f) (mI M 57 c) c (mI M 55)))) := by
  refine Ct.of (own := RX10) rfl [some (.ref (eA E 12 0)), some (.int (nI f)), some (.int (nI c)), none, none, none, none, none, none] (by decide) (Nat.le_of_ble_eq_true rfl) rfl ?_
  have T1 : ∀ (x7 x8 : Int32), (mI M 45 f) = nI 109 → Jd l E RX10 cX10_copies 9 none [] (rmm 4 0 0) (QfN E (dn (sI M 55 (copR (mI M 45 f) (dmX M f) (mI M 57 c) c (mI M 55)))) 0 0) 0 0 106 [some (.ref (eA E 12 0)), some (.int (nI f)), some (.int (nI c)), some (.int (mI M 45 f)), some (.int (nI (alN c 0))), some (.int (nI (alN c 1))), some (.int (nI (alN c 2))), some (.int x7), some (.int x8)] [] (sI M 55 (addS (mI M 55) (mrC (dmX M f) c))) := by
    intro x7 x8 hk
    refine j_icN 1 dX10_copies_106 rfl ?_
    refine j_ist_7 dX10_copies_107 (by decide) rfl ?_
    refine j_iln dX10_copies_109 rfl rfl ?_
    refine j_biN 112 dX10_copies_110 rfl ?_
    refine j_icne (tgt := 175) dX10_copies_112 (by decide) (fun h112 => ?_) (fun h112 => ?_)
    · refine j_icN 1 dX10_copies_175 rfl ?_
      refine j_ist_7 dX10_copies_176 (by decide) rfl ?_
      refine j_iln dX10_copies_178 rfl rfl ?_
      refine j_biN 101 dX10_copies_179 rfl ?_
      refine j_icne (tgt := 226) dX10_copies_181 (by decide) (fun h181 => ?_) (fun h181 => ?_)
      · exact j_vret dX10_copies_226 rfl (Nat.le_of_ble_eq_true rfl) (Nat.le_of_ble_eq_true rfl) ⟨rfl, by unfold copR; rw [if_pos hk]⟩
      · exact absurd (hk.symm.trans h181) (by decide)
    · exact absurd (hk.symm.trans h112) (by decide)
  have T2 : (mI M 45 f) = nI 112 → Jd l E RX10 cX10_copies 9 none [] (rmm 4 0 0) (QfN E (dn (sI M 55 (copR (mI M 45 f) (dmX M f) (mI M 57 c) c (mI M 55)))) 0 0) 0 0 106 [some (.ref (eA E 12 0)), some (.int (nI f)), some (.int (nI c)), some (.int (mI M 45 f)), some (.int (nI (alN c 0))), some (.int (nI (alN c 1))), some (.int (nI (alN c 2))), none, none] [] M := by
    intro hk
    obtain ⟨D, hD⟩ : ∃ D, ((dmX M f 3).toInt.toNat) = D := ⟨_, rfl⟩
    have hD9 : D ≤ 99 := by have := hB 3 (by decide); omega
    have K : ∀ j, j ≤ D → Jd l E RX10 cX10_copies 9 none [] (rmm 4 0 0) (QfN E (dn (sI M 55 (copR (mI M 45 f) (dmX M f) (mI M 57 c) c (mI M 55)))) 0 0) 0 0 109 [some (.ref (eA E 12 0)), some (.int (nI f)), some (.int (nI c)), some (.int (mI M 45 f)), some (.int (nI (alN c 0))), some (.int (nI (alN c 1))), some (.int (nI (alN c 2))), some (.int (nI (j + 1))), none] [] (sI M 55 (cpP (mI M 55) (rpC (dmX M f) c) j)) := by
      refine up_to D _ ?_ (fun j hj ih => ?_)
      · skip
        refine j_iln dX10_copies_109 rfl rfl ?_
        refine j_biN 112 dX10_copies_110 rfl ?_
        refine j_icne (tgt := 175) dX10_copies_112 (by decide) (fun h112 => ?_) (fun h112 => ?_)
        · exact absurd hk h112
        · refine j_il dX10_copies_115 rfl ?_
          refine j_aln dX10_copies_117 rfl rfl ?_
          refine j_iln dX10_copies_118 rfl rfl ?_
          refine j_icN 3 dX10_copies_119 rfl ?_
          refine j_V2d mf_X10_dimension ml_X10_146 dX10_copies_120 (Nat.le_of_ble_eq_true rfl) (Nat.le_of_ble_eq_true rfl) (Nat.le_of_ble_eq_true rfl) ⟨(Nat.le_of_ble_eq_true rfl), (Nat.le_of_ble_eq_true rfl)⟩ (by first | assumption | decide | (simp only [nv] at *; omega)) rfl rfl (c_X10_dimension (M := (sI M 55 (cpP (mI M 55) (rpC (dmX M f) c) D))) (w := 3) hf (by decide) (ht 3 (by decide))) ?_
          refine j_icgt (tgt := 175) dX10_copies_123 (by decide) (fun h123 => ?_) (fun h123 => ?_)
          · refine j_icN 1 dX10_copies_175 rfl ?_
            refine j_ist_7 dX10_copies_176 (by decide) rfl ?_
            refine j_iln dX10_copies_178 rfl rfl ?_
            refine j_biN 101 dX10_copies_179 rfl ?_
            refine j_icne (tgt := 226) dX10_copies_181 (by decide) (fun h181 => ?_) (fun h181 => ?_)
            · exact j_vret dX10_copies_226 rfl (Nat.le_of_ble_eq_true rfl) (Nat.le_of_ble_eq_true rfl) ⟨rfl, by unfold copR; rw [if_neg (by rw [hk]; decide), if_pos hk, hD]⟩
            · exact absurd (hk.symm.trans h181) (by decide)
          · have h9 := nt_le (x := dmX M f 3) (j := D) (by omega) h123
            exact absurd h9 (by omega)
      · skip
        refine j_iln dX10_copies_109 rfl rfl ?_
        refine j_biN 112 dX10_copies_110 rfl ?_
        refine j_icne (tgt := 175) dX10_copies_112 (by decide) (fun h112 => ?_) (fun h112 => ?_)
        · exact absurd hk h112
        · refine j_il dX10_copies_115 rfl ?_
          refine j_aln dX10_copies_117 rfl rfl ?_
          refine j_iln dX10_copies_118 rfl rfl ?_
          refine j_icN 3 dX10_copies_119 rfl ?_
          refine j_V2d mf_X10_dimension ml_X10_146 dX10_copies_120 (Nat.le_of_ble_eq_true rfl) (Nat.le_of_ble_eq_true rfl) (Nat.le_of_ble_eq_true rfl) ⟨(Nat.le_of_ble_eq_true rfl), (Nat.le_of_ble_eq_true rfl)⟩ (by first | assumption | decide | (simp only [nv] at *; omega)) rfl rfl (c_X10_dimension (M := (sI M 55 (cpP (mI M 55) (rpC (dmX M f) c) j))) (w := 3) hf (by decide) (ht 3 (by decide))) ?_
          refine j_icgt (tgt := 175) dX10_copies_123 (by decide) (fun h123 => ?_) (fun h123 => ?_)
          · have h9 := nt_gt (x := dmX M f 3) (j := j + 1) (by omega) h123
            exact absurd hj (by omega)
          · refine j_aln dX10_copies_126 rfl rfl ?_
            refine j_il dX10_copies_127 rfl ?_
            refine j_il dX10_copies_129 rfl ?_
            refine j_aln dX10_copies_131 rfl rfl ?_
            refine j_iln dX10_copies_132 rfl rfl ?_
            refine j_icN 0 dX10_copies_133 rfl ?_
            refine j_V2d mf_X10_dimension ml_X10_146 dX10_copies_134 (Nat.le_of_ble_eq_true rfl) (Nat.le_of_ble_eq_true rfl) (Nat.le_of_ble_eq_true rfl) ⟨(Nat.le_of_ble_eq_true rfl), (Nat.le_of_ble_eq_true rfl)⟩ (by first | assumption | decide | (simp only [nv] at *; omega)) rfl rfl (c_X10_dimension (M := (sI M 55 (cpP (mI M 55) (rpC (dmX M f) c) j))) (w := 0) hf (by decide) (ht 0 (by decide))) ?_
            refine j_imul dX10_copies_137 ?_
            refine j_iadd dX10_copies_138 ?_
            refine j_il dX10_copies_139 rfl ?_
            refine j_il dX10_copies_141 rfl ?_
            refine j_aln dX10_copies_143 rfl rfl ?_
            refine j_iln dX10_copies_144 rfl rfl ?_
            refine j_icN 1 dX10_copies_145 rfl ?_
            refine j_V2d mf_X10_dimension ml_X10_146 dX10_copies_146 (Nat.le_of_ble_eq_true rfl) (Nat.le_of_ble_eq_true rfl) (Nat.le_of_ble_eq_true rfl) ⟨(Nat.le_of_ble_eq_true rfl), (Nat.le_of_ble_eq_true rfl)⟩ (by first | assumption | decide | (simp only [nv] at *; omega)) rfl rfl (c_X10_dimension (M := (sI M 55 (cpP (mI M 55) (rpC (dmX M f) c) j))) (w := 1) hf (by decide) (ht 1 (by decide))) ?_
            refine j_imul dX10_copies_149 ?_
            refine j_iadd dX10_copies_150 ?_
            refine j_il dX10_copies_151 rfl ?_
            refine j_il dX10_copies_153 rfl ?_
            refine j_aln dX10_copies_155 rfl rfl ?_
            refine j_iln dX10_copies_156 rfl rfl ?_
            refine j_icN 2 dX10_copies_157 rfl ?_
            refine j_V2d mf_X10_dimension ml_X10_146 dX10_copies_158 (Nat.le_of_ble_eq_true rfl) (Nat.le_of_ble_eq_true rfl) (Nat.le_of_ble_eq_true rfl) ⟨(Nat.le_of_ble_eq_true rfl), (Nat.le_of_ble_eq_true rfl)⟩ (by first | assumption | decide | (simp only [nv] at *; omega)) rfl rfl (c_X10_dimension (M := (sI M 55 (cpP (mI M 55) (rpC (dmX M f) c) j))) (w := 2) hf (by decide) (ht 2 (by decide))) ?_
            refine j_imul dX10_copies_161 ?_
            refine j_iadd dX10_copies_162 ?_
            refine j_S3d mf_X10_cell ml_X10_180 dX10_copies_163 (Nat.le_of_ble_eq_true rfl) (Nat.le_of_ble_eq_true rfl) (Nat.le_of_ble_eq_true rfl) ⟨(Nat.le_of_ble_eq_true rfl), (Nat.le_of_ble_eq_true rfl)⟩ c_X10_cell ?_
            refine j_V1n mf_X10_adds ml_X10_198 dX10_copies_166 (Nat.le_of_ble_eq_true rfl) (Nat.le_of_ble_eq_true rfl) (Nat.le_of_ble_eq_true rfl) ⟨(Nat.le_of_ble_eq_true rfl), (Nat.le_of_ble_eq_true rfl)⟩ (by first | assumption | decide | (simp only [nv] at *; omega)) rfl rfl (c_X10_addsS (fun q => clX_n q)) ?_
            refine j_incN_7 1 dX10_copies_169 rfl (by decide) rfl ?_
            refine j_goto (tgt := 109) dX10_copies_172 (by decide) ?_
            refine j_mem ?_ ih
            rw [sI_sI, cpP_s]
            rfl
    refine j_icN 1 dX10_copies_106 rfl ?_
    refine j_ist_7 dX10_copies_107 (by decide) rfl ?_
    have K0 := K 0 (by omega)
    rw [cpP_0, sI_id] at K0
    exact K0
  have T3 : (mI M 45 f) = nI 101 → ¬ mI M 57 c = 0 → Jd l E RX10 cX10_copies 9 none [] (rmm 4 0 0) (QfN E (dn (sI M 55 (copR (mI M 45 f) (dmX M f) (mI M 57 c) c (mI M 55)))) 0 0) 0 0 106 [some (.ref (eA E 12 0)), some (.int (nI f)), some (.int (nI c)), some (.int (mI M 45 f)), some (.int (nI (alN c 0))), some (.int (nI (alN c 1))), some (.int (nI (alN c 2))), none, none] [] M := by
    intro hk hmk
    obtain ⟨s, hs, hse⟩ := he hk hmk
    have hph : phC (dmX M f) c = (fun k => awX c s (nI k)) := by funext k; unfold phC; rw [hse, ntX_nI (by omega)]
    obtain ⟨D, hD⟩ : ∃ D, ((dmX M f 2).toInt.toNat) = D := ⟨_, rfl⟩
    have hD9 : D ≤ 99 := by have := hB 2 (by decide); omega
    have K : ∀ j, j ≤ D → Jd l E RX10 cX10_copies 9 none [] (rmm 4 0 0) (QfN E (dn (sI M 55 (copR (mI M 45 f) (dmX M f) (mI M 57 c) c (mI M 55)))) 0 0) 0 0 178 [some (.ref (eA E 12 0)), some (.int (nI f)), some (.int (nI c)), some (.int (mI M 45 f)), some (.int (nI (alN c 0))), some (.int (nI (alN c 1))), some (.int (nI (alN c 2))), some (.int (nI (j + 1))), none] [] (sI M 55 (cpP (mI M 55) (fun k => awX c s (nI k)) j)) := by
      refine up_to D _ ?_ (fun j hj ih => ?_)
      · skip
        refine j_iln dX10_copies_178 rfl rfl ?_
        refine j_biN 101 dX10_copies_179 rfl ?_
        refine j_icne (tgt := 226) dX10_copies_181 (by decide) (fun h181 => ?_) (fun h181 => ?_)
        · exact absurd hk h181
        · refine j_aln dX10_copies_184 rfl rfl ?_
          refine g_X10_24 dX10_copies_185 fl_X10_63 ?_
          refine j_iln dX10_copies_188 rfl rfl ?_
          refine j_azldN dX10_copies_189 rfl rfl rfl (by decide) (by omega) ?_
          refine j_ifeq (tgt := 226) dX10_copies_190 (by decide) (fun h190 => ?_) (fun h190 => ?_)
          · exact absurd h190 hmk
          · refine j_il dX10_copies_193 rfl ?_
            refine j_aln dX10_copies_195 rfl rfl ?_
            refine j_iln dX10_copies_196 rfl rfl ?_
            refine j_icN 2 dX10_copies_197 rfl ?_
            refine j_V2d mf_X10_dimension ml_X10_146 dX10_copies_198 (Nat.le_of_ble_eq_true rfl) (Nat.le_of_ble_eq_true rfl) (Nat.le_of_ble_eq_true rfl) ⟨(Nat.le_of_ble_eq_true rfl), (Nat.le_of_ble_eq_true rfl)⟩ (by first | assumption | decide | (simp only [nv] at *; omega)) rfl rfl (c_X10_dimension (M := (sI M 55 (cpP (mI M 55) (fun k => awX c s (nI k)) D))) (w := 2) hf (by decide) (ht 2 (by decide))) ?_
            refine j_icgt (tgt := 226) dX10_copies_201 (by decide) (fun h201 => ?_) (fun h201 => ?_)
            · exact j_vret dX10_copies_226 rfl (Nat.le_of_ble_eq_true rfl) (Nat.le_of_ble_eq_true rfl) ⟨rfl, by unfold copR; rw [if_neg (by rw [hk]; decide), if_neg (by rw [hk]; decide), if_pos ⟨hk, hmk⟩, hD, hph]⟩
            · have h9 := nt_le (x := dmX M f 2) (j := D) (by omega) h201
              exact absurd h9 (by omega)
      · skip
        refine j_iln dX10_copies_178 rfl rfl ?_
        refine j_biN 101 dX10_copies_179 rfl ?_
        refine j_icne (tgt := 226) dX10_copies_181 (by decide) (fun h181 => ?_) (fun h181 => ?_)
        · exact absurd hk h181
        · refine j_aln dX10_copies_184 rfl rfl ?_
          refine g_X10_24 dX10_copies_185 fl_X10_63 ?_
          refine j_iln dX10_copies_188 rfl rfl ?_
          refine j_azldN dX10_copies_189 rfl rfl rfl (by decide) (by omega) ?_
          refine j_ifeq (tgt := 226) dX10_copies_190 (by decide) (fun h190 => ?_) (fun h190 => ?_)
          · exact absurd h190 hmk
          · refine j_il dX10_copies_193 rfl ?_
            refine j_aln dX10_copies_195 rfl rfl ?_
            refine j_iln dX10_copies_196 rfl rfl ?_
            refine j_icN 2 dX10_copies_197 rfl ?_
            refine j_V2d mf_X10_dimension ml_X10_146 dX10_copies_198 (Nat.le_of_ble_eq_true rfl) (Nat.le_of_ble_eq_true rfl) (Nat.le_of_ble_eq_true rfl) ⟨(Nat.le_of_ble_eq_true rfl), (Nat.le_of_ble_eq_true rfl)⟩ (by first | assumption | decide | (simp only [nv] at *; omega)) rfl rfl (c_X10_dimension (M := (sI M 55 (cpP (mI M 55) (fun k => awX c s (nI k)) j))) (w := 2) hf (by decide) (ht 2 (by decide))) ?_
            refine j_icgt (tgt := 226) dX10_copies_201 (by decide) (fun h201 => ?_) (fun h201 => ?_)
            · have h9 := nt_gt (x := dmX M f 2) (j := j + 1) (by omega) h201
              exact absurd hj (by omega)
            · refine j_aln dX10_copies_204 rfl rfl ?_
              refine j_iln dX10_copies_205 rfl rfl ?_
              refine j_aln dX10_copies_206 rfl rfl ?_
              refine j_iln dX10_copies_207 rfl rfl ?_
              refine j_icN 1 dX10_copies_208 rfl ?_
              refine j_V2d mf_X10_dimension ml_X10_146 dX10_copies_209 (Nat.le_of_ble_eq_true rfl) (Nat.le_of_ble_eq_true rfl) (Nat.le_of_ble_eq_true rfl) ⟨(Nat.le_of_ble_eq_true rfl), (Nat.le_of_ble_eq_true rfl)⟩ (by first | assumption | decide | (simp only [nv] at *; omega)) rfl rfl (c_X10_dimension (M := (sI M 55 (cpP (mI M 55) (fun k => awX c s (nI k)) j))) (w := 1) hf (by decide) (ht 1 (by decide))) ?_
              refine j_topi hse ?_
              refine j_il dX10_copies_212 rfl ?_
              refine j_S3d mf_X10_away ml_X10_184 dX10_copies_214 (Nat.le_of_ble_eq_true rfl) (Nat.le_of_ble_eq_true rfl) (Nat.le_of_ble_eq_true rfl) ⟨(Nat.le_of_ble_eq_true rfl), (Nat.le_of_ble_eq_true rfl)⟩ (c_X10_away (w := nI (j + 1)) hc hs) ?_
              refine j_V1n mf_X10_adds ml_X10_198 dX10_copies_217 (Nat.le_of_ble_eq_true rfl) (Nat.le_of_ble_eq_true rfl) (Nat.le_of_ble_eq_true rfl) ⟨(Nat.le_of_ble_eq_true rfl), (Nat.le_of_ble_eq_true rfl)⟩ (by first | assumption | decide | (simp only [nv] at *; omega)) rfl rfl (c_X10_addsS (fun q => aw_n q)) ?_
              refine j_incN_7 1 dX10_copies_220 rfl (by decide) rfl ?_
              refine j_goto (tgt := 178) dX10_copies_223 (by decide) ?_
              refine j_mem ?_ ih
              rw [sI_sI, cpP_s]
              rfl
    refine j_icN 1 dX10_copies_106 rfl ?_
    refine j_ist_7 dX10_copies_107 (by decide) rfl ?_
    refine j_iln dX10_copies_109 rfl rfl ?_
    refine j_biN 112 dX10_copies_110 rfl ?_
    refine j_icne (tgt := 175) dX10_copies_112 (by decide) (fun h112 => ?_) (fun h112 => ?_)
    · refine j_icN 1 dX10_copies_175 rfl ?_
      refine j_ist_7 dX10_copies_176 (by decide) rfl ?_
      have K0 := K 0 (by omega)
      rw [cpP_0, sI_id] at K0
      exact K0
    · exact absurd (hk.symm.trans h112) (by decide)
  have T0 : ¬ (mI M 45 f) = nI 109 → ¬ (mI M 45 f) = nI 112 → ¬ ((mI M 45 f) = nI 101 ∧ ¬ mI M 57 c = 0) → Jd l E RX10 cX10_copies 9 none [] (rmm 4 0 0) (QfN E (dn (sI M 55 (copR (mI M 45 f) (dmX M f) (mI M 57 c) c (mI M 55)))) 0 0) 0 0 106 [some (.ref (eA E 12 0)), some (.int (nI f)), some (.int (nI c)), some (.int (mI M 45 f)), some (.int (nI (alN c 0))), some (.int (nI (alN c 1))), some (.int (nI (alN c 2))), none, none] [] M := by
    intro h1 h2 h3
    refine j_icN 1 dX10_copies_106 rfl ?_
    refine j_ist_7 dX10_copies_107 (by decide) rfl ?_
    refine j_iln dX10_copies_109 rfl rfl ?_
    refine j_biN 112 dX10_copies_110 rfl ?_
    refine j_icne (tgt := 175) dX10_copies_112 (by decide) (fun h112 => ?_) (fun h112 => ?_)
    · refine j_icN 1 dX10_copies_175 rfl ?_
      refine j_ist_7 dX10_copies_176 (by decide) rfl ?_
      refine j_iln dX10_copies_178 rfl rfl ?_
      refine j_biN 101 dX10_copies_179 rfl ?_
      refine j_icne (tgt := 226) dX10_copies_181 (by decide) (fun h181 => ?_) (fun h181 => ?_)
      · exact j_vret dX10_copies_226 rfl (Nat.le_of_ble_eq_true rfl) (Nat.le_of_ble_eq_true rfl) ⟨rfl, by unfold copR; rw [if_neg h1, if_neg h2, if_neg h3, sI_id]⟩
      · refine j_aln dX10_copies_184 rfl rfl ?_
        refine g_X10_24 dX10_copies_185 fl_X10_63 ?_
        refine j_iln dX10_copies_188 rfl rfl ?_
        refine j_azldN dX10_copies_189 rfl rfl rfl (by decide) (by omega) ?_
        refine j_ifeq (tgt := 226) dX10_copies_190 (by decide) (fun h190 => ?_) (fun h190 => ?_)
        · exact j_vret dX10_copies_226 rfl (Nat.le_of_ble_eq_true rfl) (Nat.le_of_ble_eq_true rfl) ⟨rfl, by unfold copR; rw [if_neg h1, if_neg h2, if_neg h3, sI_id]⟩
        · exact absurd ⟨h181, h190⟩ h3
    · exact absurd h112 h2
  refine j_aln dX10_copies_0 rfl rfl ?_
  refine g_X10_9 dX10_copies_1 fl_X10_26 ?_
  refine j_iln dX10_copies_4 rfl rfl ?_
  refine j_acldN dX10_copies_5 rfl rfl rfl (by decide) (by omega) ?_
  refine j_ist_3 dX10_copies_6 (by decide) rfl ?_
  refine j_iln dX10_copies_7 rfl rfl ?_
  refine j_icN 0 dX10_copies_8 rfl ?_
  refine j_S2d mf_X10_along ml_X10_177 dX10_copies_9 (Nat.le_of_ble_eq_true rfl) (Nat.le_of_ble_eq_true rfl) (Nat.le_of_ble_eq_true rfl) ⟨(Nat.le_of_ble_eq_true rfl), (Nat.le_of_ble_eq_true rfl)⟩ (c_X10_along hc (by decide)) ?_
  refine j_ist_4 dX10_copies_12 (by decide) rfl ?_
  refine j_iln dX10_copies_14 rfl rfl ?_
  refine j_icN 1 dX10_copies_15 rfl ?_
  refine j_S2d mf_X10_along ml_X10_177 dX10_copies_16 (Nat.le_of_ble_eq_true rfl) (Nat.le_of_ble_eq_true rfl) (Nat.le_of_ble_eq_true rfl) ⟨(Nat.le_of_ble_eq_true rfl), (Nat.le_of_ble_eq_true rfl)⟩ (c_X10_along hc (by decide)) ?_
  refine j_ist_5 dX10_copies_19 (by decide) rfl ?_
  refine j_iln dX10_copies_21 rfl rfl ?_
  refine j_icN 2 dX10_copies_22 rfl ?_
  refine j_S2d mf_X10_along ml_X10_177 dX10_copies_23 (Nat.le_of_ble_eq_true rfl) (Nat.le_of_ble_eq_true rfl) (Nat.le_of_ble_eq_true rfl) ⟨(Nat.le_of_ble_eq_true rfl), (Nat.le_of_ble_eq_true rfl)⟩ (c_X10_along hc (by decide)) ?_
  refine j_ist_6 dX10_copies_26 (by decide) rfl ?_
  refine j_iln dX10_copies_28 rfl rfl ?_
  refine j_biN 109 dX10_copies_29 rfl ?_
  refine j_icne (tgt := 106) dX10_copies_31 (by decide) (fun h31 => ?_) (fun h31 => ?_)
  · by_cases h2 : (mI M 45 f) = nI 112
    · exact T2 h2
    · by_cases h3 : (mI M 45 f) = nI 101 ∧ ¬ mI M 57 c = 0
      · exact T3 h3.1 h3.2
      · exact T0 h31 h2 h3
  · refine j_aln dX10_copies_34 rfl rfl ?_
    refine j_iln dX10_copies_35 rfl rfl ?_
    refine j_icN 0 dX10_copies_36 rfl ?_
    refine j_V2d mf_X10_dimension ml_X10_146 dX10_copies_37 (Nat.le_of_ble_eq_true rfl) (Nat.le_of_ble_eq_true rfl) (Nat.le_of_ble_eq_true rfl) ⟨(Nat.le_of_ble_eq_true rfl), (Nat.le_of_ble_eq_true rfl)⟩ (by first | assumption | decide | (simp only [nv] at *; omega)) rfl rfl (c_X10_dimension (M := M) (w := 0) hf (by decide) (ht 0 (by decide))) ?_
    obtain ⟨ax, hax, hae⟩ := hm h31
    refine j_topi hae ?_
    have h3 : ax = 0 ∨ ax = 1 ∨ ax = 2 := by omega
    rcases h3 with rfl | rfl | rfl
    · skip
      refine j_ist_7 dX10_copies_40 (by decide) rfl ?_
      refine j_icN 2 dX10_copies_42 rfl ?_
      refine j_aln dX10_copies_43 rfl rfl ?_
      refine j_iln dX10_copies_44 rfl rfl ?_
      refine j_icN 1 dX10_copies_45 rfl ?_
      refine j_V2d mf_X10_dimension ml_X10_146 dX10_copies_46 (Nat.le_of_ble_eq_true rfl) (Nat.le_of_ble_eq_true rfl) (Nat.le_of_ble_eq_true rfl) ⟨(Nat.le_of_ble_eq_true rfl), (Nat.le_of_ble_eq_true rfl)⟩ (by first | assumption | decide | (simp only [nv] at *; omega)) rfl rfl (c_X10_dimension (M := M) (w := 1) hf (by decide) (ht 1 (by decide))) ?_
      refine j_imul dX10_copies_49 ?_
      refine j_icN 1 dX10_copies_50 rfl ?_
      refine j_isub dX10_copies_51 ?_
      refine j_iln dX10_copies_52 rfl rfl ?_
      refine j_il dX10_copies_53 rfl ?_
      refine j_S2d mf_X10_along ml_X10_177 dX10_copies_55 (Nat.le_of_ble_eq_true rfl) (Nat.le_of_ble_eq_true rfl) (Nat.le_of_ble_eq_true rfl) ⟨(Nat.le_of_ble_eq_true rfl), (Nat.le_of_ble_eq_true rfl)⟩ (c_X10_along hc (by decide)) ?_
      refine j_isub dX10_copies_58 ?_
      refine j_ist_8 dX10_copies_59 (by decide) rfl ?_
      refine j_aln dX10_copies_61 rfl rfl ?_
      refine j_il dX10_copies_62 rfl ?_
      refine j_ifneN (tgt := 72) dX10_copies_64 (by decide) (by omega) (fun h64 => ?_) (fun h64 => ?_)
      · exact absurd rfl h64
      · refine j_il dX10_copies_67 rfl ?_
        refine j_goto (tgt := 74) dX10_copies_69 (by decide) ?_
        refine j_il dX10_copies_74 rfl ?_
        refine j_icN 1 dX10_copies_76 rfl ?_
        refine j_icneN (tgt := 85) dX10_copies_77 (by decide) (by omega) (by omega) (fun h77 => ?_) (fun h77 => ?_)
        · refine j_il dX10_copies_85 rfl ?_
          refine j_il dX10_copies_87 rfl ?_
          refine j_icN 2 dX10_copies_89 rfl ?_
          refine j_icneN (tgt := 98) dX10_copies_90 (by decide) (by omega) (by omega) (fun h90 => ?_) (fun h90 => ?_)
          · refine j_il dX10_copies_98 rfl ?_
            refine j_S3d mf_X10_cell ml_X10_180 dX10_copies_100 (Nat.le_of_ble_eq_true rfl) (Nat.le_of_ble_eq_true rfl) (Nat.le_of_ble_eq_true rfl) ⟨(Nat.le_of_ble_eq_true rfl), (Nat.le_of_ble_eq_true rfl)⟩ c_X10_cell ?_
            refine j_topi (show _ = mrC (dmX M f) c from by unfold mrC; rw [hae]; rw [show mcy (nI 0) 0 (nI 2 * dmX M f 1 - nI 1) (nI (alN c 0)) = (nI 2 * dmX M f 1 - nI 1) - nI (alN c 0) from mcy_t _ _ _, show mcy (nI 0) (nI 1) (nI 2 * dmX M f 1 - nI 1) (nI (alN c 1)) = nI (alN c 1) from mcy_f (by decide), show mcy (nI 0) (nI 2) (nI 2 * dmX M f 1 - nI 1) (nI (alN c 2)) = nI (alN c 2) from mcy_f (by decide)]; rfl) ?_
            refine j_V1n mf_X10_adds ml_X10_198 dX10_copies_103 (Nat.le_of_ble_eq_true rfl) (Nat.le_of_ble_eq_true rfl) (Nat.le_of_ble_eq_true rfl) ⟨(Nat.le_of_ble_eq_true rfl), (Nat.le_of_ble_eq_true rfl)⟩ (by first | assumption | decide | (simp only [nv] at *; omega)) rfl rfl (c_X10_addsS (fun q => clX_n q)) ?_
            exact T1 _ _ h31
          · exact absurd h90 (by decide)
        · exact absurd h77 (by decide)
    · skip
      refine j_ist_7 dX10_copies_40 (by decide) rfl ?_
      refine j_icN 2 dX10_copies_42 rfl ?_
      refine j_aln dX10_copies_43 rfl rfl ?_
      refine j_iln dX10_copies_44 rfl rfl ?_
      refine j_icN 1 dX10_copies_45 rfl ?_
      refine j_V2d mf_X10_dimension ml_X10_146 dX10_copies_46 (Nat.le_of_ble_eq_true rfl) (Nat.le_of_ble_eq_true rfl) (Nat.le_of_ble_eq_true rfl) ⟨(Nat.le_of_ble_eq_true rfl), (Nat.le_of_ble_eq_true rfl)⟩ (by first | assumption | decide | (simp only [nv] at *; omega)) rfl rfl (c_X10_dimension (M := M) (w := 1) hf (by decide) (ht 1 (by decide))) ?_
      refine j_imul dX10_copies_49 ?_
      refine j_icN 1 dX10_copies_50 rfl ?_
      refine j_isub dX10_copies_51 ?_
      refine j_iln dX10_copies_52 rfl rfl ?_
      refine j_il dX10_copies_53 rfl ?_
      refine j_S2d mf_X10_along ml_X10_177 dX10_copies_55 (Nat.le_of_ble_eq_true rfl) (Nat.le_of_ble_eq_true rfl) (Nat.le_of_ble_eq_true rfl) ⟨(Nat.le_of_ble_eq_true rfl), (Nat.le_of_ble_eq_true rfl)⟩ (c_X10_along hc (by decide)) ?_
      refine j_isub dX10_copies_58 ?_
      refine j_ist_8 dX10_copies_59 (by decide) rfl ?_
      refine j_aln dX10_copies_61 rfl rfl ?_
      refine j_il dX10_copies_62 rfl ?_
      refine j_ifneN (tgt := 72) dX10_copies_64 (by decide) (by omega) (fun h64 => ?_) (fun h64 => ?_)
      · refine j_il dX10_copies_72 rfl ?_
        refine j_il dX10_copies_74 rfl ?_
        refine j_icN 1 dX10_copies_76 rfl ?_
        refine j_icneN (tgt := 85) dX10_copies_77 (by decide) (by omega) (by omega) (fun h77 => ?_) (fun h77 => ?_)
        · exact absurd rfl h77
        · refine j_il dX10_copies_80 rfl ?_
          refine j_goto (tgt := 87) dX10_copies_82 (by decide) ?_
          refine j_il dX10_copies_87 rfl ?_
          refine j_icN 2 dX10_copies_89 rfl ?_
          refine j_icneN (tgt := 98) dX10_copies_90 (by decide) (by omega) (by omega) (fun h90 => ?_) (fun h90 => ?_)
          · refine j_il dX10_copies_98 rfl ?_
            refine j_S3d mf_X10_cell ml_X10_180 dX10_copies_100 (Nat.le_of_ble_eq_true rfl) (Nat.le_of_ble_eq_true rfl) (Nat.le_of_ble_eq_true rfl) ⟨(Nat.le_of_ble_eq_true rfl), (Nat.le_of_ble_eq_true rfl)⟩ c_X10_cell ?_
            refine j_topi (show _ = mrC (dmX M f) c from by unfold mrC; rw [hae]; rw [show mcy (nI 1) 0 (nI 2 * dmX M f 1 - nI 1) (nI (alN c 0)) = nI (alN c 0) from mcy_f (by decide), show mcy (nI 1) (nI 1) (nI 2 * dmX M f 1 - nI 1) (nI (alN c 1)) = (nI 2 * dmX M f 1 - nI 1) - nI (alN c 1) from mcy_t _ _ _, show mcy (nI 1) (nI 2) (nI 2 * dmX M f 1 - nI 1) (nI (alN c 2)) = nI (alN c 2) from mcy_f (by decide)]; rfl) ?_
            refine j_V1n mf_X10_adds ml_X10_198 dX10_copies_103 (Nat.le_of_ble_eq_true rfl) (Nat.le_of_ble_eq_true rfl) (Nat.le_of_ble_eq_true rfl) ⟨(Nat.le_of_ble_eq_true rfl), (Nat.le_of_ble_eq_true rfl)⟩ (by first | assumption | decide | (simp only [nv] at *; omega)) rfl rfl (c_X10_addsS (fun q => clX_n q)) ?_
            exact T1 _ _ h31
          · exact absurd h90 (by decide)
      · exact absurd h64 (by decide)
    · skip
      refine j_ist_7 dX10_copies_40 (by decide) rfl ?_
      refine j_icN 2 dX10_copies_42 rfl ?_
      refine j_aln dX10_copies_43 rfl rfl ?_
      refine j_iln dX10_copies_44 rfl rfl ?_
      refine j_icN 1 dX10_copies_45 rfl ?_
      refine j_V2d mf_X10_dimension ml_X10_146 dX10_copies_46 (Nat.le_of_ble_eq_true rfl) (Nat.le_of_ble_eq_true rfl) (Nat.le_of_ble_eq_true rfl) ⟨(Nat.le_of_ble_eq_true rfl), (Nat.le_of_ble_eq_true rfl)⟩ (by first | assumption | decide | (simp only [nv] at *; omega)) rfl rfl (c_X10_dimension (M := M) (w := 1) hf (by decide) (ht 1 (by decide))) ?_
      refine j_imul dX10_copies_49 ?_
      refine j_icN 1 dX10_copies_50 rfl ?_
      refine j_isub dX10_copies_51 ?_
      refine j_iln dX10_copies_52 rfl rfl ?_
      refine j_il dX10_copies_53 rfl ?_
      refine j_S2d mf_X10_along ml_X10_177 dX10_copies_55 (Nat.le_of_ble_eq_true rfl) (Nat.le_of_ble_eq_true rfl) (Nat.le_of_ble_eq_true rfl) ⟨(Nat.le_of_ble_eq_true rfl), (Nat.le_of_ble_eq_true rfl)⟩ (c_X10_along hc (by decide)) ?_
      refine j_isub dX10_copies_58 ?_
      refine j_ist_8 dX10_copies_59 (by decide) rfl ?_
      refine j_aln dX10_copies_61 rfl rfl ?_
      refine j_il dX10_copies_62 rfl ?_
      refine j_ifneN (tgt := 72) dX10_copies_64 (by decide) (by omega) (fun h64 => ?_) (fun h64 => ?_)
      · refine j_il dX10_copies_72 rfl ?_
        refine j_il dX10_copies_74 rfl ?_
        refine j_icN 1 dX10_copies_76 rfl ?_
        refine j_icneN (tgt := 85) dX10_copies_77 (by decide) (by omega) (by omega) (fun h77 => ?_) (fun h77 => ?_)
        · refine j_il dX10_copies_85 rfl ?_
          refine j_il dX10_copies_87 rfl ?_
          refine j_icN 2 dX10_copies_89 rfl ?_
          refine j_icneN (tgt := 98) dX10_copies_90 (by decide) (by omega) (by omega) (fun h90 => ?_) (fun h90 => ?_)
          · exact absurd rfl h90
          · refine j_il dX10_copies_93 rfl ?_
            refine j_goto (tgt := 100) dX10_copies_95 (by decide) ?_
            refine j_S3d mf_X10_cell ml_X10_180 dX10_copies_100 (Nat.le_of_ble_eq_true rfl) (Nat.le_of_ble_eq_true rfl) (Nat.le_of_ble_eq_true rfl) ⟨(Nat.le_of_ble_eq_true rfl), (Nat.le_of_ble_eq_true rfl)⟩ c_X10_cell ?_
            refine j_topi (show _ = mrC (dmX M f) c from by unfold mrC; rw [hae]; rw [show mcy (nI 2) 0 (nI 2 * dmX M f 1 - nI 1) (nI (alN c 0)) = nI (alN c 0) from mcy_f (by decide), show mcy (nI 2) (nI 1) (nI 2 * dmX M f 1 - nI 1) (nI (alN c 1)) = nI (alN c 1) from mcy_f (by decide), show mcy (nI 2) (nI 2) (nI 2 * dmX M f 1 - nI 1) (nI (alN c 2)) = (nI 2 * dmX M f 1 - nI 1) - nI (alN c 2) from mcy_t _ _ _]; rfl) ?_
            refine j_V1n mf_X10_adds ml_X10_198 dX10_copies_103 (Nat.le_of_ble_eq_true rfl) (Nat.le_of_ble_eq_true rfl) (Nat.le_of_ble_eq_true rfl) ⟨(Nat.le_of_ble_eq_true rfl), (Nat.le_of_ble_eq_true rfl)⟩ (by first | assumption | decide | (simp only [nv] at *; omega)) rfl rfl (c_X10_addsS (fun q => clX_n q)) ?_
            exact T1 _ _ h31
        · exact absurd h77 (by decide)
      · exact absurd h64 (by decide)
