/-! the model: all carried out anew -/
def otC (M : Mm) (om ob k f : Nat) : Bool := decide (om ≤ k ∨ ¬ mI M 50 k = nI f ∨ ¬ mI M 52 f = mI M 48 f ∨ ob ≤ k)
def otD (M : Mm) (f : Nat) (b : Bool) : Nat → Bool
  | 0 => b
  | d + 1 => otD M f b d || decide (¬ mI M 51 (6 * f + d) = dmX M f d)
theorem otD_0 (M : Mm) (f : Nat) (b : Bool) : otD M f b 0 = b := by rw [otD]
theorem otD_s (M : Mm) (f : Nat) (b : Bool) (d : Nat) : otD M f b (d + 1) = (otD M f b d || decide (¬ mI M 51 (6 * f + d) = dmX M f d)) := by rw [otD]
def otX (M : Mm) (om ob k f : Nat) : Bool := otD M f (otC M om ob k f) 6
def loX (M : Mm) (om ob bar : Nat) (fr : Nat → Nat) (i : Nat) (x : Int32) : Prop := (x = -1 ∧ ∀ k, i ≤ k → k < bar → otX M om ob k (fr k) = false) ∨ ∃ q, x = nI q ∧ i ≤ q ∧ q < bar ∧ otX M om ob q (fr q) = true ∧ ∀ k, i ≤ k → k < q → otX M om ob k (fr k) = false
theorem loX_t {M : Mm} {om ob bar : Nat} {fr : Nat → Nat} {i : Nat} (hi : i < bar) (h : otX M om ob i (fr i) = true) : loX M om ob bar fr i (nI i) := Or.inr ⟨i, rfl, Nat.le_refl _, hi, h, fun k h1 h2 => absurd h1 (by omega)⟩
theorem loX_f {M : Mm} {om ob bar : Nat} {fr : Nat → Nat} {i : Nat} {x : Int32} (h : otX M om ob i (fr i) = false) (g : loX M om ob bar fr (i + 1) x) : loX M om ob bar fr i x := by
  have key : ∀ (k m : Nat), (∀ k, i + 1 ≤ k → k < m → otX M om ob k (fr k) = false) → i ≤ k → k < m → otX M om ob k (fr k) = false := fun k m g h1 h2 => by
    by_cases e : i = k
    · subst e; exact h
    · exact g k (by omega) h2
  rcases g with ⟨e, g⟩ | ⟨q, e, h1, h2, h3, g⟩
  · exact Or.inl ⟨e, fun k => key k bar g⟩
  · exact Or.inr ⟨q, e, by omega, h2, h3, fun k => key k q g⟩
def wkM (M : Mm) (fr : Nat → Nat) (lo : Nat) : Nat → Int64
  | 0 => 0
  | p + 1 => if lo ≤ p ∧ mI M 48 (fr p) = 0 then wkM M fr lo p + 1 else wkM M fr lo p
theorem wkM_lo {M : Mm} {fr : Nat → Nat} {lo : Nat} : ∀ p, p ≤ lo → wkM M fr lo p = 0 := by
  intro p
  induction p with
  | zero => intro _; rfl
  | succ p ih => intro h; rw [wkM, if_neg (fun q => absurd q.1 (by omega))]; exact ih (by omega)
theorem wkM_t {M : Mm} {fr : Nat → Nat} {lo p : Nat} (h1 : lo ≤ p) (h2 : mI M 48 (fr p) = 0) : wkM M fr lo (p + 1) = wkM M fr lo p + 1 := by rw [wkM, if_pos ⟨h1, h2⟩]
theorem wkM_f {M : Mm} {fr : Nat → Nat} {lo p : Nat} (h2 : ¬ mI M 48 (fr p) = 0) : wkM M fr lo (p + 1) = wkM M fr lo p := by rw [wkM, if_neg (fun q => h2 q.2)]
theorem sW_sW1 (M : Mm) (t : Nat) (a b : Int64) : sW (sW M t a) t b = sW M t b := by
  unfold sW
  refine Prod.ext rfl (Prod.ext rfl (Prod.ext rfl (Prod.ext ?_ rfl)))
  funext t'
  show (if t' = t then b else if t' = t then a else M.2.2.2.1 t') = if t' = t then b else M.2.2.2.1 t'
  split <;> rfl
theorem sW_id1 (M : Mm) (t : Nat) : sW M t (mW M t) = M := by
  unfold sW
  refine Prod.ext rfl (Prod.ext rfl (Prod.ext rfl (Prod.ext ?_ rfl)))
  funext t'
  show (if t' = t then M.2.2.2.1 t else M.2.2.2.1 t') = M.2.2.2.1 t'
  split
  · rename_i e; rw [e]
  · rfl
theorem pm1 (i : Nat) : nI i + (-1) = nI i - nI 1 := by rw [Int32.sub_eq_add_neg]; rfl
theorem pm2 (i : Nat) : nI (i + 1) - nI 1 = nI i := by rw [pk_sub (by omega)]; rfl
/-- the chain of features carried out -/
def stM (f : Nat) (A B : Mm) : Prop := (mI A 48 f = 0 → carP A f B) ∧ (¬ mI A 48 f = 0 → B = A)
def chn (fr : Nat → Nat) (M0 : Mm) (k : Nat) (Mk : Mm) : Prop := ∃ P : Nat → Mm, P 0 = M0 ∧ P k = Mk ∧ ∀ j, j < k → stM (fr j) (P j) (P (j + 1))
theorem chn_0 (fr : Nat → Nat) (M0 : Mm) : chn fr M0 0 M0 := ⟨fun _ => M0, rfl, rfl, fun j hj => absurd hj (by omega)⟩
theorem chn_s {fr : Nat → Nat} {M0 A B : Mm} {k : Nat} (h : chn fr M0 k A) (g : stM (fr k) A B) : chn fr M0 (k + 1) B := by
  obtain ⟨P, h0, h1, h2⟩ := h
  refine ⟨fun j => if j ≤ k then P j else B, (if_pos (Nat.zero_le _)).trans h0, if_neg (by omega), fun j hj => ?_⟩
  by_cases e : j = k
  · subst e
    show stM _ (if j ≤ j then P j else B) (if j + 1 ≤ j then P (j + 1) else B)
    rw [if_pos (Nat.le_refl _), if_neg (by omega), h1]
    exact g
  · show stM _ (if j ≤ k then P j else B) (if j + 1 ≤ k then P (j + 1) else B)
    rw [if_pos (by omega), if_pos (by omega)]
    exact h2 j (by omega)
theorem mFr.trans {A B C : Mm} {S : Nat → Prop} (h : mFr A B S) (g : mFr B C S) : mFr A C S := ⟨g.1.trans h.1, fun t ht => (g.2 t ht).trans (h.2 t ht)⟩
abbrev crS (t : Nat) : Prop := t = 49 ∨ t = 54 ∨ t = 55 ∨ t = 56 ∨ t = 57 ∨ t = 67
theorem car_b {A B : Mm} {f : Nat} (h : carP A f B) (hb : bz5 (mI A 54)) : bz5 (mI B 54) := by
  obtain ⟨-, w, Mb, -, -, -, q | q⟩ := h
  · rw [q.2.1]; exact hb
  · exact q.2.2.1
/-- the start of the chain: no cells, no names -/
def coZ (M M0 : Mm) (wv : Int64) : Prop := M0.2 = (sW M 1 wv).2 ∧ (∀ t, ¬ (t = 54 ∨ t = 56) → mI M0 t = mI M t) ∧ (∀ j, j < 512 → mI M0 54 j = nI 0) ∧ ∀ q, q < 3072 → mI M0 56 q = -1
def wrP (M : Mm) (bar : Nat) (fr : Nat → Nat) (x : Int32) (wv : Int64) : Prop := (x = -1 ∧ wv = mW M 1) ∨ ∃ q, q < bar ∧ x = nI q ∧ wv = mW M 1 + wkM M fr q bar
def coM (M : Mm) (om ob bar : Nat) (fr : Nat → Nat) (M1 : Mm) : Prop := ∃ x wv M0, loX M om ob bar fr 0 x ∧ wrP M bar fr x wv ∧ coZ M M0 wv ∧ chn fr M0 bar M1 ∧ mFr M0 M1 crS ∧ bz5 (mI M1 54)
set_option maxRecDepth 100000 in
set_option maxHeartbeats 4000000 in
theorem c_X10_carriesOut {l : Launch} {E : Ev} {M : Mm} {om ob bar : Nat} {fr : Nat → Nat} (hbar : mI M 12 7 = nI bar) (hb12 : bar ≤ 12) (hrow : ∀ k, k < bar → mI M 44 k = nI (fr k) ∧ fr k < 40) (hT : ∀ k, k < 240 → mT (mI M 46 k) = true) (hB : ∀ f, f < 40 → ∀ w, w < 6 → (dmX M f w).toInt ≤ 99) (hom : mI M 12 15 = nI om) (hom12 : om ≤ 12) (hob : mI M 12 16 = nI ob) (hob12 : ob ≤ 12) : Ct l E yX10_carriesOut cX10_carriesOut 6 none 8 0 0 [.ref (eA E 12 0)] M (fun v M1 => v = none ∧ coM M om ob bar fr M1) := by
  refine Ct.of (own := RX10) rfl [some (.ref (eA E 12 0)), none, none, none, none, none] (by decide) (Nat.le_of_ble_eq_true rfl) rfl ?_
  have T228 : ∀ (x : Int32) (wv : Int64) (M0 : Mm) (o2 o3 o4 o5 : Option Value), loX M om ob bar fr 0 x → wrP M bar fr x wv → coZ M M0 wv → Jd l E RX10 cX10_carriesOut 6 none [] (rmm 8 0 0) (QfN E (fun v M1 => v = none ∧ coM M om ob bar fr M1) 0 0) 0 0 228 [some (.ref (eA E 12 0)), some (.int x), o2, o3, o4, o5] [] M0 := by
    intro x wv M0 o2 o3 o4 o5 hlo hwr h0
    have KC : ∀ k, k ≤ bar → ∀ Mk : Mm, (chn fr M0 k Mk ∧ mFr M0 Mk crS ∧ bz5 (mI Mk 54)) → Jd l E RX10 cX10_carriesOut 6 none [] (rmm 8 0 0) (QfN E (fun v M1 => v = none ∧ coM M om ob bar fr M1) 0 0) 0 0 230 [some (.ref (eA E 12 0)), some (.int x), some (.int (nI k)), o3, o4, o5] [] Mk := by
      refine up_to bar _ ?_ (fun k hk9 ih => ?_)
      · intro Mk hk
        have h9 : ∀ t, ¬ crS t → mI Mk t = mI M t := fun t ht => (hk.2.1.2 t ht).trans (h0.2.1 t (fun q => ht (by unfold crS; omega)))
        have hbk : mI Mk 12 7 = nI bar := by rw [h9 12 (by unfold crS; omega)]; exact hbar
        refine j_iln dX10_carriesOut_230 rfl rfl ?_
        refine j_aln dX10_carriesOut_231 rfl rfl ?_
        refine g_X10_7 dX10_carriesOut_232 fl_X10_137 ?_
        refine j_topi hbk ?_
        refine j_icgeN (tgt := 268) dX10_carriesOut_235 (by decide) (by omega) (by omega) (fun h235 => ?_) (fun h235 => ?_)
        · exact j_vret dX10_carriesOut_268 rfl (Nat.le_of_ble_eq_true rfl) (Nat.le_of_ble_eq_true rfl) ⟨rfl, x, wv, M0, hlo, hwr, h0, hk.1, hk.2⟩
        · exact absurd (Nat.le_refl bar) h235
      · intro Mk hk
        have h9 : ∀ t, ¬ crS t → mI Mk t = mI M t := fun t ht => (hk.2.1.2 t ht).trans (h0.2.1 t (fun q => ht (by unfold crS; omega)))
        have hbk : mI Mk 12 7 = nI bar := by rw [h9 12 (by unfold crS; omega)]; exact hbar
        have hrk : mI Mk 44 k = nI (fr k) := by rw [h9 44 (by unfold crS; omega)]; exact (hrow k hk9).1
        have hfk := (hrow k hk9).2
        have hdm := dmX_c (h9 43 (by unfold crS; omega)) (h9 46 (by unfold crS; omega)) (fr k)
        have hT9 : ∀ w, w < 6 → mT (mI Mk 46 (6 * fr k + w)) = true := fun w hw => by rw [h9 46 (by unfold crS; omega)]; exact hT _ (by omega)
        have hB9 : ∀ w, w < 6 → (dmX Mk (fr k) w).toInt ≤ 99 := fun w hw => by rw [hdm]; exact hB _ hfk w hw
        refine j_iln dX10_carriesOut_230 rfl rfl ?_
        refine j_aln dX10_carriesOut_231 rfl rfl ?_
        refine g_X10_7 dX10_carriesOut_232 fl_X10_137 ?_
        refine j_topi hbk ?_
        refine j_icgeN (tgt := 268) dX10_carriesOut_235 (by decide) (by omega) (by omega) (fun h235 => ?_) (fun h235 => ?_)
        · exact absurd h235 (by omega)
        · refine j_aln dX10_carriesOut_238 rfl rfl ?_
          refine g_X10_12 dX10_carriesOut_239 fl_X10_36 ?_
          refine j_aln dX10_carriesOut_242 rfl rfl ?_
          refine g_X10_8 dX10_carriesOut_243 fl_X10_23 ?_
          refine j_iln dX10_carriesOut_246 rfl rfl ?_
          refine j_aildN dX10_carriesOut_247 rfl rfl rfl (by decide) (by omega) ?_
          refine j_topi hrk ?_
          refine j_azldN dX10_carriesOut_248 rfl rfl rfl (by decide) (by omega) ?_
          refine j_ifne (tgt := 262) dX10_carriesOut_249 (by decide) (fun h249 => ?_) (fun h249 => ?_)
          · refine j_incN_2 1 dX10_carriesOut_262 rfl (by decide) rfl ?_
            refine j_goto (tgt := 230) dX10_carriesOut_265 (by decide) ?_
            exact ih Mk ⟨chn_s hk.1 ⟨fun q => absurd q h249, fun _ => rfl⟩, hk.2⟩
          · refine j_aln dX10_carriesOut_252 rfl rfl ?_
            refine j_aln dX10_carriesOut_253 rfl rfl ?_
            refine g_X10_8 dX10_carriesOut_254 fl_X10_23 ?_
            refine j_iln dX10_carriesOut_257 rfl rfl ?_
            refine j_aildN dX10_carriesOut_258 rfl rfl rfl (by decide) (by omega) ?_
            refine j_topi hrk ?_
            refine j_V1g mf_X10_carries ml_X10_163 dX10_carriesOut_259 (Nat.le_of_ble_eq_true rfl) (Nat.le_of_ble_eq_true rfl) (Nat.le_of_ble_eq_true rfl) ⟨(Nat.le_of_ble_eq_true rfl), (Nat.le_of_ble_eq_true rfl)⟩ (by first | assumption | decide | (simp only [nv] at *; omega)) rfl rfl (c_X10_carries hfk hT9 hB9 hk.2.2) ?_
            intro v M9 hp
            obtain ⟨hv, hc⟩ := hp
            subst hv
            refine j_incN_2 1 dX10_carriesOut_262 rfl (by decide) rfl ?_
            refine j_goto (tgt := 230) dX10_carriesOut_265 (by decide) ?_
            exact ih M9 ⟨chn_s hk.1 ⟨fun _ => hc, fun q => absurd h249 q⟩, hk.2.1.trans ⟨hc.1.1, fun t ht => hc.1.2 t ht⟩, car_b hc hk.2.2⟩
    refine j_icN 0 dX10_carriesOut_228 rfl ?_
    refine j_ist_2 dX10_carriesOut_229 (by decide) rfl ?_
    exact KC 0 (by omega) M0 ⟨chn_0 fr M0, ⟨rfl, fun _ _ => rfl⟩, fun j hj => Or.inl (h0.2.2.1 j hj)⟩
  have T184 : ∀ (x : Int32) (wv : Int64) (o2 o3 o4 o5 : Option Value), loX M om ob bar fr 0 x → wrP M bar fr x wv → Jd l E RX10 cX10_carriesOut 6 none [] (rmm 8 0 0) (QfN E (fun v M1 => v = none ∧ coM M om ob bar fr M1) 0 0) 0 0 184 [some (.ref (eA E 12 0)), some (.int x), o2, o3, o4, o5] [] (sW M 1 wv) := by
    intro x wv o2 o3 o4 o5 hlo hwr
    obtain ⟨w, hw⟩ : ∃ w, w = 512 := ⟨512, rfl⟩
    obtain ⟨u, hu⟩ : ∃ u, u = 3072 := ⟨3072, rfl⟩
    have hz : coZ M (sI (sI (sW M 1 wv) 54 (cpR (fun _ => nI 0) (mI M 54) w)) 56 (cpR (fun _ => -1) (mI M 56) u)) wv := ⟨rfl, fun t ht => by rw [mI_sI, if_neg (fun q => ht (Or.inr q)), mI_sI, if_neg (fun q => ht (Or.inl q))]; rfl, fun j hj => cpR_lt (fun _ => nI 0) (mI M 54) (by omega), fun q hq => cpR_lt (fun _ => -1) (mI M 56) (by omega)⟩
    have KB : ∀ i, i ≤ u → Jd l E RX10 cX10_carriesOut 6 none [] (rmm 8 0 0) (QfN E (fun v M1 => v = none ∧ coM M om ob bar fr M1) 0 0) 0 0 208 [some (.ref (eA E 12 0)), some (.int x), some (.int (nI i)), o3, o4, o5] [] (sI (sI (sW M 1 wv) 54 (cpR (fun _ => nI 0) (mI M 54) w)) 56 (cpR (fun _ => -1) (mI M 56) i)) := by
      refine up_to u _ ?_ (fun i hi ih => ?_)
      · skip
        refine j_iln dX10_carriesOut_208 rfl rfl ?_
        refine j_siN 3072 dX10_carriesOut_209 rfl ?_
        refine j_icgeN (tgt := 228) dX10_carriesOut_212 (by decide) (by omega) (by omega) (fun h212 => ?_) (fun h212 => ?_)
        · exact T228 x wv (sI (sI (sW M 1 wv) 54 (cpR (fun _ => nI 0) (mI M 54) w)) 56 (cpR (fun _ => -1) (mI M 56) u)) _ _ _ _ hlo hwr hz
        · exact absurd (Nat.le_of_eq hu.symm) h212
      · skip
        refine j_iln dX10_carriesOut_208 rfl rfl ?_
        refine j_siN 3072 dX10_carriesOut_209 rfl ?_
        refine j_icgeN (tgt := 228) dX10_carriesOut_212 (by decide) (by omega) (by omega) (fun h212 => ?_) (fun h212 => ?_)
        · exact absurd h212 (by omega)
        · refine j_aln dX10_carriesOut_215 rfl rfl ?_
          refine g_X10_23 dX10_carriesOut_216 fl_X10_60 ?_
          refine j_iln dX10_carriesOut_219 rfl rfl ?_
          refine j_ic (v := (-1)) dX10_carriesOut_220 (by decide) ?_
          refine j_aistN dX10_carriesOut_221 rfl (fun _ => rfl) rfl (by decide) (by omega) ?_
          refine j_incN_2 1 dX10_carriesOut_222 rfl (by decide) rfl ?_
          refine j_goto (tgt := 208) dX10_carriesOut_225 (by decide) ?_
          refine j_mem ?_ ih
          rw [cpR_s, sI_sI]
          rfl
    have KA : ∀ i, i ≤ w → Jd l E RX10 cX10_carriesOut 6 none [] (rmm 8 0 0) (QfN E (fun v M1 => v = none ∧ coM M om ob bar fr M1) 0 0) 0 0 186 [some (.ref (eA E 12 0)), some (.int x), some (.int (nI i)), o3, o4, o5] [] (sI (sW M 1 wv) 54 (cpR (fun _ => nI 0) (mI M 54) i)) := by
      refine up_to w _ ?_ (fun i hi ih => ?_)
      · skip
        refine j_iln dX10_carriesOut_186 rfl rfl ?_
        refine j_siN 512 dX10_carriesOut_187 rfl ?_
        refine j_icgeN (tgt := 206) dX10_carriesOut_190 (by decide) (by omega) (by omega) (fun h190 => ?_) (fun h190 => ?_)
        · refine j_icN 0 dX10_carriesOut_206 rfl ?_
          refine j_ist_2 dX10_carriesOut_207 (by decide) rfl ?_
          have K0 := KB 0 (by omega)
          rw [cpR_0] at K0
          refine j_mem ?_ K0
          exact (sI_id (sI (sW M 1 wv) 54 (cpR (fun _ => nI 0) (mI M 54) w)) 56).symm
        · exact absurd (Nat.le_of_eq hw.symm) h190
      · skip
        refine j_iln dX10_carriesOut_186 rfl rfl ?_
        refine j_siN 512 dX10_carriesOut_187 rfl ?_
        refine j_icgeN (tgt := 206) dX10_carriesOut_190 (by decide) (by omega) (by omega) (fun h190 => ?_) (fun h190 => ?_)
        · exact absurd h190 (by omega)
        · refine j_aln dX10_carriesOut_193 rfl rfl ?_
          refine g_X10_21 dX10_carriesOut_194 fl_X10_54 ?_
          refine j_iln dX10_carriesOut_197 rfl rfl ?_
          refine j_icN 0 dX10_carriesOut_198 rfl ?_
          refine j_azstN dX10_carriesOut_199 rfl (fun _ => rfl) rfl (by decide) (by omega) (by decide) ?_
          refine j_incN_2 1 dX10_carriesOut_200 rfl (by decide) rfl ?_
          refine j_goto (tgt := 186) dX10_carriesOut_203 (by decide) ?_
          refine j_mem ?_ ih
          rw [cpR_s, sI_sI]
          rfl
    refine j_icN 0 dX10_carriesOut_184 rfl ?_
    refine j_ist_2 dX10_carriesOut_185 (by decide) rfl ?_
    have K0 := KA 0 (by omega)
    rw [cpR_0] at K0
    refine j_mem ?_ K0
    exact (sI_id (sW M 1 wv) 54).symm
  have T135 : ∀ (x : Int32) (o2 o3 o4 o5 : Option Value), loX M om ob bar fr 0 x → Jd l E RX10 cX10_carriesOut 6 none [] (rmm 8 0 0) (QfN E (fun v M1 => v = none ∧ coM M om ob bar fr M1) 0 0) 0 0 135 [some (.ref (eA E 12 0)), some (.int x), o2, o3, o4, o5] [] M := by
    intro x o2 o3 o4 o5 hlo
    rcases id hlo with ⟨rfl, -⟩ | ⟨q, rfl, -, hqb, -, -⟩
    · skip
      refine j_iln dX10_carriesOut_135 rfl rfl ?_
      refine j_ist_2 dX10_carriesOut_136 (by decide) rfl ?_
      refine j_iln dX10_carriesOut_137 rfl rfl ?_
      refine j_ic (v := (-1)) dX10_carriesOut_138 (by decide) ?_
      refine j_iceq (tgt := 184) dX10_carriesOut_139 (by decide) (fun h139 => ?_) (fun h139 => ?_)
      · refine j_mem (sW_id1 M 1).symm ?_
        exact T184 (-1) (mW M 1) _ _ _ _ hlo (Or.inl ⟨rfl, rfl⟩)
      · exact absurd rfl h139
    · skip
      have KW : ∀ k, k ≤ bar → q ≤ k → Jd l E RX10 cX10_carriesOut 6 none [] (rmm 8 0 0) (QfN E (fun v M1 => v = none ∧ coM M om ob bar fr M1) 0 0) 0 0 137 [some (.ref (eA E 12 0)), some (.int (nI q)), some (.int (nI k)), o3, o4, o5] [] (sW M 1 (mW M 1 + wkM M fr q k)) := by
        refine up_to bar _ ?_ (fun k hk9 ih => ?_)
        · intro hqk
          refine j_iln dX10_carriesOut_137 rfl rfl ?_
          refine j_ic (v := (-1)) dX10_carriesOut_138 (by decide) ?_
          refine j_iceq (tgt := 184) dX10_carriesOut_139 (by decide) (fun h139 => ?_) (fun h139 => ?_)
          · exact absurd h139 (nI_nm1 (by omega))
          · refine j_iln dX10_carriesOut_142 rfl rfl ?_
            refine j_aln dX10_carriesOut_143 rfl rfl ?_
            refine g_X10_7 dX10_carriesOut_144 fl_X10_137 ?_
            refine j_topi hbar ?_
            refine j_icgeN (tgt := 184) dX10_carriesOut_147 (by decide) (by omega) (by omega) (fun h147 => ?_) (fun h147 => ?_)
            · exact T184 _ _ _ _ _ _ hlo (Or.inr ⟨q, hqb, rfl, rfl⟩)
            · exact absurd (Nat.le_refl bar) h147
        · intro hqk
          refine j_iln dX10_carriesOut_137 rfl rfl ?_
          refine j_ic (v := (-1)) dX10_carriesOut_138 (by decide) ?_
          refine j_iceq (tgt := 184) dX10_carriesOut_139 (by decide) (fun h139 => ?_) (fun h139 => ?_)
          · exact absurd h139 (nI_nm1 (by omega))
          · refine j_iln dX10_carriesOut_142 rfl rfl ?_
            refine j_aln dX10_carriesOut_143 rfl rfl ?_
            refine g_X10_7 dX10_carriesOut_144 fl_X10_137 ?_
            refine j_topi hbar ?_
            refine j_icgeN (tgt := 184) dX10_carriesOut_147 (by decide) (by omega) (by omega) (fun h147 => ?_) (fun h147 => ?_)
            · exact absurd h147 (by omega)
            · refine j_aln dX10_carriesOut_150 rfl rfl ?_
              refine j_dup dX10_carriesOut_151 rfl ?_
              refine g_X10_14 dX10_carriesOut_152 fl_X10_159 ?_
              refine j_aln dX10_carriesOut_155 rfl rfl ?_
              refine g_X10_12 dX10_carriesOut_156 fl_X10_36 ?_
              refine j_aln dX10_carriesOut_159 rfl rfl ?_
              refine g_X10_8 dX10_carriesOut_160 fl_X10_23 ?_
              refine j_iln dX10_carriesOut_163 rfl rfl ?_
              refine j_aildN dX10_carriesOut_164 rfl rfl rfl (by decide) (by omega) ?_
              refine j_topi (hrow k hk9).1 ?_
              refine j_azldN dX10_carriesOut_165 rfl rfl rfl (by decide) (hrow k hk9).2 ?_
              refine j_ifeq (tgt := 173) dX10_carriesOut_166 (by decide) (fun h166 => ?_) (fun h166 => ?_)
              · have hg : mW M 1 + wkM M fr q (k + 1) = (mW M 1 + wkM M fr q k) + 1 := by rw [wkM_t (M := M) hqk h166, Int64.add_assoc]
                refine j_lc (v := 1) dX10_carriesOut_173 (by decide) ?_
                refine j_ladd dX10_carriesOut_174 ?_
                refine p_X10_14 dX10_carriesOut_175 fl_X10_159 ?_
                refine j_incN_2 1 dX10_carriesOut_178 rfl (by decide) rfl ?_
                refine j_goto (tgt := 137) dX10_carriesOut_181 (by decide) ?_
                refine j_mem ?_ (ih (by omega))
                rw [sW_sW1, hg]
                rfl
              · have hg : mW M 1 + wkM M fr q (k + 1) = (mW M 1 + wkM M fr q k) + 0 := by rw [wkM_f (M := M) h166, Int64.add_zero]
                refine j_lc (v := 0) dX10_carriesOut_169 (by decide) ?_
                refine j_goto (tgt := 174) dX10_carriesOut_170 (by decide) ?_
                refine j_ladd dX10_carriesOut_174 ?_
                refine p_X10_14 dX10_carriesOut_175 fl_X10_159 ?_
                refine j_incN_2 1 dX10_carriesOut_178 rfl (by decide) rfl ?_
                refine j_goto (tgt := 137) dX10_carriesOut_181 (by decide) ?_
                refine j_mem ?_ (ih (by omega))
                rw [sW_sW1, hg]
                rfl
      refine j_iln dX10_carriesOut_135 rfl rfl ?_
      refine j_ist_2 dX10_carriesOut_136 (by decide) rfl ?_
      have K0 := KW q (by omega) (Nat.le_refl q)
      rw [wkM_lo q (Nat.le_refl q), Int64.add_zero, sW_id1] at K0
      exact K0
  have K9 : ∀ i, i ≤ bar → ∀ (x : Int32) (o3 o4 o5 : Option Value), loX M om ob bar fr i x → Jd l E RX10 cX10_carriesOut 6 none [] (rmm 8 0 0) (QfN E (fun v M1 => v = none ∧ coM M om ob bar fr M1) 0 0) 0 0 9 [some (.ref (eA E 12 0)), some (.int x), some (.int (nI i - nI 1)), o3, o4, o5] [] M := by
    intro i
    induction i with
    | zero =>
      intro hi x o3 o4 o5 hx
      refine j_iln dX10_carriesOut_9 rfl rfl ?_
      refine j_iflt (tgt := 135) dX10_carriesOut_10 (by decide) (fun h10 => ?_) (fun h10 => ?_)
      · exact T135 _ _ _ _ _ hx
      · exact absurd (show nI 0 - nI 1 < 0 by decide) h10
    | succ i ih =>
      intro hi x o3 o4 o5 hx
      have hri := (hrow i (by omega)).1
      have hfi := (hrow i (by omega)).2
      obtain ⟨s, hs⟩ : ∃ s, s = 6 := ⟨6, rfl⟩
      have KD : ∀ d, d ≤ s → Jd l E RX10 cX10_carriesOut 6 none [] (rmm 8 0 0) (QfN E (fun v M1 => v = none ∧ coM M om ob bar fr M1) 0 0) 0 0 71 [some (.ref (eA E 12 0)), some (.int x), some (.int (nI i)), some (.int (nI (fr i))), some (.int (bI (otD M (fr i) (otC M om ob i (fr i)) d))), some (.int (nI d))] [] M := by
        refine up_to s _ ?_ (fun d hd9 ihd => ?_)
        · skip
          refine j_il dX10_carriesOut_71 rfl ?_
          refine j_biN 6 dX10_carriesOut_73 rfl ?_
          refine j_icgeN (tgt := 118) dX10_carriesOut_75 (by decide) (by omega) (by omega) (fun h75 => ?_) (fun h75 => ?_)
          · refine j_il dX10_carriesOut_118 rfl ?_
            refine j_ifeq (tgt := 127) dX10_carriesOut_120 (by decide) (fun h120 => ?_) (fun h120 => ?_)
            · have hlo := loX_f (show otX M om ob i (fr i) = false from by unfold otX; rw [← hs]; exact bI_eq.mp h120) hx
              refine j_iln dX10_carriesOut_127 rfl rfl ?_
              refine j_ist_1 dX10_carriesOut_128 (by decide) rfl ?_
              refine j_inc_2 (-1) dX10_carriesOut_129 (by decide) (by decide) rfl ?_
              refine j_goto (tgt := 9) dX10_carriesOut_132 (by decide) ?_
              refine j_eq (congrArg (fun q => [_, _, some (Value.int q), _, _, _]) (pm1 i)) rfl rfl ?_
              exact ih (by omega) _ _ _ _ hlo
            · have hlo := loX_t (bar := bar) (by omega) (show otX M om ob i (fr i) = true from by unfold otX; rw [← hs]; exact bI_ne.mp h120)
              refine j_iln dX10_carriesOut_123 rfl rfl ?_
              refine j_goto (tgt := 128) dX10_carriesOut_124 (by decide) ?_
              refine j_ist_1 dX10_carriesOut_128 (by decide) rfl ?_
              refine j_inc_2 (-1) dX10_carriesOut_129 (by decide) (by decide) rfl ?_
              refine j_goto (tgt := 9) dX10_carriesOut_132 (by decide) ?_
              refine j_eq (congrArg (fun q => [_, _, some (Value.int q), _, _, _]) (pm1 i)) rfl rfl ?_
              exact ih (by omega) _ _ _ _ hlo
          · exact absurd (Nat.le_of_eq hs.symm) h75
        · have hd : d < 6 := by omega
          refine j_il dX10_carriesOut_71 rfl ?_
          refine j_biN 6 dX10_carriesOut_73 rfl ?_
          refine j_icgeN (tgt := 118) dX10_carriesOut_75 (by decide) (by omega) (by omega) (fun h75 => ?_) (fun h75 => ?_)
          · exact absurd h75 (by omega)
          · refine j_il dX10_carriesOut_78 rfl ?_
            refine j_ifne (tgt := 105) dX10_carriesOut_80 (by decide) (fun h80 => ?_) (fun h80 => ?_)
            · have hv : nI 1 = bI (otD M (fr i) (otC M om ob i (fr i)) (d + 1)) := by rw [otD_s, show (otD M (fr i) (otC M om ob i (fr i)) d) = true from bI_ne.mp h80]; rfl
              refine j_icN 1 dX10_carriesOut_105 rfl ?_
              refine j_goto (tgt := 110) dX10_carriesOut_106 (by decide) ?_
              refine j_ist_4 dX10_carriesOut_110 (by decide) rfl ?_
              refine j_eq (congrArg (fun q => [_, _, _, _, some (Value.int q), _]) hv) rfl rfl ?_
              refine j_incN_5 1 dX10_carriesOut_112 rfl (by decide) rfl ?_
              refine j_goto (tgt := 71) dX10_carriesOut_115 (by decide) ?_
              exact ihd
            · refine j_aln dX10_carriesOut_83 rfl rfl ?_
              refine g_X10_18 dX10_carriesOut_84 fl_X10_45 ?_
              refine j_biN 6 dX10_carriesOut_87 rfl ?_
              refine j_iln dX10_carriesOut_89 rfl rfl ?_
              refine j_imulN dX10_carriesOut_90 ?_
              refine j_il dX10_carriesOut_91 rfl ?_
              refine j_iaddN dX10_carriesOut_93 ?_
              refine j_aildN dX10_carriesOut_94 rfl rfl rfl (by decide) (by omega) ?_
              refine j_aln dX10_carriesOut_95 rfl rfl ?_
              refine j_iln dX10_carriesOut_96 rfl rfl ?_
              refine j_il dX10_carriesOut_97 rfl ?_
              refine j_V2d mf_X10_dimension ml_X10_146 dX10_carriesOut_99 (Nat.le_of_ble_eq_true rfl) (Nat.le_of_ble_eq_true rfl) (Nat.le_of_ble_eq_true rfl) ⟨(Nat.le_of_ble_eq_true rfl), (Nat.le_of_ble_eq_true rfl)⟩ (by first | assumption | decide | (simp only [nv] at *; omega)) rfl rfl (c_X10_dimension hfi hd (hT _ (by omega))) ?_
              refine j_iceq (tgt := 109) dX10_carriesOut_102 (by decide) (fun h102 => ?_) (fun h102 => ?_)
              · have hv : nI 0 = bI (otD M (fr i) (otC M om ob i (fr i)) (d + 1)) := by rw [otD_s, show (otD M (fr i) (otC M om ob i (fr i)) d) = false from bI_eq.mp h80, show decide (¬ mI M 51 (6 * fr i + d) = dmX M (fr i) d) = false from decide_eq_false (fun q => q h102)]; rfl
                refine j_icN 0 dX10_carriesOut_109 rfl ?_
                refine j_ist_4 dX10_carriesOut_110 (by decide) rfl ?_
                refine j_eq (congrArg (fun q => [_, _, _, _, some (Value.int q), _]) hv) rfl rfl ?_
                refine j_incN_5 1 dX10_carriesOut_112 rfl (by decide) rfl ?_
                refine j_goto (tgt := 71) dX10_carriesOut_115 (by decide) ?_
                exact ihd
              · have hv : nI 1 = bI (otD M (fr i) (otC M om ob i (fr i)) (d + 1)) := by rw [otD_s, show decide (¬ mI M 51 (6 * fr i + d) = dmX M (fr i) d) = true from decide_eq_true h102, Bool.or_true]; rfl
                refine j_icN 1 dX10_carriesOut_105 rfl ?_
                refine j_goto (tgt := 110) dX10_carriesOut_106 (by decide) ?_
                refine j_ist_4 dX10_carriesOut_110 (by decide) rfl ?_
                refine j_eq (congrArg (fun q => [_, _, _, _, some (Value.int q), _]) hv) rfl rfl ?_
                refine j_incN_5 1 dX10_carriesOut_112 rfl (by decide) rfl ?_
                refine j_goto (tgt := 71) dX10_carriesOut_115 (by decide) ?_
                exact ihd
      refine j_eq (congrArg (fun q => [_, _, some (Value.int q), _, _, _]) (pm2 i)) rfl rfl ?_
      refine j_iln dX10_carriesOut_9 rfl rfl ?_
      refine j_ifltN (tgt := 135) dX10_carriesOut_10 (by decide) (by omega) ?_
      refine j_aln dX10_carriesOut_13 rfl rfl ?_
      refine g_X10_8 dX10_carriesOut_14 fl_X10_23 ?_
      refine j_iln dX10_carriesOut_17 rfl rfl ?_
      refine j_aildN dX10_carriesOut_18 rfl rfl rfl (by decide) (by omega) ?_
      refine j_topi hri ?_
      refine j_ist_3 dX10_carriesOut_19 (by decide) rfl ?_
      refine j_iln dX10_carriesOut_20 rfl rfl ?_
      refine j_aln dX10_carriesOut_21 rfl rfl ?_
      refine g_X10_15 dX10_carriesOut_22 fl_X10_134 ?_
      refine j_topi hom ?_
      refine j_icgeN (tgt := 61) dX10_carriesOut_25 (by decide) (by omega) (by omega) (fun h25 => ?_) (fun h25 => ?_)
      · have hv : nI 1 = bI (otC M om ob i (fr i)) := by rw [show (otC M om ob i (fr i)) = true from decide_eq_true (Or.inl h25)]; rfl
        refine j_icN 1 dX10_carriesOut_61 rfl ?_
        refine j_goto (tgt := 66) dX10_carriesOut_62 (by decide) ?_
        refine j_ist_4 dX10_carriesOut_66 (by decide) rfl ?_
        refine j_icN 0 dX10_carriesOut_68 rfl ?_
        refine j_ist_5 dX10_carriesOut_69 (by decide) rfl ?_
        refine j_eq (congrArg (fun q => [_, _, _, _, some (Value.int q), _]) hv) rfl rfl ?_
        have K0 := KD 0 (by omega)
        rw [otD_0] at K0
        exact K0
      · refine j_aln dX10_carriesOut_28 rfl rfl ?_
        refine g_X10_17 dX10_carriesOut_29 fl_X10_42 ?_
        refine j_iln dX10_carriesOut_32 rfl rfl ?_
        refine j_aildN dX10_carriesOut_33 rfl rfl rfl (by decide) (by omega) ?_
        refine j_iln dX10_carriesOut_34 rfl rfl ?_
        refine j_icne (tgt := 61) dX10_carriesOut_35 (by decide) (fun h35 => ?_) (fun h35 => ?_)
        · have hv : nI 1 = bI (otC M om ob i (fr i)) := by rw [show (otC M om ob i (fr i)) = true from decide_eq_true (Or.inr (Or.inl h35))]; rfl
          refine j_icN 1 dX10_carriesOut_61 rfl ?_
          refine j_goto (tgt := 66) dX10_carriesOut_62 (by decide) ?_
          refine j_ist_4 dX10_carriesOut_66 (by decide) rfl ?_
          refine j_icN 0 dX10_carriesOut_68 rfl ?_
          refine j_ist_5 dX10_carriesOut_69 (by decide) rfl ?_
          refine j_eq (congrArg (fun q => [_, _, _, _, some (Value.int q), _]) hv) rfl rfl ?_
          have K0 := KD 0 (by omega)
          rw [otD_0] at K0
          exact K0
        · refine j_aln dX10_carriesOut_38 rfl rfl ?_
          refine g_X10_19 dX10_carriesOut_39 fl_X10_48 ?_
          refine j_iln dX10_carriesOut_42 rfl rfl ?_
          refine j_azldN dX10_carriesOut_43 rfl rfl rfl (by decide) (by omega) ?_
          refine j_aln dX10_carriesOut_44 rfl rfl ?_
          refine g_X10_12 dX10_carriesOut_45 fl_X10_36 ?_
          refine j_iln dX10_carriesOut_48 rfl rfl ?_
          refine j_azldN dX10_carriesOut_49 rfl rfl rfl (by decide) (by omega) ?_
          refine j_icne (tgt := 61) dX10_carriesOut_50 (by decide) (fun h50 => ?_) (fun h50 => ?_)
          · have hv : nI 1 = bI (otC M om ob i (fr i)) := by rw [show (otC M om ob i (fr i)) = true from decide_eq_true (Or.inr (Or.inr (Or.inl h50)))]; rfl
            refine j_icN 1 dX10_carriesOut_61 rfl ?_
            refine j_goto (tgt := 66) dX10_carriesOut_62 (by decide) ?_
            refine j_ist_4 dX10_carriesOut_66 (by decide) rfl ?_
            refine j_icN 0 dX10_carriesOut_68 rfl ?_
            refine j_ist_5 dX10_carriesOut_69 (by decide) rfl ?_
            refine j_eq (congrArg (fun q => [_, _, _, _, some (Value.int q), _]) hv) rfl rfl ?_
            have K0 := KD 0 (by omega)
            rw [otD_0] at K0
            exact K0
          · refine j_iln dX10_carriesOut_53 rfl rfl ?_
            refine j_aln dX10_carriesOut_54 rfl rfl ?_
            refine g_X10_16 dX10_carriesOut_55 fl_X10_140 ?_
            refine j_topi hob ?_
            refine j_icltN (tgt := 65) dX10_carriesOut_58 (by decide) (by omega) (by omega) (fun h58 => ?_) (fun h58 => ?_)
            · have hv : nI 0 = bI (otC M om ob i (fr i)) := by rw [show (otC M om ob i (fr i)) = false from decide_eq_false (fun q => q.elim h25 (fun q => q.elim (fun q => q h35) (fun q => q.elim (fun q => q h50) (fun q => absurd h58 (by omega)))))]; rfl
              refine j_icN 0 dX10_carriesOut_65 rfl ?_
              refine j_ist_4 dX10_carriesOut_66 (by decide) rfl ?_
              refine j_icN 0 dX10_carriesOut_68 rfl ?_
              refine j_ist_5 dX10_carriesOut_69 (by decide) rfl ?_
              refine j_eq (congrArg (fun q => [_, _, _, _, some (Value.int q), _]) hv) rfl rfl ?_
              have K0 := KD 0 (by omega)
              rw [otD_0] at K0
              exact K0
            · have hv : nI 1 = bI (otC M om ob i (fr i)) := by rw [show (otC M om ob i (fr i)) = true from decide_eq_true (Or.inr (Or.inr (Or.inr (by omega))))]; rfl
              refine j_icN 1 dX10_carriesOut_61 rfl ?_
              refine j_goto (tgt := 66) dX10_carriesOut_62 (by decide) ?_
              refine j_ist_4 dX10_carriesOut_66 (by decide) rfl ?_
              refine j_icN 0 dX10_carriesOut_68 rfl ?_
              refine j_ist_5 dX10_carriesOut_69 (by decide) rfl ?_
              refine j_eq (congrArg (fun q => [_, _, _, _, some (Value.int q), _]) hv) rfl rfl ?_
              have K0 := KD 0 (by omega)
              rw [otD_0] at K0
              exact K0
  refine j_ic (v := (-1)) dX10_carriesOut_0 (by decide) ?_
  refine j_ist_1 dX10_carriesOut_1 (by decide) rfl ?_
  refine j_aln dX10_carriesOut_2 rfl rfl ?_
  refine g_X10_7 dX10_carriesOut_3 fl_X10_137 ?_
  refine j_topi hbar ?_
  refine j_ic (v := 1) dX10_carriesOut_6 (by decide) ?_
  refine j_isub dX10_carriesOut_7 ?_
  refine j_ist_2 dX10_carriesOut_8 (by decide) rfl ?_
  exact K9 bar (Nat.le_refl bar) (-1) _ _ _ (Or.inl ⟨rfl, fun k h1 h2 => absurd h1 (by omega)⟩)
