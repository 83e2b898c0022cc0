/-! the model: setNumber -/
theorem upd_back (f : Nat → Int32) (n : Nat) (a : Int32) : upd (upd f n a) n (f n) = f := by
  funext j
  unfold upd
  by_cases q : j = n
  · rw [if_pos q, q]
  · rw [if_neg q, if_neg q]
theorem cut_b (x : Int32) : -99 ≤ (cutX x).toInt ∧ (cutX x).toInt ≤ 99 := by
  have h1 : (-99 : Int32).toInt = -99 := by decide
  have h2 : (nI 99).toInt = 99 := by decide
  unfold cutX mxI mnI
  by_cases q : x < nI 99
  · rw [if_pos q]
    have q1 := Int32.lt_iff_toInt_lt.mp q
    by_cases g : (-99 : Int32) < x
    · rw [if_pos g]
      have g1 := Int32.lt_iff_toInt_lt.mp g
      omega
    · rw [if_neg g]; omega
  · rw [if_neg q, if_pos (by decide)]; omega
def vb (v : Nat → Int32) : Prop := ∀ n, n < 8 → -99 ≤ (v n).toInt ∧ (v n).toInt ≤ 99
theorem rd_b {F O S v : Nat → Int32} (h : vb v) (k : Nat) : vb (rdX F O S v k) := by
  induction k with
  | zero => rw [rdX_0]; exact h
  | succ k ih => rw [rdX_s]; exact upd_T (P := fun x => -99 ≤ x.toInt ∧ x.toInt ≤ 99) ih (cut_b _)
theorem rr_b {F O S v : Nat → Int32} (h : vb v) (r : Nat) : vb (rrX F O S v r) := by
  induction r with
  | zero => rw [rrX_0]; exact h
  | succ r ih => rw [rrX_s]; exact rd_b ih 8
def pnM (M : Mm) (n : Nat) (a c b : Int32) : Mm := sI (sI (sI (reM M) 40 (upd (mI M 40) n a)) 41 (upd (mI M 41) n b)) 42 (upd (mI M 42) n c)
theorem pn_back {M : Mm} {n : Nat} {a c b : Int32} {V : Nat → Int32} : sI (sI (sI (sI (pnM M n a c b) 43 V) 40 (upd (upd (mI M 40) n a) n (mI M 40 n))) 41 (upd (upd (mI M 41) n b) n (mI M 41 n))) 42 (upd (upd (mI M 42) n c) n (mI M 42 n)) = sI (reM M) 43 V := by
  rw [upd_back, upd_back, upd_back]
  refine Prod.ext (funext fun t => ?_) rfl
  have e40 := re_t (M := M) (t := 40) (by omega)
  have e41 := re_t (M := M) (t := 41) (by omega)
  have e42 := re_t (M := M) (t := 42) (by omega)
  show (if t = 42 then mI M 42 else if t = 41 then mI M 41 else if t = 40 then mI M 40 else if t = 43 then V else if t = 42 then upd (mI M 42) n c else if t = 41 then upd (mI M 41) n b else if t = 40 then upd (mI M 40) n a else mI (reM M) t) = if t = 43 then V else mI (reM M) t
  by_cases h42 : t = 42
  · subst h42; rw [if_pos rfl, if_neg (by decide)]; exact e42.symm
  rw [if_neg h42]
  by_cases h41 : t = 41
  · subst h41; rw [if_pos rfl, if_neg (by decide)]; exact e41.symm
  rw [if_neg h41]
  by_cases h40 : t = 40
  · subst h40; rw [if_pos rfl, if_neg (by decide)]; exact e40.symm
  rw [if_neg h40]
  by_cases h43 : t = 43
  · rw [if_pos h43, if_pos h43]
  · rw [if_neg h43, if_neg h42, if_neg h41, if_neg h40, if_neg h43]
theorem pn_t {M : Mm} {n : Nat} {a c b : Int32} {t : Nat} (h : ¬ (40 ≤ t ∧ t ≤ 42)) : mI (pnM M n a c b) t = mI (reM M) t := by
  unfold pnM
  rw [mI_sI, if_neg (by omega), mI_sI, if_neg (by omega), mI_sI, if_neg (by omega)]
theorem pn_MV {M : Mm} {gv cnt bar : Nat} {fr : Nat → Nat} {n : Nat} {a c b : Int32} {V : Nat → Int32} (h : MV M gv cnt bar fr) (hV : vb V) (hok : mT a = true ∧ mT b = true ∧ isOp c = true) : MV (sI (pnM M n a c b) 43 V) gv cnt bar fr := by
  have ht : ∀ t, ¬ (40 ≤ t ∧ t ≤ 43) → mI (sI (pnM M n a c b) 43 V) t = mI (reM M) t := fun t ht => by rw [mI_sI, if_neg (by omega), pn_t (by omega)]
  have h9 := re_MV h
  unfold MV
  rw [ht 12 (by omega), ht 44 (by omega), ht 46 (by omega), ht 47 (by omega), ht 48 (by omega)]
  refine ⟨h9.1, h9.2.1, h9.2.2.1, h9.2.2.2.1, h9.2.2.2.2.1, h9.2.2.2.2.2.1, h9.2.2.2.2.2.2.1, fun k hk => ?_, hV, h9.2.2.2.2.2.2.2.2.2⟩
  have g := h.2.2.2.2.2.2.2.1
  exact ⟨upd_T (P := fun v => mT v = true) (fun k hk => (g k hk).1) hok.1 k hk, upd_T (P := fun v => mT v = true) (fun k hk => (g k hk).2.1) hok.2.1 k hk, upd_T (P := fun v => isOp v = true) (fun k hk => (g k hk).2.2) hok.2.2 k hk⟩
theorem pn_P (M : Mm) (n : Nat) (a c b : Int32) (V : Nat → Int32) : rmP M (sI (pnM M n a c b) 43 V) (fun t => 40 ≤ t ∧ t ≤ 43) :=
  rmP_s (rmP_s (rmP_s (rmP_s (S' := fun t => 40 ≤ t ∧ t ≤ 43) (re_P M) (by omega) (by omega) (fun _ q => q.elim)) (by omega) (by omega) (fun _ q => q)) (by omega) (by omega) (fun _ q => q)) (by omega) (by omega) (fun _ q => q)
/-- all numbers found anew -/
def fnV (F O S V : Nat → Int32) : Nat → Int32 := rrX F O S V 8
theorem c_fiV {l : Launch} {E : Ev} {M : Mm} {gv cnt bar : Nat} {fr : Nat → Nat} (h : MV M gv cnt bar fr) : Ct l E yX10_finds cX10_finds 6 none 2 0 0 [.ref (eA E 12 0)] M (dn (sI M 43 (fnV (mI M 40) (mI M 42) (mI M 41) (mI M 43)))) :=
  c_X10_finds (fun n hn => (h.2.2.2.2.2.2.2.1 n hn).1) (fun n hn => (h.2.2.2.2.2.2.2.1 n hn).2.1) (fun n hn => (h.2.2.2.2.2.2.2.1 n hn).2.2)
theorem fn_b {F O S v : Nat → Int32} (h : vb v) : vb (fnV F O S v) := rr_b h 8
def rnS (F S : Nat → Int32) (n : Nat) (b : Bool) : Prop := ∃ r wf, wf = ndR F S (needX (F n) ||| needX (S n)) r ∧ ndK F S wf 8 = wf ∧ b = hasB wf n
theorem rn_S {F S : Nat → Int32} {n : Nat} {v : Option Value} (h : rnP F S n v) : ∃ b, rnS F S n b ∧ v = some (.int (bI b)) := by
  obtain ⟨r, wf, h1, h2, h3⟩ := h
  exact ⟨_, ⟨r, wf, h1, h2, rfl⟩, h3⟩
set_option maxRecDepth 100000 in
set_option maxHeartbeats 4000000 in
theorem c_X10_setNumber {l : Launch} {E : Ev} {M : Mm} {gv cnt bar : Nat} {fr : Nat → Nat} {x a c b : Int32} (hMV : MV M gv cnt bar fr) : Ct l E yX10_setNumber cX10_setNumber 9 (some .int) 9 0 0 [.ref (eA E 12 0), .int x, .int a, .int c, .int b] M (fun v M1 => (¬ (in7 x = true ∧ mT a = true ∧ mT b = true ∧ isOp c = true) ∧ v = some (.int (nI 0)) ∧ M1 = cdM (c0 M) (nI 1)) ∨ ((in7 x = true ∧ mT a = true ∧ mT b = true ∧ isOp c = true) ∧ ∃ w, w < 8 ∧ x = nI w ∧ ((rnS (upd (mI M 40) w a) (upd (mI M 41) w b) w true ∧ v = some (.int (nI 0)) ∧ M1 = cdM (sI (reM M) 43 (fnV (mI M 40) (mI M 42) (mI M 41) (mI M 43))) (nI 2)) ∨ (rnS (upd (mI M 40) w a) (upd (mI M 41) w b) w false ∧ orX (sI (pnM M w a c b) 43 (fnV (upd (mI M 40) w a) (upd (mI M 42) w c) (upd (mI M 41) w b) (mI M 43))) cnt fr = false ∧ v = some (.int (nI 0)) ∧ M1 = cdM (sI (reM M) 43 (fnV (mI M 40) (mI M 42) (mI M 41) (fnV (upd (mI M 40) w a) (upd (mI M 42) w c) (upd (mI M 41) w b) (mI M 43)))) (nI 2)) ∨ (rnS (upd (mI M 40) w a) (upd (mI M 41) w b) w false ∧ orX (sI (pnM M w a c b) 43 (fnV (upd (mI M 40) w a) (upd (mI M 42) w c) (upd (mI M 41) w b) (mI M 43))) cnt fr = true ∧ v = some (.int ((fnV (upd (mI M 40) w a) (upd (mI M 42) w c) (upd (mI M 41) w b) (mI M 43)) w)) ∧ rmP M (sI (pnM M w a c b) 43 (fnV (upd (mI M 40) w a) (upd (mI M 42) w c) (upd (mI M 41) w b) (mI M 43))) (fun t => 40 ≤ t ∧ t ≤ 43) ∧ MV (sI (pnM M w a c b) 43 (fnV (upd (mI M 40) w a) (upd (mI M 42) w c) (upd (mI M 41) w b) (mI M 43))) gv cnt bar fr ∧ coM (sI (pnM M w a c b) 43 (fnV (upd (mI M 40) w a) (upd (mI M 42) w c) (upd (mI M 41) w b) (mI M 43))) cnt bar bar fr M1)))) := by
  refine Ct.of (own := RX10) rfl [some (.ref (eA E 12 0)), some (.int x), some (.int a), some (.int c), some (.int b), none, none, none, none] (by decide) (Nat.le_of_ble_eq_true rfl) rfl ?_
  have T54 : (in7 x = true ∧ mT a = true ∧ mT b = true ∧ isOp c = true) → Jd l E RX10 cX10_setNumber 9 (some .int) [] (rmm 9 0 0) (QfN E (fun v M1 => (¬ (in7 x = true ∧ mT a = true ∧ mT b = true ∧ isOp c = true) ∧ v = some (.int (nI 0)) ∧ M1 = cdM (c0 M) (nI 1)) ∨ ((in7 x = true ∧ mT a = true ∧ mT b = true ∧ isOp c = true) ∧ ∃ w, w < 8 ∧ x = nI w ∧ ((rnS (upd (mI M 40) w a) (upd (mI M 41) w b) w true ∧ v = some (.int (nI 0)) ∧ M1 = cdM (sI (reM M) 43 (fnV (mI M 40) (mI M 42) (mI M 41) (mI M 43))) (nI 2)) ∨ (rnS (upd (mI M 40) w a) (upd (mI M 41) w b) w false ∧ orX (sI (pnM M w a c b) 43 (fnV (upd (mI M 40) w a) (upd (mI M 42) w c) (upd (mI M 41) w b) (mI M 43))) cnt fr = false ∧ v = some (.int (nI 0)) ∧ M1 = cdM (sI (reM M) 43 (fnV (mI M 40) (mI M 42) (mI M 41) (fnV (upd (mI M 40) w a) (upd (mI M 42) w c) (upd (mI M 41) w b) (mI M 43)))) (nI 2)) ∨ (rnS (upd (mI M 40) w a) (upd (mI M 41) w b) w false ∧ orX (sI (pnM M w a c b) 43 (fnV (upd (mI M 40) w a) (upd (mI M 42) w c) (upd (mI M 41) w b) (mI M 43))) cnt fr = true ∧ v = some (.int ((fnV (upd (mI M 40) w a) (upd (mI M 42) w c) (upd (mI M 41) w b) (mI M 43)) w)) ∧ rmP M (sI (pnM M w a c b) 43 (fnV (upd (mI M 40) w a) (upd (mI M 42) w c) (upd (mI M 41) w b) (mI M 43))) (fun t => 40 ≤ t ∧ t ≤ 43) ∧ MV (sI (pnM M w a c b) 43 (fnV (upd (mI M 40) w a) (upd (mI M 42) w c) (upd (mI M 41) w b) (mI M 43))) gv cnt bar fr ∧ coM (sI (pnM M w a c b) 43 (fnV (upd (mI M 40) w a) (upd (mI M 42) w c) (upd (mI M 41) w b) (mI M 43))) cnt bar bar fr M1)))) 0 0) 0 0 54 [some (.ref (eA E 12 0)), some (.int x), some (.int a), some (.int c), some (.int b), none, none, none, none] [] (c0 M) := by
    intro hok
    obtain ⟨n, hn, hxn⟩ := in7_n hok.1
    subst hxn
    have T139 : ∀ (V : Nat → Int32) (e : Int32), vb V → ((rnS (upd (mI M 40) n a) (upd (mI M 41) n b) n true ∧ some (Value.int (nI 0)) = some (Value.int (nI 0)) ∧ cdM (sI (reM M) 43 (fnV (mI M 40) (mI M 42) (mI M 41) V)) (nI 2) = cdM (sI (reM M) 43 (fnV (mI M 40) (mI M 42) (mI M 41) (mI M 43))) (nI 2)) ∨ (rnS (upd (mI M 40) n a) (upd (mI M 41) n b) n false ∧ orX (sI (pnM M n a c b) 43 (fnV (upd (mI M 40) n a) (upd (mI M 42) n c) (upd (mI M 41) n b) (mI M 43))) cnt fr = false ∧ some (Value.int (nI 0)) = some (Value.int (nI 0)) ∧ cdM (sI (reM M) 43 (fnV (mI M 40) (mI M 42) (mI M 41) V)) (nI 2) = cdM (sI (reM M) 43 (fnV (mI M 40) (mI M 42) (mI M 41) (fnV (upd (mI M 40) n a) (upd (mI M 42) n c) (upd (mI M 41) n b) (mI M 43)))) (nI 2)) ∨ (rnS (upd (mI M 40) n a) (upd (mI M 41) n b) n false ∧ orX (sI (pnM M n a c b) 43 (fnV (upd (mI M 40) n a) (upd (mI M 42) n c) (upd (mI M 41) n b) (mI M 43))) cnt fr = true ∧ some (Value.int (nI 0)) = some (.int ((fnV (upd (mI M 40) n a) (upd (mI M 42) n c) (upd (mI M 41) n b) (mI M 43)) n)) ∧ rmP M (sI (pnM M n a c b) 43 (fnV (upd (mI M 40) n a) (upd (mI M 42) n c) (upd (mI M 41) n b) (mI M 43))) (fun t => 40 ≤ t ∧ t ≤ 43) ∧ MV (sI (pnM M n a c b) 43 (fnV (upd (mI M 40) n a) (upd (mI M 42) n c) (upd (mI M 41) n b) (mI M 43))) gv cnt bar fr ∧ coM (sI (pnM M n a c b) 43 (fnV (upd (mI M 40) n a) (upd (mI M 42) n c) (upd (mI M 41) n b) (mI M 43))) cnt bar bar fr (cdM (sI (reM M) 43 (fnV (mI M 40) (mI M 42) (mI M 41) V)) (nI 2)))) → Jd l E RX10 cX10_setNumber 9 (some .int) [] (rmm 9 0 0) (QfN E (fun v M1 => (¬ (in7 (nI n) = true ∧ mT a = true ∧ mT b = true ∧ isOp c = true) ∧ v = some (.int (nI 0)) ∧ M1 = cdM (c0 M) (nI 1)) ∨ ((in7 (nI n) = true ∧ mT a = true ∧ mT b = true ∧ isOp c = true) ∧ ∃ w, w < 8 ∧ nI n = nI w ∧ ((rnS (upd (mI M 40) w a) (upd (mI M 41) w b) w true ∧ v = some (.int (nI 0)) ∧ M1 = cdM (sI (reM M) 43 (fnV (mI M 40) (mI M 42) (mI M 41) (mI M 43))) (nI 2)) ∨ (rnS (upd (mI M 40) w a) (upd (mI M 41) w b) w false ∧ orX (sI (pnM M w a c b) 43 (fnV (upd (mI M 40) w a) (upd (mI M 42) w c) (upd (mI M 41) w b) (mI M 43))) cnt fr = false ∧ v = some (.int (nI 0)) ∧ M1 = cdM (sI (reM M) 43 (fnV (mI M 40) (mI M 42) (mI M 41) (fnV (upd (mI M 40) w a) (upd (mI M 42) w c) (upd (mI M 41) w b) (mI M 43)))) (nI 2)) ∨ (rnS (upd (mI M 40) w a) (upd (mI M 41) w b) w false ∧ orX (sI (pnM M w a c b) 43 (fnV (upd (mI M 40) w a) (upd (mI M 42) w c) (upd (mI M 41) w b) (mI M 43))) cnt fr = true ∧ v = some (.int ((fnV (upd (mI M 40) w a) (upd (mI M 42) w c) (upd (mI M 41) w b) (mI M 43)) w)) ∧ rmP M (sI (pnM M w a c b) 43 (fnV (upd (mI M 40) w a) (upd (mI M 42) w c) (upd (mI M 41) w b) (mI M 43))) (fun t => 40 ≤ t ∧ t ≤ 43) ∧ MV (sI (pnM M w a c b) 43 (fnV (upd (mI M 40) w a) (upd (mI M 42) w c) (upd (mI M 41) w b) (mI M 43))) gv cnt bar fr ∧ coM (sI (pnM M w a c b) 43 (fnV (upd (mI M 40) w a) (upd (mI M 42) w c) (upd (mI M 41) w b) (mI M 43))) cnt bar bar fr M1)))) 0 0) 0 0 139 [some (.ref (eA E 12 0)), some (.int (nI n)), some (.int a), some (.int c), some (.int b), some (.int (mI M 40 n)), some (.int (mI M 41 n)), some (.int (mI M 42 n)), some (.int e)] [] (sI (pnM M n a c b) 43 V) := by
      intro V e hV hfin
      have hMr : MV (sI (reM M) 43 V) gv cnt bar fr := by
        have h9 := re_MV hMV
        exact ⟨h9.1, h9.2.1, h9.2.2.1, h9.2.2.2.1, h9.2.2.2.2.1, h9.2.2.2.2.2.1, h9.2.2.2.2.2.2.1, h9.2.2.2.2.2.2.2.1, hV, h9.2.2.2.2.2.2.2.2.2⟩
      refine j_aln dX10_setNumber_139 rfl rfl ?_
      refine g_X10_1 dX10_setNumber_140 fl_X10_7 ?_
      refine j_iln dX10_setNumber_143 rfl rfl ?_
      refine j_il dX10_setNumber_144 rfl ?_
      refine j_aistN dX10_setNumber_146 rfl (fun _ => rfl) rfl (by decide) (by omega) ?_
      refine j_aln dX10_setNumber_147 rfl rfl ?_
      refine g_X10_2 dX10_setNumber_148 fl_X10_13 ?_
      refine j_iln dX10_setNumber_151 rfl rfl ?_
      refine j_il dX10_setNumber_152 rfl ?_
      refine j_aistN dX10_setNumber_154 rfl (fun _ => rfl) rfl (by decide) (by omega) ?_
      refine j_aln dX10_setNumber_155 rfl rfl ?_
      refine g_X10_3 dX10_setNumber_156 fl_X10_16 ?_
      refine j_iln dX10_setNumber_159 rfl rfl ?_
      refine j_il dX10_setNumber_160 rfl ?_
      refine j_acstN dX10_setNumber_162 rfl (fun _ => rfl) rfl (by decide) (by omega) (op_vp (hMV.2.2.2.2.2.2.2.1 n hn).2.2) ?_
      refine j_mem (M' := sI (reM M) 43 V) pn_back ?_
      refine j_aln dX10_setNumber_163 rfl rfl ?_
      refine j_V0n mf_X10_finds ml_X10_121 dX10_setNumber_164 (Nat.le_of_ble_eq_true rfl) (Nat.le_of_ble_eq_true rfl) (Nat.le_of_ble_eq_true rfl) ⟨(Nat.le_of_ble_eq_true rfl), (Nat.le_of_ble_eq_true rfl)⟩ (by first | assumption | decide | (simp only [nv] at *; omega)) rfl rfl (c_fiV (M := sI (reM M) 43 V) hMr) ?_
      refine j_mem (M' := sI (reM M) 43 (fnV (mI M 40) (mI M 42) (mI M 41) V)) (by rw [sI_sI, show mI (sI (reM M) 43 V) 40 = mI M 40 from re_t (M := M) (t := 40) (by omega), show mI (sI (reM M) 43 V) 41 = mI M 41 from re_t (M := M) (t := 41) (by omega), show mI (sI (reM M) 43 V) 42 = mI M 42 from re_t (M := M) (t := 42) (by omega), show mI (sI (reM M) 43 V) 43 = V from rfl]) ?_
      refine j_aln dX10_setNumber_167 rfl rfl ?_
      refine j_icN 2 dX10_setNumber_168 rfl ?_
      refine j_V1d mf_X10_fails ml_X10_112 dX10_setNumber_169 (Nat.le_of_ble_eq_true rfl) (Nat.le_of_ble_eq_true rfl) (Nat.le_of_ble_eq_true rfl) ⟨(Nat.le_of_ble_eq_true rfl), (Nat.le_of_ble_eq_true rfl)⟩ (by first | assumption | decide | (simp only [nv] at *; omega)) rfl rfl c_X10_fails ?_
      exact j_iret dX10_setNumber_172 rfl rfl (Nat.le_of_ble_eq_true rfl) (Nat.le_of_ble_eq_true rfl) (Or.inr ⟨hok, n, hn, rfl, hfin⟩)
    refine j_aln dX10_setNumber_54 rfl rfl ?_
    refine g_X10_1 dX10_setNumber_55 fl_X10_7 ?_
    refine j_iln dX10_setNumber_58 rfl rfl ?_
    refine j_aildN dX10_setNumber_59 rfl rfl rfl (by decide) (by omega) ?_
    refine j_ist_5 dX10_setNumber_60 (by decide) rfl ?_
    refine j_aln dX10_setNumber_62 rfl rfl ?_
    refine g_X10_2 dX10_setNumber_63 fl_X10_13 ?_
    refine j_iln dX10_setNumber_66 rfl rfl ?_
    refine j_aildN dX10_setNumber_67 rfl rfl rfl (by decide) (by omega) ?_
    refine j_ist_6 dX10_setNumber_68 (by decide) rfl ?_
    refine j_aln dX10_setNumber_70 rfl rfl ?_
    refine g_X10_3 dX10_setNumber_71 fl_X10_16 ?_
    refine j_iln dX10_setNumber_74 rfl rfl ?_
    refine j_acldN dX10_setNumber_75 rfl rfl rfl (by decide) (by omega) ?_
    refine j_ist_7 dX10_setNumber_76 (by decide) rfl ?_
    refine j_aln dX10_setNumber_78 rfl rfl ?_
    refine j_V0n mf_X10_remembers ml_X10_115 dX10_setNumber_79 (Nat.le_of_ble_eq_true rfl) (Nat.le_of_ble_eq_true rfl) (Nat.le_of_ble_eq_true rfl) ⟨(Nat.le_of_ble_eq_true rfl), (Nat.le_of_ble_eq_true rfl)⟩ (by first | assumption | decide | (simp only [nv] at *; omega)) rfl rfl (c_reV hMV) ?_
    refine j_aln dX10_setNumber_82 rfl rfl ?_
    refine g_X10_1 dX10_setNumber_83 fl_X10_7 ?_
    refine j_iln dX10_setNumber_86 rfl rfl ?_
    refine j_iln dX10_setNumber_87 rfl rfl ?_
    refine j_aistN dX10_setNumber_88 rfl (fun _ => rfl) rfl (by decide) (by omega) ?_
    refine j_aln dX10_setNumber_89 rfl rfl ?_
    refine g_X10_2 dX10_setNumber_90 fl_X10_13 ?_
    refine j_iln dX10_setNumber_93 rfl rfl ?_
    refine j_il dX10_setNumber_94 rfl ?_
    refine j_aistN dX10_setNumber_96 rfl (fun _ => rfl) rfl (by decide) (by omega) ?_
    refine j_aln dX10_setNumber_97 rfl rfl ?_
    refine g_X10_3 dX10_setNumber_98 fl_X10_16 ?_
    refine j_iln dX10_setNumber_101 rfl rfl ?_
    refine j_iln dX10_setNumber_102 rfl rfl ?_
    refine j_acstN dX10_setNumber_103 rfl (fun _ => rfl) rfl (by decide) (by omega) (op_vp hok.2.2.2) ?_
    refine j_mem (M' := pnM M n a c b) (by unfold pnM; rw [← re_t (M := M) (t := 40) (by omega), ← re_t (M := M) (t := 41) (by omega), ← re_t (M := M) (t := 42) (by omega)]; first | done | rfl) ?_
    have hMp : MV (pnM M n a c b) gv cnt bar fr := by
      have q := pn_MV (n := n) (V := mI M 43) hMV hMV.2.2.2.2.2.2.2.2.1 ⟨hok.2.1, hok.2.2.1, hok.2.2.2⟩
      rwa [show mI M 43 = mI (pnM M n a c b) 43 from by rw [pn_t (by omega), re_t (by omega)], sI_id] at q
    refine j_aln dX10_setNumber_104 rfl rfl ?_
    refine j_iln dX10_setNumber_105 rfl rfl ?_
    refine j_V1g mf_X10_isRound ml_X10_118 dX10_setNumber_106 (Nat.le_of_ble_eq_true rfl) (Nat.le_of_ble_eq_true rfl) (Nat.le_of_ble_eq_true rfl) ⟨(Nat.le_of_ble_eq_true rfl), (Nat.le_of_ble_eq_true rfl)⟩ (by first | assumption | decide | (simp only [nv] at *; omega)) rfl rfl (c_X10_isRound (M := pnM M n a c b) hn (fun k hk => (hMp.2.2.2.2.2.2.2.1 k hk).1) (fun k hk => (hMp.2.2.2.2.2.2.2.1 k hk).2.1)) ?_
    intro v M9 hpp
    obtain ⟨hpp, hm9⟩ := hpp
    subst hm9
    obtain ⟨bb, hrn, hvb⟩ := rn_S hpp
    subst hvb
    refine j_ist_8 dX10_setNumber_109 (by decide) rfl ?_
    refine j_il dX10_setNumber_111 rfl ?_
    refine j_ifne (tgt := 134) dX10_setNumber_113 (by decide) (fun h113 => ?_) (fun h113 => ?_)
    · have hb : bb = true := bI_ne.mp h113
      refine j_il dX10_setNumber_134 rfl ?_
      refine j_ifeq (tgt := 173) dX10_setNumber_136 (by decide) (fun h136 => ?_) (fun h136 => ?_)
      · exact absurd h136 (by rw [hb]; decide)
      · refine j_mem (M' := sI (pnM M n a c b) 43 (mI M 43)) (by rw [show mI M 43 = mI (pnM M n a c b) 43 from by rw [pn_t (by omega), re_t (by omega)]]; exact (sI_id _ 43).symm) ?_
        exact T139 (mI M 43) _ hMV.2.2.2.2.2.2.2.2.1 (Or.inl ⟨hb ▸ hrn, rfl, rfl⟩)
    · have hb : bb = false := bI_eq.mp h113
      subst hb
      refine j_aln dX10_setNumber_116 rfl rfl ?_
      refine j_V0n mf_X10_finds ml_X10_121 dX10_setNumber_117 (Nat.le_of_ble_eq_true rfl) (Nat.le_of_ble_eq_true rfl) (Nat.le_of_ble_eq_true rfl) ⟨(Nat.le_of_ble_eq_true rfl), (Nat.le_of_ble_eq_true rfl)⟩ (by first | assumption | decide | (simp only [nv] at *; omega)) rfl rfl (c_fiV (M := pnM M n a c b) hMp) ?_
      refine j_mem (M' := (sI (pnM M n a c b) 43 (fnV (upd (mI M 40) n a) (upd (mI M 42) n c) (upd (mI M 41) n b) (mI M 43)))) (by rw [show mI (pnM M n a c b) 40 = upd (mI M 40) n a from rfl, show mI (pnM M n a c b) 41 = upd (mI M 41) n b from rfl, show mI (pnM M n a c b) 42 = upd (mI M 42) n c from rfl, show mI (pnM M n a c b) 43 = mI M 43 from by rw [pn_t (by omega), re_t (by omega)]]) ?_
      have hM : MV (sI (pnM M n a c b) 43 (fnV (upd (mI M 40) n a) (upd (mI M 42) n c) (upd (mI M 41) n b) (mI M 43))) gv cnt bar fr := pn_MV hMV (fn_b hMV.2.2.2.2.2.2.2.2.1) ⟨hok.2.1, hok.2.2.1, hok.2.2.2⟩
      refine j_aln dX10_setNumber_120 rfl rfl ?_
      refine j_V0d mf_X10_isOrdered ml_X10_124 dX10_setNumber_121 (Nat.le_of_ble_eq_true rfl) (Nat.le_of_ble_eq_true rfl) (Nat.le_of_ble_eq_true rfl) ⟨(Nat.le_of_ble_eq_true rfl), (Nat.le_of_ble_eq_true rfl)⟩ (by first | assumption | decide | (simp only [nv] at *; omega)) rfl rfl (c_orV hM) ?_
      refine j_ifne (tgt := 131) dX10_setNumber_124 (by decide) (fun h124 => ?_) (fun h124 => ?_)
      · have ho : orX (sI (pnM M n a c b) 43 (fnV (upd (mI M 40) n a) (upd (mI M 42) n c) (upd (mI M 41) n b) (mI M 43))) cnt fr = true := bI_ne.mp h124
        refine j_icN 0 dX10_setNumber_131 rfl ?_
        refine j_ist_8 dX10_setNumber_132 (by decide) rfl ?_
        refine j_il dX10_setNumber_134 rfl ?_
        refine j_ifeqN (tgt := 173) dX10_setNumber_136 (by decide) (by omega) (fun h136 => ?_) (fun h136 => ?_)
        · refine j_aln dX10_setNumber_173 rfl rfl ?_
          refine j_V0g mf_X10_carriesOut ml_X10_128 dX10_setNumber_174 (Nat.le_of_ble_eq_true rfl) (Nat.le_of_ble_eq_true rfl) (Nat.le_of_ble_eq_true rfl) ⟨(Nat.le_of_ble_eq_true rfl), (Nat.le_of_ble_eq_true rfl)⟩ (by first | assumption | decide | (simp only [nv] at *; omega)) rfl rfl (c_coV (pn_P M n a c b (fnV (upd (mI M 40) n a) (upd (mI M 42) n c) (upd (mI M 41) n b) (mI M 43))) hM hMV.2.1.1 hMV.2.1.2 hMV.2.2.1.1 (by have := hMV.2.2.1.2; have := hMV.2.1.2; omega)) ?_
          intro v M9 hpp
          obtain ⟨hv, hc⟩ := hpp
          subst hv
          refine j_aln dX10_setNumber_177 rfl rfl ?_
          refine g_X10_4 dX10_setNumber_178 fl_X10_20 ?_
          refine j_iln dX10_setNumber_181 rfl rfl ?_
          refine j_aildN dX10_setNumber_182 rfl rfl rfl (by decide) (by omega) ?_
          refine j_topi (show _ = (fnV (upd (mI M 40) n a) (upd (mI M 42) n c) (upd (mI M 41) n b) (mI M 43)) n from congrFun (co_fr hc (t := 43) (by unfold crS; omega)) n) ?_
          exact j_iret dX10_setNumber_183 rfl rfl (Nat.le_of_ble_eq_true rfl) (Nat.le_of_ble_eq_true rfl) (Or.inr ⟨hok, n, hn, rfl, Or.inr (Or.inr ⟨hrn, ho, rfl, pn_P M n a c b (fnV (upd (mI M 40) n a) (upd (mI M 42) n c) (upd (mI M 41) n b) (mI M 43)), hM, hc⟩)⟩)
        · exact absurd rfl h136
      · have ho : orX (sI (pnM M n a c b) 43 (fnV (upd (mI M 40) n a) (upd (mI M 42) n c) (upd (mI M 41) n b) (mI M 43))) cnt fr = false := bI_eq.mp h124
        refine j_icN 1 dX10_setNumber_127 rfl ?_
        refine j_goto (tgt := 132) dX10_setNumber_128 (by decide) ?_
        refine j_ist_8 dX10_setNumber_132 (by decide) rfl ?_
        refine j_il dX10_setNumber_134 rfl ?_
        refine j_ifeqN (tgt := 173) dX10_setNumber_136 (by decide) (by omega) (fun h136 => ?_) (fun h136 => ?_)
        · exact absurd h136 (by decide)
        · exact T139 (fnV (upd (mI M 40) n a) (upd (mI M 42) n c) (upd (mI M 41) n b) (mI M 43)) _ (fn_b hMV.2.2.2.2.2.2.2.2.1) (Or.inr (Or.inl ⟨hrn, ho, rfl, rfl⟩))
  refine j_aln dX10_setNumber_0 rfl rfl ?_
  refine j_icN 0 dX10_setNumber_1 rfl ?_
  refine p_X10_0 dX10_setNumber_2 fl_X10_96 ?_
  refine j_iln dX10_setNumber_5 rfl rfl ?_
  refine j_icN 0 dX10_setNumber_6 rfl ?_
  refine j_biN 7 dX10_setNumber_7 rfl ?_
  refine j_S3d mf_X10_in ml_X10_100 dX10_setNumber_9 (Nat.le_of_ble_eq_true rfl) (Nat.le_of_ble_eq_true rfl) (Nat.le_of_ble_eq_true rfl) ⟨(Nat.le_of_ble_eq_true rfl), (Nat.le_of_ble_eq_true rfl)⟩ c_X10_in ?_
  refine j_ifeq (tgt := 48) dX10_setNumber_12 (by decide) (fun h12 => ?_) (fun h12 => ?_)
  · have hno : ¬ (in7 x = true ∧ mT a = true ∧ mT b = true ∧ isOp c = true) := fun q => by have e : in7 x = false := bI_eq.mp h12; rw [q.1] at e; exact absurd e (by decide)
    refine j_aln dX10_setNumber_48 rfl rfl ?_
    refine j_icN 1 dX10_setNumber_49 rfl ?_
    refine j_V1d mf_X10_fails ml_X10_112 dX10_setNumber_50 (Nat.le_of_ble_eq_true rfl) (Nat.le_of_ble_eq_true rfl) (Nat.le_of_ble_eq_true rfl) ⟨(Nat.le_of_ble_eq_true rfl), (Nat.le_of_ble_eq_true rfl)⟩ (by first | assumption | decide | (simp only [nv] at *; omega)) rfl rfl c_X10_fails ?_
    exact j_iret dX10_setNumber_53 rfl rfl (Nat.le_of_ble_eq_true rfl) (Nat.le_of_ble_eq_true rfl) (Or.inl ⟨hno, rfl, rfl⟩)
  · refine j_iln dX10_setNumber_15 rfl rfl ?_
    refine j_S1d mf_X10_isTerm ml_X10_108 dX10_setNumber_16 (Nat.le_of_ble_eq_true rfl) (Nat.le_of_ble_eq_true rfl) (Nat.le_of_ble_eq_true rfl) ⟨(Nat.le_of_ble_eq_true rfl), (Nat.le_of_ble_eq_true rfl)⟩ c_X10_isTerm ?_
    refine j_ifeq (tgt := 48) dX10_setNumber_19 (by decide) (fun h19 => ?_) (fun h19 => ?_)
    · have hno : ¬ (in7 x = true ∧ mT a = true ∧ mT b = true ∧ isOp c = true) := fun q => by have e := bI_eq.mp h19; rw [q.2.1] at e; exact absurd e (by decide)
      refine j_aln dX10_setNumber_48 rfl rfl ?_
      refine j_icN 1 dX10_setNumber_49 rfl ?_
      refine j_V1d mf_X10_fails ml_X10_112 dX10_setNumber_50 (Nat.le_of_ble_eq_true rfl) (Nat.le_of_ble_eq_true rfl) (Nat.le_of_ble_eq_true rfl) ⟨(Nat.le_of_ble_eq_true rfl), (Nat.le_of_ble_eq_true rfl)⟩ (by first | assumption | decide | (simp only [nv] at *; omega)) rfl rfl c_X10_fails ?_
      exact j_iret dX10_setNumber_53 rfl rfl (Nat.le_of_ble_eq_true rfl) (Nat.le_of_ble_eq_true rfl) (Or.inl ⟨hno, rfl, rfl⟩)
    · refine j_il dX10_setNumber_22 rfl ?_
      refine j_S1d mf_X10_isTerm ml_X10_108 dX10_setNumber_24 (Nat.le_of_ble_eq_true rfl) (Nat.le_of_ble_eq_true rfl) (Nat.le_of_ble_eq_true rfl) ⟨(Nat.le_of_ble_eq_true rfl), (Nat.le_of_ble_eq_true rfl)⟩ c_X10_isTerm ?_
      refine j_ifeq (tgt := 48) dX10_setNumber_27 (by decide) (fun h27 => ?_) (fun h27 => ?_)
      · have hno : ¬ (in7 x = true ∧ mT a = true ∧ mT b = true ∧ isOp c = true) := fun q => by have e := bI_eq.mp h27; rw [q.2.2.1] at e; exact absurd e (by decide)
        refine j_aln dX10_setNumber_48 rfl rfl ?_
        refine j_icN 1 dX10_setNumber_49 rfl ?_
        refine j_V1d mf_X10_fails ml_X10_112 dX10_setNumber_50 (Nat.le_of_ble_eq_true rfl) (Nat.le_of_ble_eq_true rfl) (Nat.le_of_ble_eq_true rfl) ⟨(Nat.le_of_ble_eq_true rfl), (Nat.le_of_ble_eq_true rfl)⟩ (by first | assumption | decide | (simp only [nv] at *; omega)) rfl rfl c_X10_fails ?_
        exact j_iret dX10_setNumber_53 rfl rfl (Nat.le_of_ble_eq_true rfl) (Nat.le_of_ble_eq_true rfl) (Or.inl ⟨hno, rfl, rfl⟩)
      · refine j_iln dX10_setNumber_30 rfl rfl ?_
        refine j_biN 43 dX10_setNumber_31 rfl ?_
        refine j_iceq (tgt := 54) dX10_setNumber_33 (by decide) (fun h33 => ?_) (fun h33 => ?_)
        · exact T54 ⟨bI_ne.mp h12, bI_ne.mp h19, bI_ne.mp h27, decide_eq_true (by first | exact Or.inl h33 | exact Or.inr (Or.inl h39) | exact Or.inr (Or.inr h45))⟩
        · refine j_iln dX10_setNumber_36 rfl rfl ?_
          refine j_biN 45 dX10_setNumber_37 rfl ?_
          refine j_iceq (tgt := 54) dX10_setNumber_39 (by decide) (fun h39 => ?_) (fun h39 => ?_)
          · exact T54 ⟨bI_ne.mp h12, bI_ne.mp h19, bI_ne.mp h27, decide_eq_true (by first | exact Or.inl h33 | exact Or.inr (Or.inl h39) | exact Or.inr (Or.inr h45))⟩
          · refine j_iln dX10_setNumber_42 rfl rfl ?_
            refine j_biN 42 dX10_setNumber_43 rfl ?_
            refine j_iceq (tgt := 54) dX10_setNumber_45 (by decide) (fun h45 => ?_) (fun h45 => ?_)
            · exact T54 ⟨bI_ne.mp h12, bI_ne.mp h19, bI_ne.mp h27, decide_eq_true (by first | exact Or.inl h33 | exact Or.inr (Or.inl h39) | exact Or.inr (Or.inr h45))⟩
            · have hno : ¬ (in7 x = true ∧ mT a = true ∧ mT b = true ∧ isOp c = true) := fun q => (of_decide_eq_true q.2.2.2).elim h33 (fun q => q.elim h39 h45)
              refine j_aln dX10_setNumber_48 rfl rfl ?_
              refine j_icN 1 dX10_setNumber_49 rfl ?_
              refine j_V1d mf_X10_fails ml_X10_112 dX10_setNumber_50 (Nat.le_of_ble_eq_true rfl) (Nat.le_of_ble_eq_true rfl) (Nat.le_of_ble_eq_true rfl) ⟨(Nat.le_of_ble_eq_true rfl), (Nat.le_of_ble_eq_true rfl)⟩ (by first | assumption | decide | (simp only [nv] at *; omega)) rfl rfl c_X10_fails ?_
              exact j_iret dX10_setNumber_53 rfl rfl (Nat.le_of_ble_eq_true rfl) (Nat.le_of_ble_eq_true rfl) (Or.inl ⟨hno, rfl, rfl⟩)
