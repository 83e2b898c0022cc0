/-! what the law's questions answer -/
def plX (M : Mm) (cnt : Nat) (x : Int32) : Int32 := if fpX cnt (mI M 24) x < 0 then -1005 else fpX cnt (mI M 24) x
def stX9 (M : Mm) (cnt bar : Nat) (x : Int32) : Int32 := if fpX cnt (mI M 24) x < 0 then -1005 else if ¬ mI M 27 (ntX x) = 0 then nI 111 else if fpX cnt (mI M 24) x < nI bar then mI M 28 (ntX x) else nI 98
def sqX (M : Mm) (bar f s : Nat) : Int32 := smI (fun z => bcl (chA (mL M bar) (mK M bar) (nI f) (nI s) z)) 8
def voX (M : Mm) (bar : Nat) : Int32 := smI (fun z => bcl (mL M bar z)) 8
def arX (M : Mm) (bar : Nat) : Int32 := smI (fun s => smI (fun z => bcl (sqa (mL M bar) s z)) 8) 6
theorem plX_bf {M M' : Mm} (h : bfF M M') (cnt : Nat) (x : Int32) : plX M' cnt x = plX M cnt x := by
  unfold plX
  rw [h.1 24 (by decide)]
theorem stX9_bf {M M' : Mm} (h : bfF M M') (cnt bar : Nat) (x : Int32) : stX9 M' cnt bar x = stX9 M cnt bar x := by
  unfold stX9
  rw [h.1 24 (by decide), h.1 27 (by decide), h.1 28 (by decide)]
theorem sqX_bf {M M' : Mm} (h : bfF M M') {bar : Nat} (hb : bar ≤ 12) (f s : Nat) : sqX M' bar f s = sqX M bar f s := by
  unfold sqX
  rw [h.2.2.1 bar (by omega), h.2.2.2 bar (by omega)]
theorem voX_bf {M M' : Mm} (h : bfF M M') {bar : Nat} (hb : bar ≤ 12) : voX M' bar = voX M bar := by
  unfold voX
  rw [h.2.2.1 bar (by omega)]
theorem arX_bf {M M' : Mm} (h : bfF M M') {bar : Nat} (hb : bar ≤ 12) : arX M' bar = arX M bar := by
  unfold arX
  rw [h.2.2.1 bar (by omega)]
section RD
variable {l : Launch} {E : Ev} {M : Mm} {g cnt bar : Nat} {fr : Nat → Nat} {pc mc : Nat} {x0 x1 x2 x3 : Int32}
theorem CI_b (q : CI M g cnt bar fr pc mc) : g ≤ 40 ∧ cnt ≤ 12 ∧ bar ≤ cnt ∧ bar ≤ 12 ∧ pc ≤ 6 ∧ mc ≤ 12 := ⟨q.2.1.1, q.2.1.2.1, q.2.1.2.2.1, Nat.le_trans q.2.1.2.2.1 q.2.1.2.1, q.2.2.2.2.2.2.1.2, q.2.2.2.2.2.2.2.1.2⟩
theorem sp8 (hl9 : l.stackTraces = false) (hnse : NseR l E) (q : CI M g cnt bar fr pc mc) : lC l E 8 x0 x1 x2 x3 M (dv (.int (plX M cnt x0)) M) := by
  refine CtW.mono (cw_8 (by decide) (c_X9_place hl9 hnse q.1.1 (CI_b q).2.1) (fun N M' h => by rw [h.2.1]; exact exO) (fun v M' h => ⟨_, h.2.1⟩)) (fun v M1 h => ?_)
  rcases h with ⟨w, ⟨h1, hv1, hM⟩, hv⟩ | ⟨N, hN, ⟨h1, h2, hM⟩, hv⟩
  · refine ⟨?_, hM⟩
    rw [hv, vI hv1]
    unfold plX
    rw [if_neg (Int32.not_lt.mpr h1)]
  · refine ⟨?_, hM⟩
    rw [hv, h2]
    unfold plX
    rw [if_pos h1]; decide
theorem sp9 (hl9 : l.stackTraces = false) (hnse : NseR l E) (q : CI M g cnt bar fr pc mc) : lC l E 9 x0 x1 x2 x3 M (dv (.int (stX9 M cnt bar x0)) M) := by
  refine CtW.mono (cw_9 (by decide) (c_X9_state hl9 hnse q.1.1 (CI_b q).2.1 (CI_row q) q.1.2.2.1 (CI_b q).2.2.1 (fun f hf => fch_n (q.2.2.2.2.1.2.2.2 f hf))) (fun N M' h => by rw [h.2.1]; exact exO) (fun v M' h => ⟨_, h.2.1⟩)) (fun v M1 h => ?_)
  rcases h with ⟨w, ⟨h1, hv1, hM⟩, hv⟩ | ⟨N, hN, ⟨h1, h2, hM⟩, hv⟩
  · refine ⟨?_, hM⟩
    rw [hv, vI hv1]
    unfold stX9
    rw [if_neg h1]
  · refine ⟨?_, hM⟩
    rw [hv, h2]
    unfold stX9
    rw [if_pos h1]; decide
theorem nI_rg {f n : Nat} (hf : f < n) (hn : n < 2 ^ 31) : ¬ nI f < 0 ∧ ¬ nI n ≤ nI f := ⟨nI_pos (by omega), fun h => by have := (nI_leI hn (by omega)).mp h; omega⟩
theorem sp13 (hl9 : l.stackTraces = false) (q : CI M g cnt bar fr pc mc) {f s : Nat} (hf : f < 40) (hs : s < 6) : lC l E 13 (nI f) (nI s) x2 x3 M (fun v M1 => v = some (.int (sqX M bar f s)) ∧ bfF M M1) := by
  refine CtW.mono (cw_13 (by decide) (c_X9_squares hl9 q.1.2.2.1 (CI_b q).2.2.2.1) (fun N M' h => by rw [h.2.1]; exact exI) (fun v M' h => ⟨_, h.2.1⟩)) (fun v M1 h => ?_)
  rcases h with ⟨w, ⟨h1, hv1, hM⟩, hv⟩ | ⟨N, hN, ⟨h1, h2, hM⟩, hv⟩
  · refine ⟨by rw [hv, vI hv1]; rfl, ?_⟩
    rw [hM]; exact bf_L (by decide) _
  · exact absurd ⟨(nI_rg hf (by decide)).1, (nI_rg hf (by decide)).2, decide_eq_true (nI_rg hs (by decide))⟩ h1
theorem sp13x (hl9 : l.stackTraces = false) (q : CI M g cnt bar fr pc mc) : lC l E 13 (nI 0) (nI 6) x2 x3 M (dv (.int (-1002)) M) := by
  refine CtW.mono (cw_13 (by decide) (c_X9_squares hl9 q.1.2.2.1 (CI_b q).2.2.2.1) (fun N M' h => by rw [h.2.1]; exact exI) (fun v M' h => ⟨_, h.2.1⟩)) (fun v M1 h => ?_)
  rcases h with ⟨w, ⟨h1, hv1, hM⟩, hv⟩ | ⟨N, hN, ⟨h1, h2, hM⟩, hv⟩
  · exact absurd h1.2.2 (by decide)
  · exact ⟨by rw [hv, h2]; decide, hM⟩
theorem sp1 (hl9 : l.stackTraces = false) {n : Nat} (hn : n < 8) : lC l E 1 (nI n) x1 x2 x3 M (dv (.int (mI M 23 n)) M) := by
  refine CtW.mono (cw_1 (by decide) (c_X9_number hl9) (fun N M' h => by rw [h.2.1]; exact exI) (fun v M' h => ⟨_, h.2.1⟩)) (fun v M1 h => ?_)
  rcases h with ⟨w, ⟨h1, hv1, hM⟩, hv⟩ | ⟨N, hN, ⟨h1, h2, hM⟩, hv⟩
  · exact ⟨by rw [hv, vI hv1, ntX_nI (by omega)], hM⟩
  · have : isNm (nI n) = true := decide_eq_true (nI_rg hn (by decide))
    rw [this] at h1; exact absurd h1 (by decide)
theorem sp1x (hl9 : l.stackTraces = false) : lC l E 1 (nI 8) x1 x2 x3 M (dv (.int (-1002)) M) := by
  refine CtW.mono (cw_1 (by decide) (c_X9_number hl9) (fun N M' h => by rw [h.2.1]; exact exI) (fun v M' h => ⟨_, h.2.1⟩)) (fun v M1 h => ?_)
  rcases h with ⟨w, ⟨h1, hv1, hM⟩, hv⟩ | ⟨N, hN, ⟨h1, h2, hM⟩, hv⟩
  · exact absurd h1 (by decide)
  · exact ⟨by rw [hv, h2]; decide, hM⟩
theorem prX_t {p n : Nat} (hp : p < n) (hn : n < 2 ^ 31) : prX (nI n) (nI p) = true := decide_eq_true ⟨nI_pos (by omega), nI_lt hp hn⟩
theorem sp18 (hl9 : l.stackTraces = false) (q : CI M g cnt bar fr pc mc) {p a : Nat} (hp : p < pc) (ha : a < 3) : lC l E 18 (nI p) (nI a) x2 x3 M (dv (.int (mvX (mI M 34) (nI p) a)) M) := by
  have qP := q.2.2.2.2.2.2
  refine CtW.mono (cw_18 (by decide) (c_X9_moved hl9 qP.1.1 qP.1.2) (fun N M' h => ?_) (fun v M' h => ⟨_, h.2.2.1⟩)) (fun v M1 h => ?_)
  · rcases h.1 with ⟨-, h⟩ | ⟨-, -, h⟩
    · rw [h]; exact exB
    · rw [h]; exact exI
  have h6 := qP.1.2
  have c1 : prX (nI pc) (nI p) = true := prX_t hp (by omega)
  have c2 : axX (nI a) = true := decide_eq_true (nI_rg ha (by decide))
  rcases h with ⟨w, ⟨-, -, hv1, hM⟩, hv⟩ | ⟨N, hN, ⟨h1, hM⟩, hv⟩
  · exact ⟨by rw [hv, vI hv1, ntX_nI (by omega)], hM⟩
  · rcases h1 with ⟨h1, -⟩ | ⟨-, h1, -⟩
    · rw [c1] at h1; exact absurd h1 (by decide)
    · rw [c2] at h1; exact absurd h1 (by decide)
theorem sp12a (hl9 : l.stackTraces = false) (hnse : NseR l E) (q : CI M g cnt bar fr pc mc) : lC l E 12 (nI 8) (nI 0) (nI 0) (nI 0) M (dv (.int (-1001)) M) := by
  refine CtW.mono (cw_12 (by decide) (c_X9_nameOf hl9 hnse q.1.2.2.1 (CI_b q).2.2.2.1) (fun N M' h => ?_) (fun v M' h => ⟨_, h.2.2.2.1⟩)) (fun v M1 h => ?_)
  · rcases h.1 with ⟨-, h⟩ | ⟨-, -, h⟩ | ⟨-, -, -, h⟩
    · rw [h]; exact exB
    · rw [h]; exact exI
    · rw [h]; exact exO
  rcases h with ⟨w, ⟨h1, -⟩, hv⟩ | ⟨N, hN, ⟨h1, hM⟩, hv⟩
  · exact absurd h1 (by decide)
  · rcases h1 with ⟨-, h⟩ | ⟨h, -⟩ | ⟨h, -⟩
    · exact ⟨by rw [hv, h]; decide, hM⟩
    · exact absurd h (by decide)
    · exact absurd h (by decide)
theorem sp12b (hl9 : l.stackTraces = false) (hnse : NseR l E) (q : CI M g cnt bar fr pc mc) : lC l E 12 (nI 0) (nI 0) (nI 0) (nI 6) M (dv (.int (-1002)) M) := by
  refine CtW.mono (cw_12 (by decide) (c_X9_nameOf hl9 hnse q.1.2.2.1 (CI_b q).2.2.2.1) (fun N M' h => ?_) (fun v M' h => ⟨_, h.2.2.2.1⟩)) (fun v M1 h => ?_)
  · rcases h.1 with ⟨-, h⟩ | ⟨-, -, h⟩ | ⟨-, -, -, h⟩
    · rw [h]; exact exB
    · rw [h]; exact exI
    · rw [h]; exact exO
  rcases h with ⟨w, ⟨-, h1, -⟩, hv⟩ | ⟨N, hN, ⟨h1, hM⟩, hv⟩
  · exact absurd h1 (by decide)
  · rcases h1 with ⟨h, -⟩ | ⟨-, -, h⟩ | ⟨-, h, -⟩
    · exact absurd h (by decide)
    · exact ⟨by rw [hv, h]; decide, hM⟩
    · exact absurd h (by decide)
/-- a number not in the row -/
theorem plX_g (q : CI M g cnt bar fr pc mc) : plX M cnt (nI g) = -1005 := by
  obtain ⟨b1, b2, b3, b4, b5⟩ := id q.2.1
  have h : fpX cnt (mI M 24) (nI g) = -1 := fpX_f fun j hj e => by
    have := b4 j hj
    rw [(CI_row q j hj).1] at e
    have := (nI_eq (by omega) (by omega)).mp e
    omega
  unfold plX
  rw [h]; decide
end RD
/-! calls in the law's own methods -/
section JW
variable {l : Launch} {E : Ev} {own : String} {cc : ByteArray} {nL : Nat} {rt : Option FieldType} {tb : List ExceptionTableEntry} {R : Room} {Qf : List Frame → Array Value → State → State → Prop} {k n : Nat} {pc : Nat} {ls : List (Option Value)} {st : List Value} {M : Mm}
theorem j_wd {k' n' : Nat} (hk : k ≤ k') (hn : n ≤ n') (kk : Jd l E own cc nL rt tb R Qf k' n' pc ls st M) : Jd l E own cc nL rt tb R Qf k n pc ls st M :=
  fun p e s m args below meth c C H locs lsr hP hS hl => W.widen hk hn (kk p e s m args below meth c C H locs lsr hP hS hl)
theorem j_lq {kd : Nat} {x0 x1 x2 x3 : Int32} {rest : List Value} {post' : Option Value → Mm → Prop} (hC : lC l E kd x0 x1 x2 x3 M post') (hR : 9 ≤ R.frames ∧ 426 ≤ R.locals) (hr8 : (rest.map fun v => v.category).sum ≤ 8) (d : decode cc pc = .ok (.invokestatic 108, 3)) (hf : k + 1 ≤ R.cells ∧ n + 6 ≤ R.slots)
    (kk : ∀ v M', post' v M' → Jd l E RL cc nL rt tb R Qf (k + 1) (n + 6) (pc + 3) ls (v.toList ++ rest) M') : Jd l E RL cc nL rt tb R Qf k n pc ls (.int x3 :: .int x2 :: .int x1 :: .int x0 :: .int (nI kd) :: .ref (eA E 0 0) :: rest) M := by
  intro p e s m args below meth c C H locs lsr hP hS hl
  obtain ⟨hx, hb, hr, hml, hown, hts, hlk, hK, hB, hE, hX, htb⟩ := id C
  obtain ⟨h0, h1, h3, h4⟩ := mw_call
  have hT : GoodIn wsG (va_wsS RL 108 yL_call (wsW yL_call cL_call 7 (some .int) hhL)) := by
    intro w hw9
    simp only [va_wsS, wsW, List.cons_append, List.nil_append, List.mem_cons] at hw9
    rcases hw9 with rfl | rfl | rfl | rfl | h
    all_goals first | exact wsG_good _ ml_L_108 | exact wsG_good _ h1 | exact wsG_good _ h3 | exact wsG_good _ h4 | exact wsG_good _ h
  exact run_go (vx_runSW (As := [.ref (eA E 0 0), .int (nI kd), .int x0, .int x1, .int x2, .int x3]) (rest := rest) ⟨hx, hb, hml, hown, hts⟩ hC (vx_cwSW 6 hts hT rfl rfl rfl h0 ⟨hR.1, hR.2⟩) ⟨wd_blind, fun U hU hW => ⟨rfl, pre_go C hP hS U hU hW⟩⟩ rfl rfl hl.1 rfl (lv_room hr8) d hf) hS
    (fun v M' H1 locs1 hp hP1 hS1 => kk v M' hp p e s m args below meth c C H1 locs1 lsr hP1 hS1 hl)
/-- .. one that answers a number and changes no more than questions do -/
theorem j_lcb {M0 : Mm} {kd : Nat} {x0 x1 x2 x3 : Int32} {rest : List Value} {w : Int32} (hb0 : bfF M0 M) (hC : lC l E kd x0 x1 x2 x3 M (fun v M1 => v = some (.int w) ∧ bfF M M1)) (hR : 9 ≤ R.frames ∧ 426 ≤ R.locals) (hr8 : (rest.map fun v => v.category).sum ≤ 8) (d : decode cc pc = .ok (.invokestatic 108, 3)) (hf : k + 1 ≤ R.cells ∧ n + 6 ≤ R.slots)
    (kk : ∀ M', bfF M0 M' → Jd l E RL cc nL rt tb R Qf (k + 1) (n + 6) (pc + 3) ls (.int w :: rest) M') : Jd l E RL cc nL rt tb R Qf k n pc ls (.int x3 :: .int x2 :: .int x1 :: .int x0 :: .int (nI kd) :: .ref (eA E 0 0) :: rest) M :=
  j_lq hC hR hr8 d hf fun v M' h => by
    obtain ⟨rfl, h2⟩ := h
    exact kk M' (bf_tr hb0 h2)
theorem j_lcd {kd : Nat} {x0 x1 x2 x3 : Int32} {rest : List Value} {w : Int32} (hC : lC l E kd x0 x1 x2 x3 M (dv (.int w) M)) (hR : 9 ≤ R.frames ∧ 426 ≤ R.locals) (hr8 : (rest.map fun v => v.category).sum ≤ 8) (d : decode cc pc = .ok (.invokestatic 108, 3)) (hf : k + 1 ≤ R.cells ∧ n + 6 ≤ R.slots)
    (kk : Jd l E RL cc nL rt tb R Qf (k + 1) (n + 6) (pc + 3) ls (.int w :: rest) M) : Jd l E RL cc nL rt tb R Qf k n pc ls (.int x3 :: .int x2 :: .int x1 :: .int x0 :: .int (nI kd) :: .ref (eA E 0 0) :: rest) M :=
  j_lq hC hR hr8 d hf fun v M' h => by
    obtain ⟨rfl, rfl⟩ := h
    exact kk
end JW
