/-! what the law's calls that change the history do, from what holds between calls -/
theorem Met.mono9 {l : Launch} {y : MethodName} {ws : List Cond} {rm : Room} {Pc : Array Value → State → Prop} {Qc Qd : Array Value → State → Outcome → State → Prop} {mc ms : Nat} {free : Addr → Prop} (h : Met l y ws rm Pc Qc mc ms free) (hq : ∀ a s o t, Qc a s o t → Qd a s o t) : Met l y ws rm Pc Qd mc ms free := by
  intro p e ha hc hk s m args below hf happ hP hK
  obtain ⟨n, o, h1, h2, h3, h4, L, h5, h6⟩ := h p e ha hc hk s m args below hf happ hP hK
  exact ⟨n, o, h1, h2, h3, hq _ _ _ _ h4, L, h5, h6⟩
theorem CtW.mono {l : Launch} {E : Ev} {y : MethodName} {cc : ByteArray} {nL : Nat} {ret : Option FieldType} {hh : List (Nat × Nat × Nat × Nat)} {lv mc ms : Nat} {As : List Value} {M : Mm} {post post2 : Option Value → Mm → Prop} (h : CtW l E y cc nL ret hh lv mc ms As M post) (hq : ∀ v M1, post v M1 → post2 v M1) : CtW l E y cc nL ret hh lv mc ms As M post2 :=
  Met.mono9 h fun a s o t q => by
    obtain ⟨⟨v, M', h1, h2, h3⟩, h4⟩ := q
    exact ⟨⟨v, M', h1, hq v M' h2, h3⟩, h4⟩
abbrev lC (l : Launch) (E : Ev) (k : Nat) (x0 x1 x2 x3 : Int32) (M : Mm) (post : Option Value → Mm → Prop) : Prop := CtW l E yL_call cL_call 7 (some .int) hhL 8 1 6 [.ref (eA E 0 0), .int (nI k), .int x0, .int x1, .int x2, .int x3] M post
/-- what holds behind a change -/
def NX (M M1 : Mm) (g cnt pc mc : Nat) : Prop := ∃ bar fr, CI M1 g cnt bar fr pc mc ∧ ∃ d, d ≤ 12 ∧ mW M1 0 = mW M 0 + Int64.ofNat d
/-- what holds behind a throw -/
def TH (M : Mm) (v : Option Value) (M1 : Mm) : Prop := ∃ c : Int32, v = some (.int c) ∧ (-1006 ≤ c.toInt ∧ c.toInt ≤ -1001) ∧ M1 = M
theorem xcd_b : ∀ N ∈ exC, -1006 ≤ (xcd N).toInt ∧ (xcd N).toInt ≤ -1001 := by decide +kernel
theorem TH_of {M : Mm} {N : String} (h : N ∈ exC) : TH M (some (.int (xcd N))) M := ⟨_, rfl, xcd_b N h, rfl⟩
theorem exI : "java/lang/IllegalArgumentException" ∈ exC := by decide +kernel
theorem exU : "java/lang/UnsupportedOperationException" ∈ exC := by decide +kernel
theorem exS : "java/lang/IllegalStateException" ∈ exC := by decide +kernel
theorem exO : "java/util/NoSuchElementException" ∈ exC := by decide +kernel
theorem exB : "java/lang/IndexOutOfBoundsException" ∈ exC := by decide +kernel
theorem vI {a b : Int32} (h : some (Value.int a) = some (.int b)) : a = b := Value.int.inj (Option.some.inj h)
theorem NX_of {M M1 : Mm} {g cnt bar : Nat} {fr : Nat → Nat} {pc mc : Nat} (h : CI M1 g cnt bar fr pc mc) (hd : ∃ d, d ≤ 12 ∧ mW M1 0 = mW M 0 + Int64.ofNat d) : NX M M1 g cnt pc mc := ⟨bar, fr, h, hd⟩
section SP
variable {l : Launch} {E : Ev} {M : Mm} {g cnt bar : Nat} {fr : Nat → Nat} {pc mc : Nat} {x0 x1 x2 x3 : Int32}
/-- a formula given -/
theorem sp0 (hl9 : l.stackTraces = false) (q : CI M g cnt bar fr pc mc) : lC l E 0 x0 x1 x2 x3 M (fun v M1 => (∃ w : Int32, v = some (.int w) ∧ (-99 ≤ w.toInt ∧ w.toInt ≤ 99) ∧ NX M M1 g cnt pc mc) ∨ TH M v M1) := by
  obtain ⟨qA, qB, qC, qN, qH, qO, qP⟩ := id q
  obtain ⟨b1, b2, b3, b4, b5⟩ := id qB
  refine CtW.mono (cw_0 (by decide) (c_X9_setNumber hl9 qA.1 b2 (CI_row q) qA.2.2.1 b3 qH.1 (Nat.le_trans b3 b2) (CI_kd q) b5 (CI_of q) qN.2.2) (fun N M' h => ?_) (fun v M' h => ?_)) (fun v M1 h => ?_)
  · rcases h with ⟨-, h, -⟩ | ⟨-, n, -, -, -, h, -⟩ | ⟨-, n, -, -, -, -, h, -⟩
    · rw [h]; exact exI
    · rw [h]; exact exU
    · rw [h]; exact exU
  · obtain ⟨-, n, -, -, -, -, hv, -⟩ := h; exact ⟨_, hv⟩
  · rcases h with ⟨w, ⟨hcl, n, hn, hx, hno, hso, hv1, hcoc⟩, hv⟩ | ⟨N, hN, h, hv⟩
    · left
      have hw := vI hv1
      generalize hc9 : (x2.toUInt32 % 65536).toInt32 = c at *
      have h4 := pF9_4 M n x1 c x3
      have hac := acy_new (F' := upd (mI M 20) n x1) (S' := upd (mI M 22) n x3) hn (fun k hk e => ⟨by rw [upd_at, if_neg e], by rw [upd_at, if_neg e]⟩) (by rw [upd_at, if_pos rfl]) (by rw [upd_at, if_pos rfl]) qN.2.1 hno
      have hN : CN (putF M n x1 c x3) := by
        refine ⟨?_, ?_, fun m hm => ?_⟩
        · rw [h4.1, h4.2.1, h4.2.2.1, h4.2.2.2]; exact sv_fix hac
        · rw [h4.1, h4.2.2.1]; exact hac
        · rw [h4.2.1, upd_at]
          by_cases e : m = n
          · rw [if_pos e]; exact op_vp hcl.2.1
          · rw [if_neg e]; exact qN.2.2 m hm
      obtain ⟨r1, r2, r3⟩ := ci_change q (Me := putF M n x1 c x3) ⟨fun t ht => pF9_t (by omega), rfl⟩ (fun f _ => by rw [pF9_t (by decide)]) hcoc (IA_c (pF9_t (by decide)) (pF9_t (by decide)) qA) qB (CC_c (pF9_t (by decide)) (pF9_t (by decide)) qC) hN hso
      have hb : -99 ≤ w.toInt ∧ w.toInt ≤ 99 := by
        rw [hw, h4.2.2.2, ← sv_fix hac n hn, sv_at 8 n hn]; exact cut_b _
      exact ⟨w, hv, hb, NX_of r1 r3⟩
    · right
      have e : M1 = M := by
        rcases h with ⟨-, -, h⟩ | ⟨-, n, -, -, -, -, h⟩ | ⟨-, n, -, -, -, -, -, h⟩
        · exact h
        · exact h
        · rw [h]; exact pF9_back (fun w hw => sv_back qN.2.1 qN.1 hw)
      subst e
      rw [hv]; exact TH_of hN
theorem CI_ord (q : CI M g cnt bar fr pc mc) : ord cnt fr (mI M 25) (fun f => szX M f 0) := (sb_i q.2.1.2.1 (CI_row q) q.2.1.2.2.2.2).mp q.2.2.2.2.2.1
/-- a feature added -/
theorem sp2 (hl9 : l.stackTraces = false) (hix : IxR l E) (q : CI M g cnt bar fr pc mc) : lC l E 2 x0 x1 x2 x3 M (fun v M1 => (v = some (.int (nI g)) ∧ g < 40 ∧ cnt < 12 ∧ NX M M1 (g + 1) (cnt + 1) pc mc) ∨ TH M v M1) := by
  obtain ⟨qA, qB, qC, qN, qH, qO, qP⟩ := id q
  obtain ⟨b1, b2, b3, b4, b5⟩ := id qB
  refine CtW.mono (cw_2 (by decide) (c_X9_addFeature hl9 hix qA.1 b2 (CI_row q) qA.2.2.1 b3 qH.1 (Nat.le_trans b3 b2) (CI_kd q) b5 (CI_of q) qA.2.1 b1 b4) (fun N M' h => ?_) (fun v M' h => ⟨_, h.2.2.2.1⟩)) (fun v M1 h => ?_)
  · rcases h.1 with ⟨-, h⟩ | ⟨-, -, h⟩ | ⟨-, -, -, h⟩
    · rw [h]; exact exI
    · rw [h]; exact exS
    · rw [h]; exact exU
  · generalize hk9 : (x0.toUInt32 % 65536).toInt32 = kd at *
    rcases h with ⟨w, ⟨⟨h7, hT⟩, ⟨hc, hg⟩, hnb, hv1, hcoc⟩, hv⟩ | ⟨N, hN, h, hv⟩
    · left
      have hw := vI hv1
      generalize hb2 : (if bar = cnt then cnt + 1 else bar) = b2' at *
      have hIA : IA (appM M g cnt bar kd x1 x2 x3) (g + 1) (cnt + 1) b2' (adN fr cnt g) := by
        refine ⟨rfl, rfl, ?_, fun k hk => ?_⟩
        · show nI (if bar = cnt then cnt + 1 else bar) = _
          rw [hb2]
        · show upd (mI M 24) cnt (nI g) k = _
          rw [upd_at, adN_at]
          by_cases c : k = cnt
          · rw [if_pos c, if_pos c]
          · rw [if_neg c, if_neg c]; exact (CI_row q k (by omega)).1
      have hb3 : b2' ≤ cnt + 1 := by rw [← hb2]; split <;> omega
      have hCB : CB (g + 1) (cnt + 1) b2' (adN fr cnt g) := by
        refine ⟨by omega, by omega, hb3, fun k hk => ?_, adN_i b4 b5⟩
        rw [adN_at]
        by_cases c : k = cnt
        · rw [if_pos c]; omega
        · rw [if_neg c]; have := b4 k (by omega); omega
      have hO2 : sbN (appM M g cnt bar kd x1 x2 x3) (cnt + 1) (adN fr cnt g) = true := by
        rw [sb_i (by omega) (fun k hk => ⟨hIA.2.2.2 k hk, Nat.lt_of_lt_of_le (hCB.2.2.2.1 k hk) hCB.1⟩) hCB.2.2.2.2]
        refine (ad_ord hg b4 (CI_ord q) fun k hk => ?_).mpr fun z => ?_
        · have h1 := b4 k hk
          refine ⟨?_, ?_⟩
          · show upd (mI M 25) g kd (fr k) = _
            rw [upd_at, if_neg (by omega)]
          · show valX (mI M 23) ((fun i => if i = g * 6 then x1 else if i = g * 6 + 1 then x2 else if i = g * 6 + 2 then x3 else if g * 6 + 3 ≤ i ∧ i < g * 6 + 6 then nI 1 else mI M 26 i) (fr k * 6 + 0)) = szX M (fr k) 0
            dsimp only
            rw [if_neg (by omega), if_neg (by omega), if_neg (by omega), if_neg (by omega)]
            rfl
        · obtain ⟨k, hk, z1, z2⟩ := z
          have h1 := b4 k hk
          have := (nb_i (M := M) (cnt := cnt) (fr := fr) (x := nI g)).mpr ⟨k, hk, fun e => by have := (nI_eq (by omega) (by omega)).mp e; omega, z1, z2⟩
          rw [hnb] at this; exact absurd this (by decide)
      obtain ⟨r1, r2, r3⟩ := ci_change q (Me := appM M g cnt bar kd x1 x2 x3) (g2 := g + 1) (cnt2 := cnt + 1) ⟨fun t ht => app_t (by omega), rfl⟩ (fun f hfg => by rw [app_25, upd_at, if_neg (by omega)]) hcoc hIA hCB ⟨fun f hf => by
          rw [app_25, upd_at]
          by_cases c : f = g
          · rw [if_pos c]; exact h7
          · rw [if_neg c]; exact qC.1 f (by omega), by rw [app_t (by decide)]; exact qC.2⟩ (CN_c (fun t ht => app_t (by omega)) qN) hO2
      exact ⟨by rw [hv, hw], hg, hc, NX_of r1 r3⟩
    · right
      obtain ⟨h, h3⟩ := h
      subst h3
      rw [hv]; exact TH_of hN
/-- further dimensions given -/
theorem sp3 (hl9 : l.stackTraces = false) (hnse : NseR l E) (q : CI M g cnt bar fr pc mc) : lC l E 3 x0 x1 x2 x3 M (fun v M1 => (∃ w : Int32, v = some (.int w) ∧ 0 ≤ w.toInt ∧ NX M M1 g cnt pc mc) ∨ TH M v M1) := by
  obtain ⟨qA, qB, qC, qN, qH, qO, qP⟩ := id q
  obtain ⟨b1, b2, b3, b4, b5⟩ := id qB
  refine CtW.mono (cw_3 (by decide) (c_X9_setSize hl9 hnse qA.1 b2 (CI_row q) qA.2.2.1 b3 qH.1 (Nat.le_trans b3 b2) (CI_kd q) b5 (CI_of q)) (fun N M' h => ?_) (fun v M' h => ?_)) (fun v M1 h => ?_)
  · rcases h.1 with ⟨-, h⟩ | ⟨-, -, h⟩
    · rw [h]; exact exO
    · rw [h]; exact exI
  · obtain ⟨-, -, f, -, -, hv, -⟩ := h; exact ⟨_, hv⟩
  · rcases h with ⟨w, ⟨-, -, f, hf, hx, hv1, hcoc⟩, hv⟩ | ⟨N, hN, h, hv⟩
    · left
      have hw := vI hv1
      have hp : 0 ≤ w.toInt := by
        rw [hw]
        have : ∀ a b c : Bool, 0 ≤ ((if a = true then nI 0 else nI 1) + (if b = true then nI 0 else nI 1) + (if c = true then nI 0 else nI 1)).toInt := by decide
        have h3 := this (decide (szX (pfM M f 0 x1) f (3 + 0) = szX M f (3 + 0))) (decide (szX (pfM (pfM M f 0 x1) f 1 x2) f (3 + 1) = szX (pfM M f 0 x1) f (3 + 1))) (decide (szX (pfM (pfM (pfM M f 0 x1) f 1 x2) f 2 x3) f (3 + 2) = szX (pfM (pfM M f 0 x1) f 1 x2) f (3 + 2)))
        simp only [decide_eq_true_eq] at h3
        exact h3
      have et : ∀ t, ¬ t = 26 → mI (pfM (pfM (pfM M f 0 x1) f 1 x2) f 2 x3) t = mI M t := fun t ht => by
        rw [mI_sI, if_neg ht, mI_sI, if_neg ht, mI_sI, if_neg ht]
      have e26 : ∀ j, mI (pfM (pfM (pfM M f 0 x1) f 1 x2) f 2 x3) 26 (j * 6 + 0) = mI M 26 (j * 6 + 0) := fun j => by
        rw [mI_sI, if_pos rfl, upd_at, if_neg (by omega), mI_sI, if_pos rfl, upd_at, if_neg (by omega), mI_sI, if_pos rfl, upd_at, if_neg (by omega)]
      have hsz : ∀ j, szX (pfM (pfM (pfM M f 0 x1) f 1 x2) f 2 x3) j 0 = szX M j 0 := fun j => by
        unfold szX
        rw [e26 j, et 23 (by decide)]
      have hm2 : (pfM (pfM (pfM M f 0 x1) f 1 x2) f 2 x3).2 = M.2 := rfl
      generalize pfM (pfM (pfM M f 0 x1) f 1 x2) f 2 x3 = Me at *
      have hO2 : sbN Me cnt fr = true := by
        rw [sb_i b2 (fun k hk => by rw [et 24 (by decide)]; exact CI_row q k hk) b5]
        exact (ord_c (fr := fr) (fr2 := fr) (kd := mI Me 25) (kd2 := mI M 25) (d := fun f => szX Me f 0) (d2 := fun f => szX M f 0) fun k hk => ⟨rfl, congrFun (et 25 (by decide)) _, hsz _⟩).mpr (CI_ord q)
      obtain ⟨r1, r2, r3⟩ := ci_change q (Me := Me) ⟨fun t ht => et t (by omega), hm2⟩ (fun f _ => by rw [et 25 (by decide)]) hcoc (IA_c (et 2 (by decide)) (et 24 (by decide)) qA) qB (CC_c (et 25 (by decide)) (et 27 (by decide)) qC) (CN_c (fun t ht => et t (by omega)) qN) hO2
      exact ⟨w, hv, hp, NX_of r1 r3⟩
    · right
      obtain ⟨h, h3⟩ := h
      subst h3
      rw [hv]; exact TH_of hN
/-- a feature taken out -/
theorem sp4 (hl9 : l.stackTraces = false) (hnse : NseR l E) (q : CI M g cnt bar fr pc mc) : lC l E 4 x0 x1 x2 x3 M (fun v M1 => (0 < cnt ∧ v = some (.int (nI (cnt - 1))) ∧ NX M M1 g (cnt - 1) pc mc) ∨ TH M v M1) := by
  obtain ⟨qA, qB, qC, qN, qH, qO, qP⟩ := id q
  obtain ⟨b1, b2, b3, b4, b5⟩ := id qB
  refine CtW.mono (cw_4 (by decide) (c_X9_remove hl9 hnse qA.1 b2 (CI_row q) qA.2.2.1 b3 qH.1 (Nat.le_trans b3 b2) (CI_kd q) b5 (CI_of q)) (fun N M' h => ?_) (fun v M' h => by obtain ⟨k, -, -, -, -, hv, -⟩ := h; exact ⟨_, hv⟩)) (fun v M1 h => ?_)
  · rcases h.1 with ⟨-, h⟩ | ⟨-, -, h⟩
    · rw [h]; exact exO
    · rw [h]; exact exU
  · rcases h with ⟨w, ⟨k, hk, h1, h2, hnb, hv1, hcoc⟩, hv⟩ | ⟨N, hN, h, hv⟩
    · left
      have hw := vI hv1
      have hsh : ∀ j, j < cnt - 1 → shN fr k (cnt - 1) j = fr (if k ≤ j then j + 1 else j) := fun j hj => by
        unfold shN
        rw [if_neg (by omega)]
        by_cases c : k ≤ j
        · rw [if_pos ⟨c, hj⟩, if_pos c]
        · rw [if_neg (fun z => c z.1), if_neg (by omega), if_neg c]
      have hIA : IA (tkM M k cnt bar) g (cnt - 1) (Nat.min bar (cnt - 1)) (shN fr k (cnt - 1)) := by
        refine ⟨rfl, ?_, rfl, fun j hj => ?_⟩
        · show upd (upd (mI M 2) 5 (nI (cnt - 1))) 7 (nI (Nat.min bar (cnt - 1))) 6 = _
          rw [upd_at, if_neg (by decide), upd_at, if_neg (by decide)]; exact qA.2.1
        · show shf (mI M 24) k (cnt - 1) j = _
          unfold shf
          rw [hsh j hj, if_neg (by omega)]
          by_cases c : k ≤ j
          · rw [if_pos ⟨c, hj⟩, if_pos c, (CI_row q (j + 1) (by omega)).1]
          · rw [if_neg (fun z => c z.1), if_neg (by omega), if_neg c, (CI_row q j (by omega)).1]
      have hij2 : ∀ i j, i < cnt - 1 → j < cnt - 1 → shN fr k (cnt - 1) i = shN fr k (cnt - 1) j → i = j := fun i j hi hj e => by
        rw [hsh i hi, hsh j hj] at e
        have := b5 _ _ (by split <;> omega) (by split <;> omega) e
        split at this <;> split at this <;> omega
      have hCB : CB g (cnt - 1) (Nat.min bar (cnt - 1)) (shN fr k (cnt - 1)) := ⟨b1, by omega, Nat.min_le_right _ _, fun j hj => by rw [hsh j hj]; exact b4 _ (by split <;> omega), hij2⟩
      have et : ∀ t, ¬ (t = 2 ∨ t = 24) → mI (tkM M k cnt bar) t = mI M t := fun t ht => by
        unfold tkM
        rw [mI_sI, if_neg (by omega), mI_sI, if_neg (by omega)]
      have hO2 : sbN (tkM M k cnt bar) (cnt - 1) (shN fr k (cnt - 1)) = true := by
        rw [sb_i (M := tkM M k cnt bar) (by omega) (fun j hj => ⟨hIA.2.2.2 j hj, Nat.lt_of_lt_of_le (hCB.2.2.2.1 j hj) b1⟩) hij2]
        intro j hj hkd i hi e
        have hkd : mI M 25 (shN fr k (cnt - 1) j) = nI 101 := hkd
        have e : nI (shN fr k (cnt - 1) i) = szX M (shN fr k (cnt - 1) j) 0 := e
        rw [hsh j hj] at hkd e
        rw [hsh i hi] at e
        have := CI_ord q _ (by split <;> omega) hkd _ (by split <;> omega) e
        split at this <;> split at this <;> omega
      obtain ⟨r1, r2, r3⟩ := ci_change q (Me := tkM M k cnt bar) (g2 := g) (cnt2 := cnt - 1) ⟨fun t ht => et t (by omega), rfl⟩ (fun f _ => by rw [et 25 (by decide)]) hcoc hIA hCB (CC_c (et 25 (by decide)) (et 27 (by decide)) qC) (CN_c (fun t ht => et t (by omega)) qN) hO2
      exact ⟨by omega, by rw [hv, hw], NX_of r1 r3⟩
    · right
      obtain ⟨h, h3⟩ := h
      subst h3
      rw [hv]; exact TH_of hN
/-- a row's place found -/
theorem fp_at {row : Nat → Int32} {p : Nat} {x : Int32} (hrow : ∀ k, k < cnt → row k = nI (fr k) ∧ fr k < 40) (hij : ∀ i j, i < cnt → j < cnt → fr i = fr j → i = j) (hp : p < cnt) (h : row p = x) : fpX cnt row x = nI p := by
  refine fpX_t hp (fun j hj e => ?_) h
  rw [(hrow j (by omega)).1, ← h, (hrow p hp).1] at e
  have h1 := (hrow j (by omega)).2
  have h2 := (hrow p hp).2
  have := hij j p (by omega) hp ((nI_eq (by omega) (by omega)).mp e)
  omega
/-- a feature moved -/
theorem sp5 (hl9 : l.stackTraces = false) (hnse : NseR l E) (q : CI M g cnt bar fr pc mc) : lC l E 5 x0 x1 x2 x3 M (fun v M1 => (∃ k, k < 12 ∧ v = some (.int (nI k)) ∧ NX M M1 g cnt pc mc ∧ fpX cnt (mI M1 24) x0 = x1 ∧ ∃ p, p < cnt ∧ x1 = nI p) ∨ TH M v M1) := by
  obtain ⟨qA, qB, qC, qN, qH, qO, qP⟩ := id q
  obtain ⟨b1, b2, b3, b4, b5⟩ := id qB
  refine CtW.mono (cw_5 (by decide) (c_X9_move hl9 hnse qA.1 b2 (CI_row q) qA.2.2.1 b3 qH.1 (Nat.le_trans b3 b2) (CI_kd q) b5 (CI_of q)) (fun N M' h => ?_) (fun v M' h => by obtain ⟨k, p, -, -, -, -, -, -, hv, -⟩ := h; exact ⟨_, hv⟩)) (fun v M1 h => ?_)
  · rcases h.1 with ⟨-, h⟩ | ⟨-, -, h⟩ | ⟨k, p, -, -, -, -, -, -, h⟩
    · rw [h]; exact exO
    · rw [h]; exact exB
    · rw [h]; exact exU
  · rcases h with ⟨w, ⟨k, p, hk, h1, h2, hp, hy, hsb, hv1, hcoc⟩, hv⟩ | ⟨N, hN, h, hv⟩
    · left
      have hw := vI hv1
      have et : ∀ t, ¬ t = 24 → mI (sI M 24 (shf (mI M 24) k p)) t = mI M t := fun t ht => by rw [mI_sI, if_neg ht]
      have hrow2 := row_sh hk hp (CI_row q)
      have hij2 := in_sh hk hp b5
      have hfr2 : ∀ j, j < cnt → shN fr k p j < g := fun j hj => by rw [shN_was]; exact b4 _ (was_lt hk hp hj)
      obtain ⟨r1, r2, r3⟩ := ci_change q (Me := sI M 24 (shf (mI M 24) k p)) (g2 := g) (cnt2 := cnt) (bar2 := bar) (fr2 := shN fr k p) ⟨fun t ht => et t (by omega), rfl⟩ (fun f _ => by rw [et 25 (by decide)]) hcoc ⟨by rw [et 2 (by decide)]; exact qA.1, by rw [et 2 (by decide)]; exact qA.2.1, by rw [et 2 (by decide)]; exact qA.2.2.1, fun j hj => by rw [mI_sI, if_pos rfl]; exact (hrow2 j hj).1⟩ ⟨b1, b2, b3, hfr2, hij2⟩ (CC_c (et 25 (by decide)) (et 27 (by decide)) qC) (CN_c (fun t ht => et t (by omega)) qN) hsb
      refine ⟨k, by omega, by rw [hv, hw], NX_of r1 r3, ?_, p, hp, hy⟩
      rw [r2 24 (by omega), mI_sI, if_pos rfl, hy]
      refine fp_at hrow2 hij2 hp ?_
      unfold shf
      rw [if_pos rfl]; exact h2
    · right
      obtain ⟨h, h3⟩ := h
      subst h3
      rw [hv]; exact TH_of hN
/-- a feature put off or on -/
theorem sp6 (hl9 : l.stackTraces = false) (hnse : NseR l E) (q : CI M g cnt bar fr pc mc) : lC l E 6 x0 x1 x2 x3 M (fun v M1 => (∃ w : Int32, v = some (.int w) ∧ 0 ≤ w.toInt ∧ NX M M1 g cnt pc mc ∧ ¬ fpX cnt (mI M1 24) x0 < 0 ∧ ∃ f, f < 40 ∧ x0 = nI f ∧ mI M1 27 f = bI (decide (x1 = nI 1))) ∨ TH M v M1) := by
  obtain ⟨qA, qB, qC, qN, qH, qO, qP⟩ := id q
  obtain ⟨b1, b2, b3, b4, b5⟩ := id qB
  refine CtW.mono (cw_6 (by decide) (c_X9_putOff hl9 hnse qA.1 b2 (CI_row q) qA.2.2.1 b3 qH.1 (Nat.le_trans b3 b2) (CI_kd q) b5 (CI_of q)) (fun N M' h => by rw [h.2.1]; exact exO) (fun v M' h => by obtain ⟨-, f, -, -, hv, -⟩ := h; exact ⟨_, hv⟩)) (fun v M1 h => ?_)
  generalize hb9 : decide (x1 = nI 1) = b at *
  rcases h with ⟨w, ⟨h1, f, hf, hx, hv1, hcoc⟩, hv⟩ | ⟨N, hN, h, hv⟩
  · left
    have et : ∀ t, ¬ t = 27 → mI (sI M 27 (upd (mI M 27) f (bI b))) t = mI M t := fun t ht => by rw [mI_sI, if_neg ht]
    obtain ⟨r1, r2, r3⟩ := ci_change q (Me := sI M 27 (upd (mI M 27) f (bI b))) ⟨fun t ht => et t (by omega), rfl⟩ (fun f _ => by rw [et 25 (by decide)]) hcoc (IA_c (et 2 (by decide)) (et 24 (by decide)) qA) qB ⟨by rw [et 25 (by decide)]; exact qC.1, fun j hj => by
        rw [mI_sI, if_pos rfl, upd_at]
        by_cases c : j = f
        · rw [if_pos c]
          cases b
          · exact Or.inl rfl
          · exact Or.inr rfl
        · rw [if_neg c]; exact qC.2 j hj⟩ (CN_c (fun t ht => et t (by omega)) qN) ((sb_c (fun t ht => et t (by omega))).trans qO)
    refine ⟨_, hv, ?_, NX_of r1 r3, by rw [r2 24 (by omega), et 24 (by decide)]; exact h1, f, hf, hx, ?_⟩
    · split <;> decide
    · rw [r2 27 (by omega), mI_sI, if_pos rfl, upd_at, if_pos rfl]
  · right
    obtain ⟨-, -, h3⟩ := h
    subst h3
    rw [hv]; exact TH_of hN
/-- the bar set -/
theorem sp7 (hl9 : l.stackTraces = false) (q : CI M g cnt bar fr pc mc) : lC l E 7 x0 x1 x2 x3 M (fun v M1 => (v = some (.int (nI bar)) ∧ bar ≤ 12 ∧ NX M M1 g cnt pc mc) ∨ TH M v M1) := by
  obtain ⟨qA, qB, qC, qN, qH, qO, qP⟩ := id q
  obtain ⟨b1, b2, b3, b4, b5⟩ := id qB
  refine CtW.mono (cw_7 (by decide) (c_X9_setBar hl9 qA.1 b2 (CI_row q) qA.2.2.1 b3 qH.1 (Nat.le_trans b3 b2) (CI_kd q) b5 (CI_of q)) (fun N M' h => by rw [h.2.1]; exact exB) (fun v M' h => by obtain ⟨p, -, -, hv, -⟩ := h; exact ⟨_, hv⟩)) (fun v M1 h => ?_)
  rcases h with ⟨w, ⟨p, hp, hx, hv1, hcoc⟩, hv⟩ | ⟨N, hN, h, hv⟩
  · left
    have hw := vI hv1
    have et : ∀ t, ¬ t = 2 → mI (sI M 2 (upd (mI M 2) 7 (nI p))) t = mI M t := fun t ht => by rw [mI_sI, if_neg ht]
    obtain ⟨r1, r2, r3⟩ := ci_change q (Me := sI M 2 (upd (mI M 2) 7 (nI p))) (g2 := g) (cnt2 := cnt) (bar2 := p) (fr2 := fr) ⟨fun t ht => et t (by omega), rfl⟩ (fun f _ => by rw [et 25 (by decide)]) hcoc ⟨by rw [mI_sI, if_pos rfl, upd_at, if_neg (by decide)]; exact qA.1, by rw [mI_sI, if_pos rfl, upd_at, if_neg (by decide)]; exact qA.2.1, by rw [mI_sI, if_pos rfl, upd_at, if_pos rfl], by rw [et 24 (by decide)]; exact qA.2.2.2⟩ ⟨b1, b2, hp, b4, b5⟩ (CC_c (et 25 (by decide)) (et 27 (by decide)) qC) (CN_c (fun t ht => et t (by omega)) qN) ((sb_c (fun t ht => et t (by omega))).trans qO)
    exact ⟨by rw [hv, hw], by omega, NX_of r1 r3⟩
  · right
    obtain ⟨-, -, h3⟩ := h
    subst h3
    rw [hv]; exact TH_of hN
/-- changes of parts alone -/
theorem CI_pt {M' : Mm} {pc2 mc2 : Nat} (h : ∀ t, ¬ (t = 5 ∨ (34 ≤ t ∧ t ≤ 38)) → mI M' t = mI M t) (h2 : M'.2 = M.2) (q : CI M g cnt bar fr pc mc) (hp : CP M' pc2 mc2) : CI M' g cnt bar fr pc2 mc2 := by
  obtain ⟨qA, qB, qC, qN, qH, qO, qP⟩ := id q
  exact ⟨IA_c (h 2 (by omega)) (h 24 (by omega)) qA, qB, CC_c (h 25 (by omega)) (h 27 (by omega)) qC, CN_c (fun t ht => h t (by omega)) qN, CH_c (by rw [h 1 (by omega)]) (fun t ht => h t (by omega)) (fun c _ => by show M'.2.1 c = M.2.1 c; rw [h2]) (fun c _ => by show M'.2.2.1 c = M.2.2.1 c; rw [h2]) qH, (sb_c (fun t ht => h t (by omega))).trans qO, hp⟩
theorem NX_pt {M' : Mm} {pc2 mc2 : Nat} (h : CI M' g cnt bar fr pc2 mc2) (h2 : M'.2 = M.2) : NX M M' g cnt pc2 mc2 := NX_of h ⟨0, by decide, by show M'.2.2.2.1 0 = M.2.2.2.1 0 + 0; rw [h2]; exact (Int64.add_zero _).symm⟩
/-- a part added -/
theorem sp14 (hl9 : l.stackTraces = false) (q : CI M g cnt bar fr pc mc) : lC l E 14 x0 x1 x2 x3 M (fun v M1 => (v = some (.int (nI pc)) ∧ pc < 6 ∧ NX M M1 g cnt (pc + 1) mc) ∨ TH M v M1) := by
  obtain ⟨qA, qB, qC, qN, qH, qO, qP⟩ := id q
  refine CtW.mono (cw_14 (by decide) (c_X9_addPart hl9 qP.1.1 qP.1.2) (fun N M' h => ?_) (fun v M' h => ⟨_, h.2.2.1⟩)) (fun v M1 h => ?_)
  · rcases h.1 with ⟨-, h⟩ | ⟨-, -, h⟩
    · rw [h]; exact exI
    · rw [h]; exact exS
  · rcases h with ⟨w, ⟨h1, h2, hv1, hM1⟩, hv⟩ | ⟨N, hN, h, hv⟩
    · left
      have hw := vI hv1
      subst hM1
      exact ⟨by rw [hv, hw], h2, NX_pt (CI_pt (M := M) (fun t ht => by rw [mI_sI, if_neg (by omega), mI_sI, if_neg (by omega)]) rfl q (CP_add qP h2)) rfl⟩
    · right
      obtain ⟨-, h3⟩ := h
      subst h3
      rw [hv]; exact TH_of hN
/-- a mate added -/
theorem sp16 (hl9 : l.stackTraces = false) (q : CI M g cnt bar fr pc mc) : lC l E 16 x0 x1 x2 x3 M (fun v M1 => (∃ k, k ≤ 6 ∧ v = some (.int (nI k)) ∧ mc < 12 ∧ NX M M1 g cnt pc (mc + 1) ∧ ∃ a p, a < 3 ∧ p < pc ∧ x0 = nI a ∧ x1 = nI p ∧ (x2 = -1 ∨ ∃ r, r < pc ∧ x2 = nI r) ∧ apX (mI M1 34) a (nI p) x2 = x3) ∨ TH M v M1) := by
  obtain ⟨qA, qB, qC, qN, qH, qO, qP⟩ := id q
  refine CtW.mono (cw_16 (by decide) (c_X9_mate hl9 qP.1.1 qP.1.2 qP.2.1.1 qP.2.1.2) (fun N M' h => ?_) (fun v M' h => ⟨_, h.2.2.2.2.1⟩)) (fun v M1 h => ?_)
  · rcases h.1 with ⟨-, h⟩ | ⟨-, -, h⟩ | ⟨-, -, -, h⟩ | ⟨-, -, -, -, h⟩
    · rw [h]; exact exB
    · rw [h]; exact exI
    · rw [h]; exact exU
    · rw [h]; exact exS
  · rcases h with ⟨w, ⟨h1, h2, h3, hmc, hv1, hM1⟩, hv⟩ | ⟨N, hN, h, hv⟩
    · left
      have hw := vI hv1
      obtain ⟨p, hp, hxp⟩ := prX_n qP.1.2 h1.1
      obtain ⟨a, ha, hxa⟩ := ax_n h2.1
      subst hxp hxa
      have hy : x2 = -1 ∨ ∃ r, r < pc ∧ x2 = nI r := h1.2.elim (fun z => Or.inr (prX_n qP.1.2 z)) Or.inl
      rw [ntX_nI (show a < 2 ^ 31 by omega)] at hM1 hw
      obtain ⟨c1, c2⟩ := CP_mate (d := x3) qP hmc ha hp hy h3
      have hsl : ∀ G k, slN G k ≤ k := fun G k => by
        induction k with
        | zero => exact Nat.le_refl _
        | succ k ih => rw [slN_s]; split <;> omega
      subst hM1
      refine ⟨_, ?_, by rw [hv, hw], hmc, NX_pt (CI_pt (M := M) (fun t ht => ?_) rfl q c1) rfl, a, p, ha, hp, rfl, rfl, hy, c2⟩
      · have := hsl (tieG M mc a (nI p) x2 (tdX M mc (nI a) (nI p) (-1))) pc
        have := qP.1.2
        split <;> omega
      · unfold tieM
        rw [mI_sI, if_neg (by omega), mI_sI, if_neg (by omega), mI_sI, if_neg (by omega), mI_sI, if_neg (by omega), mI_sI, if_neg (by omega), mI_sI, if_neg (by omega)]
    · right
      obtain ⟨-, h3⟩ := h
      subst h3
      rw [hv]; exact TH_of hN
/-- a part dragged -/
theorem sp17 (hl9 : l.stackTraces = false) (q : CI M g cnt bar fr pc mc) : lC l E 17 x0 x1 x2 x3 M (fun v M1 => (∃ k, k ≤ 6 ∧ v = some (.int (nI k)) ∧ NX M M1 g cnt pc mc) ∨ TH M v M1) := by
  obtain ⟨qA, qB, qC, qN, qH, qO, qP⟩ := id q
  refine CtW.mono (cw_17 (by decide) (c_X9_drag hl9 qP.1.1 qP.1.2 qP.2.1.1 qP.2.1.2) (fun N M' h => ?_) (fun v M' h => ⟨_, h.2.2.2.1⟩)) (fun v M1 h => ?_)
  · rcases h.1 with ⟨-, h⟩ | ⟨-, -, h⟩ | ⟨-, -, -, h⟩
    · rw [h]; exact exB
    · rw [h]; exact exI
    · rw [h]; exact exU
  · rcases h with ⟨w, ⟨h1, h2, h3, hv1, hM1⟩, hv⟩ | ⟨N, hN, h, hv⟩
    · left
      have hw := vI hv1
      obtain ⟨p, hp, hxp⟩ := prX_n qP.1.2 h1
      obtain ⟨a, ha, hxa⟩ := ax_n h2.1
      subst hxp hxa
      rw [ntX_nI (show a < 2 ^ 31 by omega)] at hM1
      have c1 := CP_drag (w := x2) qP hp h3
      have hsl : ∀ G k, slN G k ≤ k := fun G k => by
        induction k with
        | zero => exact Nat.le_refl _
        | succ k ih => rw [slN_s]; split <;> omega
      subst hM1
      refine ⟨_, ?_, by rw [hv, hw], NX_pt (CI_pt (M := M) (fun t ht => by rw [mI_sI, if_neg (by omega)]) rfl q c1) rfl⟩
      have := hsl (grp M mc (nI a) (nI p)) pc
      have := qP.1.2
      split <;> omega
    · right
      obtain ⟨-, h3⟩ := h
      subst h3
      rw [hv]; exact TH_of hN
end SP
