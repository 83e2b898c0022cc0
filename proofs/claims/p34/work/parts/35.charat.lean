/-! String.charAt on the law's row of kinds -/
abbrev kxB : List Int32 := [98, 99, 105, 109, 112, 104, 101, 120]
/-- the constant text at sa, its bytes at va -/
def Kx (E : Ev) (sa va : Nat) (U : State) : Prop := vk_S 1 [8] [kxB] (fun _ => sa) (fun _ => va) (eF E) U U.heap
def QX (E : Ev) (sa va : Nat) (Qf : List Frame → Array Value → State → State → Prop) : List Frame → Array Value → State → State → Prop := fun below args s t => Kx E sa va s → Qf below args s t
section KX
variable {l : Launch} {E : Ev} {sa va : Nat} {own : String} {cc : ByteArray} {nL : Nat} {rt : Option FieldType} {tb : List ExceptionTableEntry} {R : Room} {Qf : List Frame → Array Value → State → State → Prop} {k n : Nat} {pc : Nat} {ls : List (Option Value)} {st : List Value} {M : Mm}
theorem j_X (h : ∀ (p : Program) (e : Env) (s : State) (m : MethodId) (args : Array Value) (below : List Frame) (meth : Method) (c : Code), Cx l E own cc nL rt tb p s m args meth c → Kx E sa va s → ∀ (H : Heap) (locs : List Loc) (lsr : Array Slot), va_P (eG E) vwCl (wd E M) H → va_S (eF E) s.heap H locs → lv_has lsr nL (lp 0 ls) → W p l e R s m args below meth c H locs k n (QX E sa va Qf below args s) (F0 m pc lsr st)) : Jd l E own cc nL rt tb R (QX E sa va Qf) k n pc ls st M := by
  intro p e s m args below meth c C H locs lsr hP hS hl
  by_cases hq : Kx E sa va s
  · exact h p e s m args below meth c C hq H locs lsr hP hS hl
  · intro T hT X
    exact ⟨_, Steps.refl _, fun z => absurd z hq⟩
theorem j_Xw (kk : Jd l E own cc nL rt tb R Qf k n pc ls st M) : Jd l E own cc nL rt tb R (QX E sa va Qf) k n pc ls st M := by
  intro p e s m args below meth c C H locs lsr hP hS hl T hT X
  obtain ⟨t, a1, b1⟩ := kk p e s m args below meth c C H locs lsr hP hS hl T hT X
  exact ⟨t, a1, fun _ => b1⟩
theorem j_Xcoder {ix : Nat} (hw : Cond.fieldLink own ix "java/lang/String" "coder" "B" ∈ wsG) (d : decode cc pc = .ok (.getfield ix, 3)) (kk : Jd l E own cc nL rt tb R (QX E sa va Qf) k n (pc + 3) ls (.int 0 :: st) M) : Jd l E own cc nL rt tb R (QX E sa va Qf) k n pc ls (.ref sa :: st) M := j_X fun p e s m args below meth c C hq H locs lsr hP hS hl => by
  obtain ⟨hx, hb, hr, hml, hown, hts, hlk, hK, hB, hE, hX, htb⟩ := id C
  exact vk_getf hx hb (hq.1 0 (by decide)).2.1 hS hown (hts _ hw) (fun _ h => h) d (kk p e s m args below meth c C H locs lsr hP hS hl)
theorem j_Xvalue {ix : Nat} (hw : Cond.fieldLink own ix "java/lang/String" "value" "[B" ∈ wsG) (d : decode cc pc = .ok (.getfield ix, 3)) (kk : Jd l E own cc nL rt tb R (QX E sa va Qf) k n (pc + 3) ls (.ref va :: st) M) : Jd l E own cc nL rt tb R (QX E sa va Qf) k n pc ls (.ref sa :: st) M := j_X fun p e s m args below meth c C hq H locs lsr hP hS hl => by
  obtain ⟨hx, hb, hr, hml, hown, hts, hlk, hK, hB, hE, hX, htb⟩ := id C
  exact vk_getf hx hb (hq.1 0 (by decide)).2.2.1 hS hown (hts _ hw) (fun _ h => h) d (kk p e s m args below meth c C H locs lsr hP hS hl)
theorem j_Xlen (d : decode cc pc = .ok (.arraylength, 1)) (kk : Jd l E own cc nL rt tb R (QX E sa va Qf) k n (pc + 1) ls (.int (nI 8) :: st) M) : Jd l E own cc nL rt tb R (QX E sa va Qf) k n pc ls (.ref va :: st) M := j_X fun p e s m args below meth c C hq H locs lsr hP hS hl => by
  obtain ⟨hx, hb, hr, hml, hown, hts, hlk, hK, hB, hE, hX, htb⟩ := id C
  exact va_tlen hx hb (hq.1 0 (by decide)).2.2.2 hS (v := nI 8) rfl d (kk p e s m args below meth c C H locs lsr hP hS hl)
theorem j_Xld {i : Nat} (hi : i < 8) (d : decode cc pc = .ok (.baload, 1)) (kk : Jd l E own cc nL rt tb R (QX E sa va Qf) k n (pc + 1) ls (.int (kxB.getD i 0) :: st) M) : Jd l E own cc nL rt tb R (QX E sa va Qf) k n pc ls (.int (nI i) :: .ref va :: st) M := j_X fun p e s m args below meth c C hq H locs lsr hP hS hl => by
  obtain ⟨hx, hb, hr, hml, hown, hts, hlk, hK, hB, hE, hX, htb⟩ := id C
  have hin : vp_in (nI i) ([8].getD 0 0) := by
    intro z
    rcases z with z | z
    · exact nI_pos (by omega) z
    · rw [nI_clamp (by omega)] at z
      have : i < 8 := hi
      have z : 8 ≤ i := z
      omega
  exact va_tb hx hb (hq.1 0 (by decide)).2.2.2 hS hin (v := .int (kxB.getD i 0)) (by rw [nI_clamp (by omega)]; rfl) d (kk p e s m args below meth c C H locs lsr hP hS hl)
end KX
/-- a method of the text's own, from the constant -/
def CtY (l : Launch) (E : Ev) (sa va : Nat) (y : MethodName) (cc : ByteArray) (nL : Nat) (ret : Option FieldType) (lv : Nat) (As : List Value) (M : Mm) (post : Option Value → Mm → Prop) : Prop :=
  Met l y (wsM y cc nL ret) (rmm lv 0 0) (va_Pc As (fun U => Wd E M U ∧ Kx E sa va U)) (QN E post) 0 0 (eF E)
theorem CtY.of {l : Launch} {E : Ev} {sa va : Nat} {y : MethodName} {cc : ByteArray} {nL : Nat} {ret : Option FieldType} {lv : Nat} {As : List Value} {M : Mm} {post : Option Value → Mm → Prop} {own : String} (ho : y.cls = own) (ls : List (Option Value)) (hy : plainName own = true) (h1 : (lg_sl As).length ≤ nL) (h2 : lp 0 ls = lv_args 0 As)
    (body : Jd l E own cc nL ret [] (rmm lv 0 0) (QX E sa va (QfN E post 0 0)) 0 0 0 ls [] M) : CtY l E sa va y cc nL ret lv As M post := by
  subst ho
  refine Met.ofW (cc := cc) (maxL := nL) (ret := ret) hy rfl ?_
  intro p e s m args below meth c s₁ B hml hv
  obtain ⟨rfl, hW, hq⟩ := hv
  obtain ⟨lsr, e1, hl⟩ := ent_has (m := m) h1 h2
  rw [e1]
  intro T hT X
  obtain ⟨t, a1, b1⟩ := body p e s m _ below meth c (Cx.of B hml hW) s.heap [] lsr hW.1 va_S.rf hl T hT X
  exact ⟨t, a1, b1 hq⟩
theorem kx_blind {E : Ev} {M : Mm} {sa va : Nat} {As : List Value} : FrameBlind (va_Pc As (fun U => Wd E M U ∧ Kx E sa va U)) := by
  intro a U g mk h
  have h2 := wd_blind (E := E) (M := M) (As := As) a U g mk ⟨h.1, h.2.1⟩
  exact ⟨h2.1, h2.2, vk_S.moved (u := U) (U := U.calling g mk a) (Vm.Alike.refl U.vm) h.2.2⟩
theorem kx_go {E : Ev} {sa va : Nat} {s U : State} {H : Heap} {locs : List Loc} (hq : Kx E sa va s) (hS : va_S (eF E) s.heap H locs) (hU : U.heap = H) (hW : s.WarmedH U.vm) : Kx E sa va U := by
  unfold Kx
  rw [hU]
  exact vk_S.moved hW.alike (vk_S.kept hq hS.2.1)
section KXC
variable {l : Launch} {E : Ev} {sa va : Nat} {own : String} {cc : ByteArray} {nL : Nat} {rt : Option FieldType} {tb : List ExceptionTableEntry} {Qf : List Frame → Array Value → State → State → Prop} {k n : Nat} {pc : Nat} {ls : List (Option Value)} {st : List Value} {M : Mm}
variable {y : MethodName} {cy : ByteArray} {nY a ix lv' : Nat} {ret : Option FieldType} {As rest : List Value} {post' : Option Value → Mm → Prop}
theorem j_callVY {lv mc0 ms0 : Nat} (mf : MfV y cy nY ret a) (hcl : y.cls = "java/lang/String") (hw : Cond.methodLink own ix y ∈ wsG) (hlv : lv' + 1 ≤ lv) (hy : nY ≤ 30) (hC : CtY l E sa va y cy nY ret lv' (.ref sa :: As) M post') (ha : As.length = a) (hst : st = As.reverse ++ .ref sa :: rest) (hr8 : (rest.map fun v => v.category).sum ≤ 8) (d : decode cc pc = .ok (.invokevirtual ix, 3)) (hf : k + 0 ≤ mc0 ∧ n + 0 ≤ ms0)
    (kk : ∀ v M', post' v M' → Jd l E own cc nL rt tb (rmm lv mc0 ms0) (QX E sa va Qf) (k + 0) (n + 0) (pc + 3) ls (v.toList ++ rest) M') : Jd l E own cc nL rt tb (rmm lv mc0 ms0) (QX E sa va Qf) k n pc ls st M := by
  refine j_X fun p e s m args below meth c C hq H locs lsr hP hS hl => ?_
  obtain ⟨hx, hb, hr, hml, hown, hts, hlk, hK, hB, hE, hX, htb⟩ := id C
  subst hst
  exact run_go (va_runV (As := As) (rest := rest) ⟨hx, hb, hml, hown, hts⟩ hC (cwV_of hts mf hw (rm_fit (mc := mc0) (ms := ms0) (mc' := 0) (ms' := 0) hlv hy)) ⟨kx_blind, by rw [hcl]; exact vk_recv hq (i := 0) (by decide) hS, fun U hU hW => ⟨rfl, pre_go C hP hS U hU hW, kx_go hq hS hU hW⟩⟩ rfl ha hl.1 rfl (lv_room hr8) d hf) hS
    (fun v M' H1 locs1 hp hP1 hS1 => kk v M' hp p e s m args below meth c C H1 locs1 lsr hP1 hS1 hl)
theorem j_callSY {lv mc0 ms0 : Nat} (mf : MfS y cy nY ret a) (hw : Cond.methodLink own ix y ∈ wsG) (hlv : lv' + 1 ≤ lv) (hy : nY ≤ 30) (hC : CtY l E sa va y cy nY ret lv' As M post') (ha : As.length = a) (hst : st = As.reverse ++ rest) (hr8 : (rest.map fun v => v.category).sum ≤ 8) (d : decode cc pc = .ok (.invokestatic ix, 3)) (hf : k + 0 ≤ mc0 ∧ n + 0 ≤ ms0)
    (kk : ∀ v M', post' v M' → Jd l E own cc nL rt tb (rmm lv mc0 ms0) (QX E sa va Qf) (k + 0) (n + 0) (pc + 3) ls (v.toList ++ rest) M') : Jd l E own cc nL rt tb (rmm lv mc0 ms0) (QX E sa va Qf) k n pc ls st M := by
  refine j_X fun p e s m args below meth c C hq H locs lsr hP hS hl => ?_
  obtain ⟨hx, hb, hr, hml, hown, hts, hlk, hK, hB, hE, hX, htb⟩ := id C
  subst hst
  exact run_go (va_runS (As := As) (rest := rest) ⟨hx, hb, hml, hown, hts⟩ hC (cwS_of hts mf hw (rm_fit (mc := mc0) (ms := ms0) (mc' := 0) (ms' := 0) hlv hy)) ⟨kx_blind, fun U hU hW => ⟨rfl, pre_go C hP hS U hU hW, kx_go hq hS hU hW⟩⟩ rfl ha hl.1 rfl (lv_room hr8) d hf) hS
    (fun v M' H1 locs1 hp hP1 hS1 => kk v M' hp p e s m args below meth c C H1 locs1 lsr hP1 hS1 hl)
end KXC
/-! the words -/
theorem mx_ca : MfV yJ0_charAt_5068e cJ0_charAt_5068e 2 (some .char) 1 := ⟨⟨by decide +kernel, by decide +kernel, by decide +kernel⟩, (wg5 (i := 64) rfl rfl), (wg5 (i := 65) rfl rfl), (wg1 (i := 14) rfl rfl), (wg5 (i := 66) rfl rfl)⟩
theorem mx_c1 : MfS yJ1_charAt_3b067 cJ1_charAt_3b067 2 (some .char) 2 := ⟨⟨by decide +kernel, by decide +kernel, by decide +kernel⟩, (wg5 (i := 68) rfl rfl), (wg1 (i := 21) rfl rfl), (wg5 (i := 69) rfl rfl)⟩
theorem mx_ci : MfS yJ0_checkIndex_df160 cJ0_checkIndex_df160 2 none 2 := ⟨⟨by decide +kernel, by decide +kernel, by decide +kernel⟩, (wg5 (i := 71) rfl rfl), (wg1 (i := 14) rfl rfl), (wg5 (i := 72) rfl rfl)⟩
theorem mx_pc : MfS yJ3_checkIndex_8e157 cJ3_checkIndex_8e157 3 (some .int) 3 := ⟨⟨by decide +kernel, by decide +kernel, by decide +kernel⟩, (wg5 (i := 74) rfl rfl), (wg1 (i := 23) rfl rfl), (wg5 (i := 75) rfl rfl)⟩
theorem mx_495 : Cond.methodLink RJ0 495 yJ1_charAt_3b067 ∈ wsG := (wg5 (i := 67) rfl rfl)
theorem mx_9 : Cond.methodLink RJ1 9 yJ0_checkIndex_df160 ∈ wsG := (wg5 (i := 70) rfl rfl)
theorem mx_1059 : Cond.methodLink RJ0 1059 yJ3_checkIndex_8e157 ∈ wsG := (wg5 (i := 73) rfl rfl)
theorem fx_1053 : Cond.fieldLink RJ0 1053 "jdk/internal/util/Preconditions" "SIOOBE_FORMATTER" "Ljava/util/function/BiFunction;" ∈ wsG := (wg3 (i := 194) rfl rfl)
theorem mx_law : Cond.methodLink RL 148 yJ0_charAt_5068e ∈ wsG := (wg5 (i := 63) rfl rfl)
/-! the walks -/
theorem j_gsSF {l : Launch} {E : Ev} {own : String} {cc : ByteArray} {nL : Nat} {rt : Option FieldType} {tb : List ExceptionTableEntry} {R : Room} {Qf : List Frame → Array Value → State → State → Prop} {k n : Nat} {pc : Nat} {ls : List (Option Value)} {st : List Value} {M : Mm} {ix : Nat} (hw : Cond.fieldLink own ix "jdk/internal/util/Preconditions" "SIOOBE_FORMATTER" "Ljava/util/function/BiFunction;" ∈ wsG) (d : decode cc pc = .ok (.getstatic ix, 3)) (kk : ∀ v : Value, (v = .null ∨ ∃ t : Nat, v = .ref t) → Jd l E own cc nL rt tb R Qf k n (pc + 3) ls (v :: st) M) : Jd l E own cc nL rt tb R Qf k n pc ls st M := fun p e s m args below meth c C H locs lsr hP hS hl => by
  obtain ⟨hx, hb, hr, hml, hown, hts, hlk, hK, hB, hE, hX, htb⟩ := id C
  rcases hX.2.2.2.2.2.2.2.1 with h | ⟨t, h⟩
  · exact va_gets hx hb h hS hown (hts _ hw) (fun _ h => h) d (kk .null (Or.inl rfl) p e s m args below meth c C H locs lsr hP hS hl)
  · exact va_gets hx hb h hS hown (hts _ hw) (fun _ h => h) d (kk (.ref t) (Or.inr ⟨t, rfl⟩) p e s m args below meth c C H locs lsr hP hS hl)
set_option maxRecDepth 100000 in
theorem cy_pc {l : Launch} {E : Ev} {M : Mm} {i n : Nat} {v : Value} (hv : v = .null ∨ ∃ t : Nat, v = .ref t) (hi : i < n) (hn : n < 2 ^ 31) : Ct l E yJ3_checkIndex_8e157 cJ3_checkIndex_8e157 3 (some .int) 1 0 0 [.int (nI i), .int (nI n), v] M (dv (.int (nI i)) M) := by
  have hl : lp 0 [some (.int (nI i)), some (.int (nI n)), some v] = lv_args 0 [.int (nI i), .int (nI n), v] := by rcases hv with rfl | ⟨t, rfl⟩ <;> rfl
  have hs : (lg_sl [.int (nI i), .int (nI n), v]).length ≤ 3 := by rcases hv with rfl | ⟨t, rfl⟩ <;> exact (Nat.le_of_ble_eq_true rfl)
  refine Ct.of (own := RJ3) rfl [some (.int (nI i)), some (.int (nI n)), some v] (by decide) hs hl ?_
  refine j_iln dJ3_checkIndex_8e157_0 rfl rfl ?_
  refine j_ifltN (tgt := 9) dJ3_checkIndex_8e157_1 (by decide) (by omega) ?_
  refine j_iln dJ3_checkIndex_8e157_4 rfl rfl ?_
  refine j_iln dJ3_checkIndex_8e157_5 rfl rfl ?_
  refine j_icltN (tgt := 16) dJ3_checkIndex_8e157_6 (by decide) (by omega) hn (fun _ => ?_) (fun h => absurd hi h)
  refine j_iln dJ3_checkIndex_8e157_16 rfl rfl ?_
  exact j_iret dJ3_checkIndex_8e157_17 rfl rfl (Nat.le_of_ble_eq_true rfl) (Nat.le_of_ble_eq_true rfl) ⟨rfl, rfl⟩
set_option maxRecDepth 100000 in
theorem cy_ci {l : Launch} {E : Ev} {M : Mm} {i n : Nat} (hi : i < n) (hn : n < 2 ^ 31) : Ct l E yJ0_checkIndex_df160 cJ0_checkIndex_df160 2 none 2 0 0 [.int (nI i), .int (nI n)] M (dn M) := by
  refine Ct.of (own := RJ0) rfl [some (.int (nI i)), some (.int (nI n))] (by decide) (Nat.le_of_ble_eq_true rfl) rfl ?_
  refine j_iln dJ0_checkIndex_df160_0 rfl rfl ?_
  refine j_iln dJ0_checkIndex_df160_1 rfl rfl ?_
  refine j_gsSF fx_1053 dJ0_checkIndex_df160_2 (fun v hv => ?_)
  refine j_S3d (rest := []) mx_pc mx_1059 dJ0_checkIndex_df160_5 (Nat.le_of_ble_eq_true rfl) (Nat.le_of_ble_eq_true rfl) (Nat.le_of_ble_eq_true rfl) ⟨Nat.le_of_ble_eq_true rfl, Nat.le_of_ble_eq_true rfl⟩ (cy_pc hv hi hn) ?_
  refine j_pop dJ0_checkIndex_df160_8 rfl ?_
  exact j_vret dJ0_checkIndex_df160_9 rfl (Nat.le_of_ble_eq_true rfl) (Nat.le_of_ble_eq_true rfl) ⟨rfl, rfl⟩
theorem kx_8 : ∀ i, i < 8 → ((kxB.getD i 0 &&& nI 255).toUInt32 % 65536).toInt32 = kxB.getD i 0 ∧ narrow .char (.int (kxB.getD i 0)) = .int (kxB.getD i 0) := by decide +kernel
set_option maxRecDepth 100000 in
theorem cy_c1 {l : Launch} {E : Ev} {sa va : Nat} {M : Mm} {i : Nat} (hi : i < 8) : CtY l E sa va yJ1_charAt_3b067 cJ1_charAt_3b067 2 (some .char) 3 [.ref va, .int (nI i)] M (dv (.int (kxB.getD i 0)) M) := by
  refine CtY.of (own := RJ1) rfl [some (.ref va), some (.int (nI i))] (by decide) (Nat.le_of_ble_eq_true rfl) rfl ?_
  refine j_iln dJ1_charAt_3b067_0 rfl rfl ?_
  refine j_aln dJ1_charAt_3b067_1 rfl rfl ?_
  refine j_Xlen dJ1_charAt_3b067_2 ?_
  refine j_S2n (rest := []) mx_ci mx_9 dJ1_charAt_3b067_3 (Nat.le_of_ble_eq_true rfl) (Nat.le_of_ble_eq_true rfl) (Nat.le_of_ble_eq_true rfl) ⟨Nat.le_of_ble_eq_true rfl, Nat.le_of_ble_eq_true rfl⟩ (cy_ci hi (by decide)) ?_
  refine j_aln dJ1_charAt_3b067_6 rfl rfl ?_
  refine j_iln dJ1_charAt_3b067_7 rfl rfl ?_
  refine j_Xld hi dJ1_charAt_3b067_8 ?_
  refine j_siN 255 dJ1_charAt_3b067_9 rfl ?_
  refine j_iand dJ1_charAt_3b067_12 ?_
  refine j_i2c dJ1_charAt_3b067_13 ?_
  refine j_topi (kx_8 i hi).1 ?_
  exact j_Xw (j_iret dJ1_charAt_3b067_14 rfl (kx_8 i hi).2 (Nat.le_of_ble_eq_true rfl) (Nat.le_of_ble_eq_true rfl) ⟨rfl, rfl⟩)
set_option maxRecDepth 100000 in
theorem cy_lat {l : Launch} {E : Ev} {sa va : Nat} {M : Mm} : CtY l E sa va yJ0_isLatin1_aae02 cJ0_isLatin1_aae02 1 (some .boolean) 1 [.ref sa] M (dv (.int 1) M) := by
  refine CtY.of (own := RJ0) rfl [some (.ref sa)] (by decide) (Nat.le_of_ble_eq_true rfl) rfl ?_
  refine j_gsCS fw_38 dJ0_isLatin1_aae02_0 ?_
  refine j_ifeq (tgt := 17) dJ0_isLatin1_aae02_3 (by decide) (fun h => absurd h (by decide)) (fun _ => ?_)
  refine j_aln dJ0_isLatin1_aae02_6 rfl rfl ?_
  refine j_Xcoder fw_15 dJ0_isLatin1_aae02_7 ?_
  refine j_ifne (tgt := 17) dJ0_isLatin1_aae02_10 (by decide) (fun h => absurd rfl h) (fun _ => ?_)
  refine j_ic (v := 1) dJ0_isLatin1_aae02_13 rfl ?_
  refine j_goto (tgt := 18) dJ0_isLatin1_aae02_14 (by decide) ?_
  exact j_Xw (j_iret dJ0_isLatin1_aae02_18 rfl (by decide) (Nat.le_of_ble_eq_true rfl) (Nat.le_of_ble_eq_true rfl) ⟨rfl, rfl⟩)
set_option maxRecDepth 100000 in
theorem cy_ca {l : Launch} {E : Ev} {sa va : Nat} {M : Mm} {i : Nat} (hi : i < 8) : CtY l E sa va yJ0_charAt_5068e cJ0_charAt_5068e 2 (some .char) 4 [.ref sa, .int (nI i)] M (dv (.int (kxB.getD i 0)) M) := by
  refine CtY.of (own := RJ0) rfl [some (.ref sa), some (.int (nI i))] (by decide) (Nat.le_of_ble_eq_true rfl) rfl ?_
  refine j_aln dJ0_charAt_5068e_0 rfl rfl ?_
  refine j_callVY (As := []) (rest := []) mk_lat rfl mw_492 (Nat.le_of_ble_eq_true rfl) (Nat.le_of_ble_eq_true rfl) cy_lat rfl rfl (Nat.le_of_ble_eq_true rfl) dJ0_charAt_5068e_1 ⟨Nat.le_of_ble_eq_true rfl, Nat.le_of_ble_eq_true rfl⟩ (fun v M' h => ?_)
  obtain ⟨hv, hM⟩ := h
  subst hv hM
  refine j_ifeq (tgt := 16) dJ0_charAt_5068e_4 (by decide) (fun h => absurd h (by decide)) (fun _ => ?_)
  refine j_aln dJ0_charAt_5068e_7 rfl rfl ?_
  refine j_Xvalue fw_9 dJ0_charAt_5068e_8 ?_
  refine j_iln dJ0_charAt_5068e_11 rfl rfl ?_
  refine j_callSY (As := [.ref va, .int (nI i)]) (rest := []) mx_c1 mx_495 (Nat.le_of_ble_eq_true rfl) (Nat.le_of_ble_eq_true rfl) (cy_c1 hi) rfl rfl (Nat.le_of_ble_eq_true rfl) dJ0_charAt_5068e_12 ⟨Nat.le_of_ble_eq_true rfl, Nat.le_of_ble_eq_true rfl⟩ (fun v M' h => ?_)
  obtain ⟨hv, hM⟩ := h
  subst hv hM
  exact j_Xw (j_iret dJ0_charAt_5068e_15 rfl (kx_8 i hi).2 (Nat.le_of_ble_eq_true rfl) (Nat.le_of_ble_eq_true rfl) ⟨rfl, rfl⟩)
