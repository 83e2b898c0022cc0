/-! String.indexOf on the row of kinds: the JDK's own code walked, over the constant's bytes -/
abbrev kqB : List Int32 := [98, 99, 105, 109, 112, 104, 101]
/-- the constant text at sa, its bytes at va -/
def Kq (E : Ev) (sa va : Nat) (U : State) : Prop := vk_S 1 [7] [kqB] (fun _ => sa) (fun _ => va) (eF E) U U.heap
def QK (E : Ev) (sa va : Nat) (Qf : List Frame → Array Value → State → State → Prop) : List Frame → Array Value → State → State → Prop := fun below args s t => Kq E sa va s → Qf below args s t
section KQ
variable {l : Launch} {E : Ev} {sa va : Nat} {own : String} {cc : ByteArray} {nL : Nat} {rt : Option FieldType} {tb : List ExceptionTableEntry} {R : Room} {Qf : List Frame → Array Value → State → State → Prop} {k n : Nat} {pc : Nat} {ls : List (Option Value)} {st : List Value} {M : Mm}
theorem j_K (h : ∀ (p : Program) (e : Env) (s : State) (m : MethodId) (args : Array Value) (below : List Frame) (meth : Method) (c : Code), Cx l E own cc nL rt tb p s m args meth c → Kq E sa va s → ∀ (H : Heap) (locs : List Loc) (lsr : Array Slot), va_P (eG E) vwCl (wd E M) H → va_S (eF E) s.heap H locs → lv_has lsr nL (lp 0 ls) → W p l e R s m args below meth c H locs k n (QK E sa va Qf below args s) (F0 m pc lsr st)) : Jd l E own cc nL rt tb R (QK E sa va Qf) k n pc ls st M := by
  intro p e s m args below meth c C H locs lsr hP hS hl
  by_cases hq : Kq E sa va s
  · exact h p e s m args below meth c C hq H locs lsr hP hS hl
  · intro T hT X
    exact ⟨_, Steps.refl _, fun z => absurd z hq⟩
theorem j_Kw (kk : Jd l E own cc nL rt tb R Qf k n pc ls st M) : Jd l E own cc nL rt tb R (QK E sa va Qf) k n pc ls st M := by
  intro p e s m args below meth c C H locs lsr hP hS hl T hT X
  obtain ⟨t, a1, b1⟩ := kk p e s m args below meth c C H locs lsr hP hS hl T hT X
  exact ⟨t, a1, fun _ => b1⟩
theorem j_Kcoder {ix : Nat} (hw : Cond.fieldLink own ix "java/lang/String" "coder" "B" ∈ wsG) (d : decode cc pc = .ok (.getfield ix, 3)) (kk : Jd l E own cc nL rt tb R (QK E sa va Qf) k n (pc + 3) ls (.int 0 :: st) M) : Jd l E own cc nL rt tb R (QK E sa va Qf) k n pc ls (.ref sa :: st) M := j_K fun p e s m args below meth c C hq H locs lsr hP hS hl => by
  obtain ⟨hx, hb, hr, hml, hown, hts, hlk, hK, hB, hE, hX, htb⟩ := id C
  exact vk_getf hx hb (hq.1 0 (by decide)).2.1 hS hown (hts _ hw) (fun _ h => h) d (kk p e s m args below meth c C H locs lsr hP hS hl)
theorem j_Kvalue {ix : Nat} (hw : Cond.fieldLink own ix "java/lang/String" "value" "[B" ∈ wsG) (d : decode cc pc = .ok (.getfield ix, 3)) (kk : Jd l E own cc nL rt tb R (QK E sa va Qf) k n (pc + 3) ls (.ref va :: st) M) : Jd l E own cc nL rt tb R (QK E sa va Qf) k n pc ls (.ref sa :: st) M := j_K fun p e s m args below meth c C hq H locs lsr hP hS hl => by
  obtain ⟨hx, hb, hr, hml, hown, hts, hlk, hK, hB, hE, hX, htb⟩ := id C
  exact vk_getf hx hb (hq.1 0 (by decide)).2.2.1 hS hown (hts _ hw) (fun _ h => h) d (kk p e s m args below meth c C H locs lsr hP hS hl)
theorem j_Klen (d : decode cc pc = .ok (.arraylength, 1)) (kk : Jd l E own cc nL rt tb R (QK E sa va Qf) k n (pc + 1) ls (.int (nI 7) :: st) M) : Jd l E own cc nL rt tb R (QK E sa va Qf) k n pc ls (.ref va :: st) M := j_K fun p e s m args below meth c C hq H locs lsr hP hS hl => by
  obtain ⟨hx, hb, hr, hml, hown, hts, hlk, hK, hB, hE, hX, htb⟩ := id C
  exact va_tlen hx hb (hq.1 0 (by decide)).2.2.2 hS (v := nI 7) rfl d (kk p e s m args below meth c C H locs lsr hP hS hl)
theorem j_Kld {i : Nat} (hi : i < 7) (d : decode cc pc = .ok (.baload, 1)) (kk : Jd l E own cc nL rt tb R (QK E sa va Qf) k n (pc + 1) ls (.int (kqB.getD i 0) :: st) M) : Jd l E own cc nL rt tb R (QK E sa va Qf) k n pc ls (.int (nI i) :: .ref va :: st) M := j_K fun p e s m args below meth c C hq H locs lsr hP hS hl => by
  obtain ⟨hx, hb, hr, hml, hown, hts, hlk, hK, hB, hE, hX, htb⟩ := id C
  have hin : vp_in (nI i) ([7].getD 0 0) := by
    intro z
    rcases z with z | z
    · exact nI_pos (by omega) z
    · rw [nI_clamp (by omega)] at z
      have : i < 7 := hi
      have z : 7 ≤ i := z
      omega
  exact va_tb hx hb (hq.1 0 (by decide)).2.2.2 hS hin (v := .int (kqB.getD i 0)) (by rw [nI_clamp (by omega)]; rfl) d (kk p e s m args below meth c C H locs lsr hP hS hl)
theorem j_gsCS {ix : Nat} (hw : Cond.fieldLink own ix "java/lang/String" "COMPACT_STRINGS" "Z" ∈ wsG) (d : decode cc pc = .ok (.getstatic ix, 3)) (kk : Jd l E own cc nL rt tb R Qf k n (pc + 3) ls (.int 1 :: st) M) : Jd l E own cc nL rt tb R Qf k n pc ls st M := fun p e s m args below meth c C H locs lsr hP hS hl => by
  obtain ⟨hx, hb, hr, hml, hown, hts, hlk, hK, hB, hE, hX, htb⟩ := id C
  exact va_gets hx hb hX.2.2.2.2.2.2.2.2 hS hown (hts _ hw) (fun _ h => h) d (kk p e s m args below meth c C H locs lsr hP hS hl)
theorem j_i2bK {x v : Int32} (hv : x.toInt8.toInt32 = v) (d : decode cc pc = .ok (.i2b, 1)) (kk : Jd l E own cc nL rt tb R Qf k n (pc + 1) ls (.int v :: st) M) : Jd l E own cc nL rt tb R Qf k n pc ls (.int x :: st) M := fun p e s m args below meth c C H locs lsr hP hS hl => lv_i2b C.1 C.2.1 d hv (kk p e s m args below meth c C H locs lsr hP hS hl)
end KQ
/-- a method of the text's own, from the constant -/
def CtK (l : Launch) (E : Ev) (sa va : Nat) (y : MethodName) (cc : ByteArray) (nL : Nat) (ret : Option FieldType) (lv : Nat) (As : List Value) (M : Mm) (post : Option Value → Mm → Prop) : Prop :=
  Met l y (wsM y cc nL ret) (rmm lv 0 0) (va_Pc As (fun U => Wd E M U ∧ Kq E sa va U)) (QN E post) 0 0 (eF E)
theorem CtK.of {l : Launch} {E : Ev} {sa va : Nat} {y : MethodName} {cc : ByteArray} {nL : Nat} {ret : Option FieldType} {lv : Nat} {As : List Value} {M : Mm} {post : Option Value → Mm → Prop} {own : String} (ho : y.cls = own) (ls : List (Option Value)) (hy : plainName own = true) (h1 : (lg_sl As).length ≤ nL) (h2 : lp 0 ls = lv_args 0 As)
    (body : Jd l E own cc nL ret [] (rmm lv 0 0) (QK E sa va (QfN E post 0 0)) 0 0 0 ls [] M) : CtK l E sa va y cc nL ret lv As M post := by
  subst ho
  refine Met.ofW (cc := cc) (maxL := nL) (ret := ret) hy rfl ?_
  intro p e s m args below meth c s₁ B hml hv
  obtain ⟨rfl, hW, hq⟩ := hv
  obtain ⟨lsr, e1, hl⟩ := ent_has (m := m) h1 h2
  rw [e1]
  intro T hT X
  obtain ⟨t, a1, b1⟩ := body p e s m _ below meth c (Cx.of B hml hW) s.heap [] lsr hW.1 va_S.rf hl T hT X
  exact ⟨t, a1, b1 hq⟩
theorem kq_blind {E : Ev} {M : Mm} {sa va : Nat} {As : List Value} : FrameBlind (va_Pc As (fun U => Wd E M U ∧ Kq E sa va U)) := by
  intro a U g mk h
  have h2 := wd_blind (E := E) (M := M) (As := As) a U g mk ⟨h.1, h.2.1⟩
  exact ⟨h2.1, h2.2, vk_S.moved (u := U) (U := U.calling g mk a) (Vm.Alike.refl U.vm) h.2.2⟩
theorem kq_go {E : Ev} {sa va : Nat} {s U : State} {H : Heap} {locs : List Loc} (hq : Kq E sa va s) (hS : va_S (eF E) s.heap H locs) (hU : U.heap = H) (hW : s.WarmedH U.vm) : Kq E sa va U := by
  unfold Kq
  rw [hU]
  exact vk_S.moved hW.alike (vk_S.kept hq hS.2.1)
section KC
variable {l : Launch} {E : Ev} {sa va : Nat} {own : String} {cc : ByteArray} {nL : Nat} {rt : Option FieldType} {tb : List ExceptionTableEntry} {Qf : List Frame → Array Value → State → State → Prop} {k n : Nat} {pc : Nat} {ls : List (Option Value)} {st : List Value} {M : Mm}
variable {y : MethodName} {cy : ByteArray} {nY a ix lv' : Nat} {ret : Option FieldType} {As rest : List Value} {post' : Option Value → Mm → Prop}
theorem j_callVK {lv mc0 ms0 : Nat} (mf : MfV y cy nY ret a) (hcl : y.cls = "java/lang/String") (hw : Cond.methodLink own ix y ∈ wsG) (hlv : lv' + 1 ≤ lv) (hy : nY ≤ 30) (hC : CtK l E sa va y cy nY ret lv' (.ref sa :: As) M post') (ha : As.length = a) (hst : st = As.reverse ++ .ref sa :: rest) (hr8 : (rest.map fun v => v.category).sum ≤ 8) (d : decode cc pc = .ok (.invokevirtual ix, 3)) (hf : k + 0 ≤ mc0 ∧ n + 0 ≤ ms0)
    (kk : ∀ v M', post' v M' → Jd l E own cc nL rt tb (rmm lv mc0 ms0) (QK E sa va Qf) (k + 0) (n + 0) (pc + 3) ls (v.toList ++ rest) M') : Jd l E own cc nL rt tb (rmm lv mc0 ms0) (QK E sa va Qf) k n pc ls st M := by
  refine j_K fun p e s m args below meth c C hq H locs lsr hP hS hl => ?_
  obtain ⟨hx, hb, hr, hml, hown, hts, hlk, hK, hB, hE, hX, htb⟩ := id C
  subst hst
  exact run_go (va_runV (As := As) (rest := rest) ⟨hx, hb, hml, hown, hts⟩ hC (cwV_of hts mf hw (rm_fit (mc := mc0) (ms := ms0) (mc' := 0) (ms' := 0) hlv hy)) ⟨kq_blind, by rw [hcl]; exact vk_recv hq (i := 0) (by decide) hS, fun U hU hW => ⟨rfl, pre_go C hP hS U hU hW, kq_go hq hS hU hW⟩⟩ rfl ha hl.1 rfl (lv_room hr8) d hf) hS
    (fun v M' H1 locs1 hp hP1 hS1 => kk v M' hp p e s m args below meth c C H1 locs1 lsr hP1 hS1 hl)
theorem j_callSK {lv mc0 ms0 : Nat} (mf : MfS y cy nY ret a) (hw : Cond.methodLink own ix y ∈ wsG) (hlv : lv' + 1 ≤ lv) (hy : nY ≤ 30) (hC : CtK l E sa va y cy nY ret lv' As M post') (ha : As.length = a) (hst : st = As.reverse ++ rest) (hr8 : (rest.map fun v => v.category).sum ≤ 8) (d : decode cc pc = .ok (.invokestatic ix, 3)) (hf : k + 0 ≤ mc0 ∧ n + 0 ≤ ms0)
    (kk : ∀ v M', post' v M' → Jd l E own cc nL rt tb (rmm lv mc0 ms0) (QK E sa va Qf) (k + 0) (n + 0) (pc + 3) ls (v.toList ++ rest) M') : Jd l E own cc nL rt tb (rmm lv mc0 ms0) (QK E sa va Qf) k n pc ls st M := by
  refine j_K fun p e s m args below meth c C hq H locs lsr hP hS hl => ?_
  obtain ⟨hx, hb, hr, hml, hown, hts, hlk, hK, hB, hE, hX, htb⟩ := id C
  subst hst
  exact run_go (va_runS (As := As) (rest := rest) ⟨hx, hb, hml, hown, hts⟩ hC (cwS_of hts mf hw (rm_fit (mc := mc0) (ms := ms0) (mc' := 0) (ms' := 0) hlv hy)) ⟨kq_blind, fun U hU hW => ⟨rfl, pre_go C hP hS U hU hW, kq_go hq hS hU hW⟩⟩ rfl ha hl.1 rfl (lv_room hr8) d hf) hS
    (fun v M' H1 locs1 hp hP1 hS1 => kk v M' hp p e s m args below meth c C H1 locs1 lsr hP1 hS1 hl)
end KC
/-! the words -/
theorem mk_ix1 : MfV yJ0_indexOf_0f7a4 cJ0_indexOf_0f7a4 2 (some .int) 1 := ⟨⟨by decide +kernel, by decide +kernel, by decide +kernel⟩, (wg3 (i := 144) rfl rfl), (wg3 (i := 145) rfl rfl), (wg1 (i := 14) rfl rfl), (wg3 (i := 146) rfl rfl)⟩
theorem mk_ix2 : MfV yJ0_indexOf_7cf53 cJ0_indexOf_7cf53 3 (some .int) 2 := ⟨⟨by decide +kernel, by decide +kernel, by decide +kernel⟩, (wg3 (i := 148) rfl rfl), (wg3 (i := 149) rfl rfl), (wg1 (i := 14) rfl rfl), (wg3 (i := 150) rfl rfl)⟩
theorem mk_lat : MfV yJ0_isLatin1_aae02 cJ0_isLatin1_aae02 1 (some .boolean) 0 := ⟨⟨by decide +kernel, by decide +kernel, by decide +kernel⟩, (wg3 (i := 152) rfl rfl), (wg3 (i := 153) rfl rfl), (wg1 (i := 14) rfl rfl), (wg3 (i := 154) rfl rfl)⟩
theorem mk_len : MfV yJ0_length_8abf5 cJ0_length_8abf5 1 (some .int) 0 := ⟨⟨by decide +kernel, by decide +kernel, by decide +kernel⟩, (wg3 (i := 158) rfl rfl), (wg3 (i := 159) rfl rfl), (wg1 (i := 14) rfl rfl), (wg3 (i := 160) rfl rfl)⟩
theorem mk_cod : MfV yJ0_coder_7d493 cJ0_coder_7d493 1 (some .byte) 0 := ⟨⟨by decide +kernel, by decide +kernel, by decide +kernel⟩, (wg3 (i := 162) rfl rfl), (wg3 (i := 163) rfl rfl), (wg1 (i := 14) rfl rfl), (wg3 (i := 164) rfl rfl)⟩
theorem mk_can : MfS yJ1_canEncode_9a6ad cJ1_canEncode_9a6ad 1 (some .boolean) 1 := ⟨⟨by decide +kernel, by decide +kernel, by decide +kernel⟩, (wg3 (i := 169) rfl rfl), (wg1 (i := 21) rfl rfl), (wg3 (i := 170) rfl rfl)⟩
theorem mk_l1 : MfS yJ1_indexOf_4cfef cJ1_indexOf_4cfef 4 (some .int) 4 := ⟨⟨by decide +kernel, by decide +kernel, by decide +kernel⟩, (wg3 (i := 166) rfl rfl), (wg1 (i := 21) rfl rfl), (wg3 (i := 167) rfl rfl)⟩
theorem mk_chr : MfS yJ1_indexOfChar_4cfef cJ1_indexOfChar_4cfef 6 (some .int) 4 := ⟨⟨by decide +kernel, by decide +kernel, by decide +kernel⟩, (wg3 (i := 174) rfl rfl), (wg1 (i := 21) rfl rfl), (wg3 (i := 175) rfl rfl)⟩
theorem mw_93 : Cond.methodLink RX9 93 yJ0_indexOf_0f7a4 ∈ wsG := (wg3 (i := 143) rfl rfl)
theorem mw_633 : Cond.methodLink RJ0 633 yJ0_indexOf_7cf53 ∈ wsG := (wg3 (i := 147) rfl rfl)
theorem mw_492 : Cond.methodLink RJ0 492 yJ0_isLatin1_aae02 ∈ wsG := (wg3 (i := 151) rfl rfl)
theorem mw_505 : Cond.methodLink RJ0 505 yJ0_length_8abf5 ∈ wsG := (wg3 (i := 157) rfl rfl)
theorem mw_335 : Cond.methodLink RJ0 335 yJ0_coder_7d493 ∈ wsG := (wg3 (i := 161) rfl rfl)
theorem mw_637 : Cond.methodLink RJ0 637 yJ1_indexOf_4cfef ∈ wsG := (wg3 (i := 165) rfl rfl)
theorem mw_88 : Cond.methodLink RJ1 88 yJ1_canEncode_9a6ad ∈ wsG := (wg3 (i := 168) rfl rfl)
theorem mw_92 : Cond.methodLink RJ1 92 yJ9_max_7cf53 ∈ wsG := (wg3 (i := 171) rfl rfl)
theorem mw_38 : Cond.methodLink RJ1 38 yJ9_min_7cf53 ∈ wsG := (wg3 (i := 172) rfl rfl)
theorem mw_95 : Cond.methodLink RJ1 95 yJ1_indexOfChar_4cfef ∈ wsG := (wg3 (i := 173) rfl rfl)
theorem fw_38 : Cond.fieldLink RJ0 38 "java/lang/String" "COMPACT_STRINGS" "Z" ∈ wsG := (wg3 (i := 155) rfl rfl)
theorem fw_15 : Cond.fieldLink RJ0 15 "java/lang/String" "coder" "B" ∈ wsG := (wg5 (i := 103) rfl rfl)
theorem fw_9 : Cond.fieldLink RJ0 9 "java/lang/String" "value" "[B" ∈ wsG := (wg5 (i := 104) rfl rfl)
/-! the walks -/
theorem kix_at : ∀ j, j < 7 → kix (kqB.getD j 0) = nI j := by decide +kernel
theorem kix_no {c : Int32} (h : ∀ j, j < 7 → ¬ c = kqB.getD j 0) : kix c = -1 := by
  have h0 : ¬ c = nI 98 := fun z => h 0 (by decide) z
  have h1 : ¬ c = nI 99 := fun z => h 1 (by decide) z
  have h2 : ¬ c = nI 105 := fun z => h 2 (by decide) z
  have h3 : ¬ c = nI 109 := fun z => h 3 (by decide) z
  have h4 : ¬ c = nI 112 := fun z => h 4 (by decide) z
  have h5 : ¬ c = nI 104 := fun z => h 5 (by decide) z
  have h6 : ¬ c = nI 101 := fun z => h 6 (by decide) z
  unfold kix
  rw [if_neg h0, if_neg h1, if_neg h2, if_neg h3, if_neg h4, if_neg h5, if_neg h6]
theorem k8_n : ∀ c, c < 256 → ∀ j, j < 7 → (kqB.getD j 0 = (nI c).toInt8.toInt32 ↔ nI c = kqB.getD j 0) := by decide +kernel
theorem kq_in : ∀ j, j < 7 → ¬ kqB.getD j 0 < 0 ∧ ¬ nI 255 < kqB.getD j 0 := by decide
set_option maxRecDepth 100000 in
theorem ck_coder {l : Launch} {E : Ev} {sa va : Nat} {M : Mm} : CtK l E sa va yJ0_coder_7d493 cJ0_coder_7d493 1 (some .byte) 1 [.ref sa] M (dv (.int 0) M) := by
  refine CtK.of (own := RJ0) rfl [some (.ref sa)] (by decide) (Nat.le_of_ble_eq_true rfl) rfl ?_
  refine j_gsCS fw_38 dJ0_coder_7d493_0 ?_
  refine j_ifeq (tgt := 13) dJ0_coder_7d493_3 (by decide) (fun h => absurd h (by decide)) (fun _ => ?_)
  refine j_aln dJ0_coder_7d493_6 rfl rfl ?_
  refine j_Kcoder fw_15 dJ0_coder_7d493_7 ?_
  refine j_goto (tgt := 14) dJ0_coder_7d493_10 (by decide) ?_
  exact j_Kw (j_iret dJ0_coder_7d493_14 rfl (by decide) (Nat.le_of_ble_eq_true rfl) (Nat.le_of_ble_eq_true rfl) ⟨rfl, rfl⟩)
set_option maxRecDepth 100000 in
theorem ck_lat {l : Launch} {E : Ev} {sa va : Nat} {M : Mm} : CtK l E sa va yJ0_isLatin1_aae02 cJ0_isLatin1_aae02 1 (some .boolean) 1 [.ref sa] M (dv (.int 1) M) := by
  refine CtK.of (own := RJ0) rfl [some (.ref sa)] (by decide) (Nat.le_of_ble_eq_true rfl) rfl ?_
  refine j_gsCS fw_38 dJ0_isLatin1_aae02_0 ?_
  refine j_ifeq (tgt := 17) dJ0_isLatin1_aae02_3 (by decide) (fun h => absurd h (by decide)) (fun _ => ?_)
  refine j_aln dJ0_isLatin1_aae02_6 rfl rfl ?_
  refine j_Kcoder fw_15 dJ0_isLatin1_aae02_7 ?_
  refine j_ifne (tgt := 17) dJ0_isLatin1_aae02_10 (by decide) (fun h => absurd rfl h) (fun _ => ?_)
  refine j_ic (v := 1) dJ0_isLatin1_aae02_13 rfl ?_
  refine j_goto (tgt := 18) dJ0_isLatin1_aae02_14 (by decide) ?_
  exact j_Kw (j_iret dJ0_isLatin1_aae02_18 rfl (by decide) (Nat.le_of_ble_eq_true rfl) (Nat.le_of_ble_eq_true rfl) ⟨rfl, rfl⟩)
set_option maxRecDepth 100000 in
theorem ck_len {l : Launch} {E : Ev} {sa va : Nat} {M : Mm} : CtK l E sa va yJ0_length_8abf5 cJ0_length_8abf5 1 (some .int) 2 [.ref sa] M (dv (.int (nI 7)) M) := by
  refine CtK.of (own := RJ0) rfl [some (.ref sa)] (by decide) (Nat.le_of_ble_eq_true rfl) rfl ?_
  refine j_aln dJ0_length_8abf5_0 rfl rfl ?_
  refine j_Kvalue fw_9 dJ0_length_8abf5_1 ?_
  refine j_Klen dJ0_length_8abf5_4 ?_
  refine j_aln dJ0_length_8abf5_5 rfl rfl ?_
  refine j_callVK (As := []) (rest := [.int (nI 7)]) mk_cod rfl mw_335 (Nat.le_of_ble_eq_true rfl) (Nat.le_of_ble_eq_true rfl) ck_coder rfl rfl (Nat.le_of_ble_eq_true rfl) dJ0_length_8abf5_6 ⟨Nat.le_of_ble_eq_true rfl, Nat.le_of_ble_eq_true rfl⟩ (fun v M' h => ?_)
  obtain ⟨hv, hM⟩ := h
  subst hv hM
  refine j_ishr dJ0_length_8abf5_9 ?_
  refine j_topi (y := nI 7) (by decide) ?_
  exact j_Kw (j_iret dJ0_length_8abf5_10 rfl rfl (Nat.le_of_ble_eq_true rfl) (Nat.le_of_ble_eq_true rfl) ⟨rfl, rfl⟩)
def canX (c : Int32) : Bool := decide (¬ c < 0 ∧ ¬ nI 255 < c)
set_option maxRecDepth 100000 in
theorem ck_can {l : Launch} {E : Ev} {M : Mm} {c : Int32} : Ct l E yJ1_canEncode_9a6ad cJ1_canEncode_9a6ad 1 (some .boolean) 1 0 0 [.int c] M (dv (.int (bI (canX c))) M) := by
  refine Ct.of (own := RJ1) rfl [some (.int c)] (by decide) (Nat.le_of_ble_eq_true rfl) rfl ?_
  refine j_iln dJ1_canEncode_9a6ad_0 rfl rfl ?_
  refine j_iflt (tgt := 15) dJ1_canEncode_9a6ad_1 (by decide) (fun h1 => ?_) (fun h1 => ?_)
  · refine j_icN 0 dJ1_canEncode_9a6ad_15 rfl ?_
    exact j_iret dJ1_canEncode_9a6ad_16 rfl (by decide) (Nat.le_of_ble_eq_true rfl) (Nat.le_of_ble_eq_true rfl) ⟨by rw [show canX c = false from decide_eq_false fun z => z.1 h1]; rfl, rfl⟩
  · refine j_iln dJ1_canEncode_9a6ad_4 rfl rfl ?_
    refine j_siN 255 dJ1_canEncode_9a6ad_5 rfl ?_
    refine j_icgt (tgt := 15) dJ1_canEncode_9a6ad_8 (by decide) (fun h2 => ?_) (fun h2 => ?_)
    · refine j_icN 0 dJ1_canEncode_9a6ad_15 rfl ?_
      exact j_iret dJ1_canEncode_9a6ad_16 rfl (by decide) (Nat.le_of_ble_eq_true rfl) (Nat.le_of_ble_eq_true rfl) ⟨by rw [show canX c = false from decide_eq_false fun z => z.2 h2]; rfl, rfl⟩
    · refine j_icN 1 dJ1_canEncode_9a6ad_11 rfl ?_
      refine j_goto (tgt := 16) dJ1_canEncode_9a6ad_12 (by decide) ?_
      exact j_iret dJ1_canEncode_9a6ad_16 rfl (by decide) (Nat.le_of_ble_eq_true rfl) (Nat.le_of_ble_eq_true rfl) ⟨by rw [show canX c = true from decide_eq_true ⟨h1, h2⟩]; rfl, rfl⟩
set_option maxRecDepth 100000 in
theorem ck_chr {l : Launch} {E : Ev} {sa va : Nat} {M : Mm} {c : Nat} (hc : c < 256) : CtK l E sa va yJ1_indexOfChar_4cfef cJ1_indexOfChar_4cfef 6 (some .int) 1 [.ref va, .int (nI c), .int (nI 0), .int (nI 7)] M (dv (.int (kix (nI c))) M) := by
  refine CtK.of (own := RJ1) rfl [some (.ref va), some (.int (nI c)), some (.int (nI 0)), some (.int (nI 7)), none, none] (by decide) (Nat.le_of_ble_eq_true rfl) rfl ?_
  have KR : ∀ r, r ≤ 7 → (∀ j, j < r → ¬ nI c = kqB.getD j 0) → Jd l E RJ1 cJ1_indexOfChar_4cfef 6 (some .int) [] (rmm 1 0 0) (QK E sa va (QfN E (dv (.int (kix (nI c))) M) 0 0)) 0 0 7 [some (.ref va), some (.int (nI c)), some (.int (nI 0)), some (.int (nI 7)), some (.int (nI c).toInt8.toInt32), some (.int (nI r))] [] M := by
    refine up_to 7 _ ?_ (fun r hr ihr => ?_)
    · intro hno
      refine j_il dJ1_indexOfChar_4cfef_7 rfl ?_
      refine j_iln dJ1_indexOfChar_4cfef_9 rfl rfl ?_
      refine j_icgeN (tgt := 31) dJ1_indexOfChar_4cfef_10 (by decide) (by decide) (by decide) (fun _ => ?_) (fun h => absurd (Nat.le_refl 7) h)
      refine j_ic (v := -1) dJ1_indexOfChar_4cfef_31 rfl ?_
      exact j_Kw (j_iret dJ1_indexOfChar_4cfef_32 rfl rfl (Nat.le_of_ble_eq_true rfl) (Nat.le_of_ble_eq_true rfl) ⟨by rw [kix_no hno], rfl⟩)
    · intro hno
      refine j_il dJ1_indexOfChar_4cfef_7 rfl ?_
      refine j_iln dJ1_indexOfChar_4cfef_9 rfl rfl ?_
      refine j_icgeN (tgt := 31) dJ1_indexOfChar_4cfef_10 (by decide) (by omega) (by decide) (fun h => absurd h (by omega)) (fun _ => ?_)
      refine j_aln dJ1_indexOfChar_4cfef_13 rfl rfl ?_
      refine j_il dJ1_indexOfChar_4cfef_14 rfl ?_
      refine j_Kld hr dJ1_indexOfChar_4cfef_16 ?_
      refine j_il dJ1_indexOfChar_4cfef_17 rfl ?_
      refine j_icne (tgt := 25) dJ1_indexOfChar_4cfef_19 (by decide) (fun h => ?_) (fun h => ?_)
      · refine j_incN_5 1 dJ1_indexOfChar_4cfef_25 rfl (by decide) rfl ?_
        refine j_goto (tgt := 7) dJ1_indexOfChar_4cfef_28 (by decide) ?_
        refine ihr fun j hj z => ?_
        by_cases e : j = r
        · subst e; exact h ((k8_n c hc j hr).mpr z)
        · exact hno j (by omega) z
      · refine j_il dJ1_indexOfChar_4cfef_22 rfl ?_
        exact j_Kw (j_iret dJ1_indexOfChar_4cfef_24 rfl rfl (Nat.le_of_ble_eq_true rfl) (Nat.le_of_ble_eq_true rfl) ⟨by rw [(k8_n c hc r hr).mp h, kix_at r hr], rfl⟩)
  refine j_iln dJ1_indexOfChar_4cfef_0 rfl rfl ?_
  refine j_i2bK rfl dJ1_indexOfChar_4cfef_1 ?_
  refine j_ist_4 dJ1_indexOfChar_4cfef_2 (by decide) rfl ?_
  refine j_iln dJ1_indexOfChar_4cfef_4 rfl rfl ?_
  refine j_ist_5 dJ1_indexOfChar_4cfef_5 (by decide) rfl ?_
  exact KR 0 (by decide) fun j hj => absurd hj (by omega)
set_option maxRecDepth 100000 in
theorem ck_l1 {l : Launch} {E : Ev} {sa va : Nat} {M : Mm} {c : Int32} : CtK l E sa va yJ1_indexOf_4cfef cJ1_indexOf_4cfef 4 (some .int) 2 [.ref va, .int c, .int (nI 0), .int (nI 7)] M (dv (.int (kix c)) M) := by
  refine CtK.of (own := RJ1) rfl [some (.ref va), some (.int c), some (.int (nI 0)), some (.int (nI 7))] (by decide) (Nat.le_of_ble_eq_true rfl) rfl ?_
  refine j_iln dJ1_indexOf_4cfef_0 rfl rfl ?_
  refine j_S1d mk_can mw_88 dJ1_indexOf_4cfef_1 (Nat.le_of_ble_eq_true rfl) (Nat.le_of_ble_eq_true rfl) (Nat.le_of_ble_eq_true rfl) ⟨Nat.le_of_ble_eq_true rfl, Nat.le_of_ble_eq_true rfl⟩ ck_can ?_
  refine j_ifne (tgt := 9) dJ1_indexOf_4cfef_4 (by decide) (fun h => ?_) (fun h => ?_)
  · have hc : canX c = true := by
      cases g : canX c with
      | true => rfl
      | false => rw [g] at h; exact absurd rfl h
    have hc := of_decide_eq_true hc
    obtain ⟨b, hb, rfl⟩ : ∃ b, b < 256 ∧ c = nI b := by
      obtain ⟨b, hb, rfl⟩ := nI_of hc.1
      refine ⟨b, Nat.lt_of_not_le fun g => hc.2 (nI_lt (by omega) hb), rfl⟩
    refine j_iln dJ1_indexOf_4cfef_9 rfl rfl ?_
    refine j_icN 0 dJ1_indexOf_4cfef_10 rfl ?_
    refine j_mmax dJ1_indexOf_4cfef_11 mw_92 (Nat.le_of_ble_eq_true rfl) (Nat.le_of_ble_eq_true rfl) (Nat.le_of_ble_eq_true rfl) (Nat.le_of_ble_eq_true rfl) ?_
    refine j_topi (y := nI 0) (by decide) ?_
    refine j_ist_2 dJ1_indexOf_4cfef_14 (by decide) rfl ?_
    refine j_iln dJ1_indexOf_4cfef_15 rfl rfl ?_
    refine j_aln dJ1_indexOf_4cfef_16 rfl rfl ?_
    refine j_Klen dJ1_indexOf_4cfef_17 ?_
    refine j_mmin dJ1_indexOf_4cfef_18 mw_38 (Nat.le_of_ble_eq_true rfl) (Nat.le_of_ble_eq_true rfl) (Nat.le_of_ble_eq_true rfl) (Nat.le_of_ble_eq_true rfl) ?_
    refine j_topi (y := nI 7) (by decide) ?_
    refine j_ist_3 dJ1_indexOf_4cfef_21 (by decide) rfl ?_
    refine j_iln dJ1_indexOf_4cfef_22 rfl rfl ?_
    refine j_iln dJ1_indexOf_4cfef_23 rfl rfl ?_
    refine j_icltN (tgt := 29) dJ1_indexOf_4cfef_24 (by decide) (by decide) (by decide) (fun _ => ?_) (fun h => absurd (by decide) h)
    refine j_aln dJ1_indexOf_4cfef_29 rfl rfl ?_
    refine j_iln dJ1_indexOf_4cfef_30 rfl rfl ?_
    refine j_iln dJ1_indexOf_4cfef_31 rfl rfl ?_
    refine j_iln dJ1_indexOf_4cfef_32 rfl rfl ?_
    refine j_callSK (As := [.ref va, .int (nI b), .int (nI 0), .int (nI 7)]) (rest := []) mk_chr mw_95 (Nat.le_of_ble_eq_true rfl) (Nat.le_of_ble_eq_true rfl) (ck_chr hb) rfl rfl (Nat.le_of_ble_eq_true rfl) dJ1_indexOf_4cfef_33 ⟨Nat.le_of_ble_eq_true rfl, Nat.le_of_ble_eq_true rfl⟩ (fun v M' h => ?_)
    obtain ⟨hv, hM⟩ := h
    subst hv hM
    exact j_Kw (j_iret dJ1_indexOf_4cfef_36 rfl rfl (Nat.le_of_ble_eq_true rfl) (Nat.le_of_ble_eq_true rfl) ⟨rfl, rfl⟩)
  · have hno : ∀ j, j < 7 → ¬ c = kqB.getD j 0 := fun j hj z => by
      have := kq_in j hj
      rw [← z] at this
      rw [show canX c = true from decide_eq_true this] at h
      exact absurd h (by decide)
    refine j_ic (v := -1) dJ1_indexOf_4cfef_7 rfl ?_
    exact j_Kw (j_iret dJ1_indexOf_4cfef_8 rfl rfl (Nat.le_of_ble_eq_true rfl) (Nat.le_of_ble_eq_true rfl) ⟨by rw [kix_no hno], rfl⟩)
set_option maxRecDepth 100000 in
theorem ck_ix2 {l : Launch} {E : Ev} {sa va : Nat} {M : Mm} {c : Int32} : CtK l E sa va yJ0_indexOf_7cf53 cJ0_indexOf_7cf53 3 (some .int) 3 [.ref sa, .int c, .int (nI 0)] M (dv (.int (kix c)) M) := by
  refine CtK.of (own := RJ0) rfl [some (.ref sa), some (.int c), some (.int (nI 0))] (by decide) (Nat.le_of_ble_eq_true rfl) rfl ?_
  refine j_aln dJ0_indexOf_7cf53_0 rfl rfl ?_
  refine j_callVK (As := []) (rest := []) mk_lat rfl mw_492 (Nat.le_of_ble_eq_true rfl) (Nat.le_of_ble_eq_true rfl) ck_lat rfl rfl (Nat.le_of_ble_eq_true rfl) dJ0_indexOf_7cf53_1 ⟨Nat.le_of_ble_eq_true rfl, Nat.le_of_ble_eq_true rfl⟩ (fun v M' h => ?_)
  obtain ⟨hv, hM⟩ := h
  subst hv hM
  refine j_ifeq (tgt := 23) dJ0_indexOf_7cf53_4 (by decide) (fun h => absurd h (by decide)) (fun _ => ?_)
  refine j_aln dJ0_indexOf_7cf53_7 rfl rfl ?_
  refine j_Kvalue fw_9 dJ0_indexOf_7cf53_8 ?_
  refine j_iln dJ0_indexOf_7cf53_11 rfl rfl ?_
  refine j_iln dJ0_indexOf_7cf53_12 rfl rfl ?_
  refine j_aln dJ0_indexOf_7cf53_13 rfl rfl ?_
  refine j_callVK (As := []) (rest := [.int (nI 0), .int c, .ref va]) mk_len rfl mw_505 (Nat.le_of_ble_eq_true rfl) (Nat.le_of_ble_eq_true rfl) ck_len rfl rfl (Nat.le_of_ble_eq_true rfl) dJ0_indexOf_7cf53_14 ⟨Nat.le_of_ble_eq_true rfl, Nat.le_of_ble_eq_true rfl⟩ (fun v M' h => ?_)
  obtain ⟨hv, hM⟩ := h
  subst hv hM
  refine j_callSK (As := [.ref va, .int c, .int (nI 0), .int (nI 7)]) (rest := []) mk_l1 mw_637 (Nat.le_of_ble_eq_true rfl) (Nat.le_of_ble_eq_true rfl) ck_l1 rfl rfl (Nat.le_of_ble_eq_true rfl) dJ0_indexOf_7cf53_17 ⟨Nat.le_of_ble_eq_true rfl, Nat.le_of_ble_eq_true rfl⟩ (fun v M' h => ?_)
  obtain ⟨hv, hM⟩ := h
  subst hv hM
  refine j_goto (tgt := 36) dJ0_indexOf_7cf53_20 (by decide) ?_
  exact j_Kw (j_iret dJ0_indexOf_7cf53_36 rfl rfl (Nat.le_of_ble_eq_true rfl) (Nat.le_of_ble_eq_true rfl) ⟨rfl, rfl⟩)
set_option maxRecDepth 100000 in
theorem ck_ix1 {l : Launch} {E : Ev} {sa va : Nat} {M : Mm} {c : Int32} : CtK l E sa va yJ0_indexOf_0f7a4 cJ0_indexOf_0f7a4 2 (some .int) 4 [.ref sa, .int c] M (dv (.int (kix c)) M) := by
  refine CtK.of (own := RJ0) rfl [some (.ref sa), some (.int c)] (by decide) (Nat.le_of_ble_eq_true rfl) rfl ?_
  refine j_aln dJ0_indexOf_0f7a4_0 rfl rfl ?_
  refine j_iln dJ0_indexOf_0f7a4_1 rfl rfl ?_
  refine j_icN 0 dJ0_indexOf_0f7a4_2 rfl ?_
  refine j_callVK (As := [.int c, .int (nI 0)]) (rest := []) mk_ix2 rfl mw_633 (Nat.le_of_ble_eq_true rfl) (Nat.le_of_ble_eq_true rfl) ck_ix2 rfl rfl (Nat.le_of_ble_eq_true rfl) dJ0_indexOf_0f7a4_3 ⟨Nat.le_of_ble_eq_true rfl, Nat.le_of_ble_eq_true rfl⟩ (fun v M' h => ?_)
  obtain ⟨hv, hM⟩ := h
  subst hv hM
  exact j_Kw (j_iret dJ0_indexOf_0f7a4_6 rfl rfl (Nat.le_of_ble_eq_true rfl) (Nat.le_of_ble_eq_true rfl) ⟨rfl, rfl⟩)
theorem ix_r {l : Launch} {E : Ev} : IxR l E := by
  intro Qf lv ls M c hls hlv kk
  intro p e s m args below meth cd C H locs lsr hP hS hl
  obtain ⟨hx, hb, hr, hml, hown, hts, hlk, hK, hB, hE, hX, htb⟩ := id C
  obtain ⟨hU, hN, hbad, hnc, hstr, ⟨sa, va, hk1, hk2⟩, hkx, hfm, hcs⟩ := id hX
  have hq : Kq E sa va s := hk2
  refine va_ldcS hx hb hown hk1 dX9_addFeature_0 ?_
  have hi := lp_at hl hls
  refine lv_iload_n hx hb dX9_addFeature_2 rfl hi ?_
  exact run_go (va_runV (As := [.int c]) (rest := []) ⟨hx, hb, hml, hown, hts⟩ (ck_ix1 (l := l) (E := E) (sa := sa) (va := va) (M := M) (c := c)) (cwV_of hts mk_ix1 mw_93 (rm_fit (mc := 1) (ms := 6) (mc' := 0) (ms' := 0) (by omega : 4 + 1 ≤ lv) (Nat.le_of_ble_eq_true rfl))) ⟨kq_blind, vk_recv hq (i := 0) (by decide) hS, fun U hU hW => ⟨rfl, pre_go C hP hS U hU hW, kq_go hq hS hU hW⟩⟩ rfl rfl hl.1 rfl (lv_room (by decide)) dX9_addFeature_3 ⟨Nat.le_of_ble_eq_true rfl, Nat.le_of_ble_eq_true rfl⟩) hS
    (fun v M' H1 locs1 hp hP1 hS1 => by
      obtain ⟨hv, hM⟩ := hp
      subst hv hM
      exact kk p e s m args below meth cd C H1 locs1 lsr hP1 hS1 hl)
