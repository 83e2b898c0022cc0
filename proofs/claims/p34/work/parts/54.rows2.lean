/-! the law's two rows beside the world -/
def exA (E : Ev) (a b : Nat) : Ev := (fun t i => if t = 14 then a else if t = 15 then b else eA E t i, fun x => if x = a then (14, 0) else if x = b then (15, 0) else if (eT E x).1 = 14 ∨ (eT E x).1 = 15 then (13, 0) else eT E x, eL E ++ [a, b], eG E, eY E, eB E, 1)
theorem nx_e {E : Ev} {t : Nat} (h : ¬ t = 14) (h2 : ¬ t = 15) : nx E t = nv t := by
  unfold nx
  split
  · exact absurd rfl h
  · exact absurd rfl h2
  · rfl
theorem nx_0E {E : Ev} (h0 : eN E = 0) (t : Nat) : nx E t = nv t := by
  unfold nx
  split
  · exact h0
  · exact h0
  · rfl
theorem lay_e {E : Ev} {a b : Nat} (hE : LayOK E) (h0 : eN E = 0) (ha : a ∉ eL E) (hb : b ∉ eL E) (hab : ¬ a = b) (la : eB E ≤ a) (lb : eB E ≤ b) : LayOK (exA E a b) := by
  obtain ⟨h1, h2, h3, h4⟩ := hE
  refine ⟨fun t i hi => ?_, fun x hx => ?_, ?_, fun x hx => ?_⟩
  · by_cases e14 : t = 14
    · subst e14
      have hi : i < 1 := hi
      obtain rfl : i = 0 := by omega
      refine ⟨List.mem_append_right _ List.mem_cons_self, ?_⟩
      show (if a = a then (14, 0) else _) = _
      rw [if_pos rfl]
    by_cases e15 : t = 15
    · subst e15
      have hi : i < 1 := hi
      obtain rfl : i = 0 := by omega
      refine ⟨List.mem_append_right _ (List.mem_cons_of_mem _ List.mem_cons_self), ?_⟩
      show (if b = a then (14, 0) else if b = b then (15, 0) else _) = _
      rw [if_neg (fun e => hab e.symm), if_pos rfl]
    rw [nx_e e14 e15] at hi
    obtain ⟨g1, g2⟩ := h1 t i (by rw [nx_e e14 e15]; exact hi)
    have eA' : eA (exA E a b) t i = eA E t i := by
      show (if t = 14 then a else if t = 15 then b else eA E t i) = _
      rw [if_neg e14, if_neg e15]
    rw [eA']
    refine ⟨List.mem_append_left _ g1, ?_⟩
    show (if eA E t i = a then (14, 0) else if eA E t i = b then (15, 0) else if (eT E (eA E t i)).1 = 14 ∨ (eT E (eA E t i)).1 = 15 then (13, 0) else eT E (eA E t i)) = _
    rw [if_neg (fun e => ha (by rw [← e]; exact g1)), if_neg (fun e => hb (by rw [← e]; exact g1)), g2, if_neg (fun e => e.elim e14 e15)]
  · have eTx : eT (exA E a b) x = if x = a then (14, 0) else if x = b then (15, 0) else if (eT E x).1 = 14 ∨ (eT E x).1 = 15 then (13, 0) else eT E x := rfl
    rw [eTx] at hx ⊢
    by_cases e1 : x = a
    · rw [if_pos e1]; exact e1.symm
    rw [if_neg e1] at hx ⊢
    by_cases e2 : x = b
    · rw [if_pos e2]; exact e2.symm
    rw [if_neg e2] at hx ⊢
    by_cases e3 : (eT E x).1 = 14 ∨ (eT E x).1 = 15
    · rw [if_pos e3] at hx; exact absurd hx (Nat.not_lt_zero _)
    rw [if_neg e3] at hx ⊢
    have e14 : ¬ (eT E x).1 = 14 := fun z => e3 (Or.inl z)
    have e15 : ¬ (eT E x).1 = 15 := fun z => e3 (Or.inr z)
    show (if (eT E x).1 = 14 then a else if (eT E x).1 = 15 then b else eA E (eT E x).1 (eT E x).2) = x
    rw [if_neg e14, if_neg e15]
    rw [nx_e e14 e15] at hx
    exact h2 x (by rw [nx_e e14 e15]; exact hx)
  · refine List.nodup_append.mpr ⟨h3, ?_, fun x hx y hy e => ?_⟩
    · exact List.nodup_cons.mpr ⟨fun z => hab (List.mem_singleton.mp z), List.nodup_cons.mpr ⟨List.not_mem_nil, List.nodup_nil⟩⟩
    · rcases List.mem_cons.mp hy with z | z
      · exact ha (by rw [← z, ← e]; exact hx)
      · exact hb (by rw [← List.mem_singleton.mp z, ← e]; exact hx)
  · rcases List.mem_append.mp hx with z | z
    · exact h4 x z
    · rcases List.mem_cons.mp z with z | z
      · rw [z]; exact la
      · rw [List.mem_singleton.mp z]; exact lb
theorem cv_e (E : Ev) (a b : Nat) (M : Mm) (t i : Nat) : cv (exA E a b) M t i = cv E M t i := by
  unfold cv
  split <;> simp [exA, eA, eY]
theorem Fm_e {E : Ev} {a b : Nat} (h0 : eN E = 0) (M : Mm) {x : Nat} (h1 : ¬ x = a) (h2 : ¬ x = b) : Fm (exA E a b) M x = Fm E M x := by
  have eTx : eT (exA E a b) x = if (eT E x).1 = 14 ∨ (eT E x).1 = 15 then (13, 0) else eT E x := by
    show (if x = a then (14, 0) else if x = b then (15, 0) else if (eT E x).1 = 14 ∨ (eT E x).1 = 15 then (13, 0) else eT E x) = _
    rw [if_neg h1, if_neg h2]
  unfold Fm
  rw [eTx]
  by_cases e3 : (eT E x).1 = 14 ∨ (eT E x).1 = 15
  · rw [if_pos e3, if_neg (show ¬ ((13, 0) : Nat × Nat).2 < nx (exA E a b) ((13, 0) : Nat × Nat).1 from Nat.not_lt_zero 0)]
    rw [nx_0E h0, if_neg (by rcases e3 with e | e <;> rw [e] <;> exact Nat.not_lt_zero _)]
  · rw [if_neg e3, nx_e (fun z => e3 (Or.inl z)) (fun z => e3 (Or.inr z)), nx_0E h0, cv_e]
/-- a memory's two rows written anew -/
def rsT (M M' : Mm) : Mm := sI (sI M' 14 (mI M 14)) 15 (mI M 15)
theorem rs_t {M M' : Mm} {t : Nat} (h : ¬ t = 14) (h2 : ¬ t = 15) : mI (rsT M M') t = mI M' t := by
  unfold rsT
  rw [mI_sI, if_neg h2, mI_sI, if_neg h]
theorem Fm_rs {E : Ev} (h0 : eN E = 0) (M M' : Mm) (x : Nat) : Fm E (rsT M M') x = Fm E M' x := by
  unfold Fm
  by_cases hv : (eT E x).2 < nx E (eT E x).1
  · rw [if_pos hv, if_pos hv]
    have e14 : ¬ (eT E x).1 = 14 := fun z => by rw [z, nx_0E h0] at hv; exact absurd hv (Nat.not_lt_zero _)
    have e15 : ¬ (eT E x).1 = 15 := fun z => by rw [z, nx_0E h0] at hv; exact absurd hv (Nat.not_lt_zero _)
    unfold rsT
    rw [cv_sI e15, cv_sI e14]
  · rw [if_neg hv, if_neg hv]
theorem wd_rs {E : Ev} (h0 : eN E = 0) (M M' : Mm) : wd E (rsT M M') = wd E M' := by
  show va_pl (eL E) (Fm E (rsT M M')) = va_pl (eL E) (Fm E M')
  rw [show Fm E (rsT M M') = Fm E M' from funext fun x => Fm_rs h0 M M' x]
theorem P_out {E : Ev} {a b : Nat} (h0 : eN E = 0) (ha : a ∉ eL E) (hb : b ∉ eL E) (M M' : Mm) {H : Heap} (hP : va_P (eG (exA E a b)) vwCl (wd (exA E a b) M') H) : va_P (eG E) vwCl (wd E (rsT M M')) H := by
  rw [wd_rs h0]
  intro k q hk
  have hm := List.mem_of_getElem? hk
  obtain ⟨x, hx, rfl⟩ := List.mem_map.mp hm
  have hx2 : (x, Fm (exA E a b) M' x) ∈ wd (exA E a b) M' := List.mem_map.mpr ⟨x, List.mem_append_left _ hx, rfl⟩
  obtain ⟨j, hj⟩ := List.getElem?_of_mem hx2
  have := hP j _ hj
  rw [Fm_e h0 M' (fun e => ha (by rw [← e]; exact hx)) (fun e => hb (by rw [← e]; exact hx))] at this
  exact this
def zzT (M : Mm) : Mm := sI (sI M 14 (fun _ => 0)) 15 (fun _ => 0)
theorem P_in {E : Ev} {a b : Nat} (h0 : eN E = 0) (ha : a ∉ eL E) (hb : b ∉ eL E) (hab : ¬ a = b) (M : Mm) {H : Heap} (hP : va_P (eG E) vwCl (wd E M) H) (e1 : H[a]? = some (vp_cell (eY E 0) (6, .inl fun _ => 0))) (e2 : H[b]? = some (vp_cell (eY E 0) (12, .inl fun _ => 0))) : va_P (eG (exA E a b)) vwCl (wd (exA E a b) (zzT M)) H := by
  intro k q hk
  have hm := List.mem_of_getElem? hk
  obtain ⟨x, hx, rfl⟩ := List.mem_map.mp hm
  have hz : ∀ x, Fm E (zzT M) x = Fm E M x := fun x => by
    unfold Fm
    by_cases hv : (eT E x).2 < nx E (eT E x).1
    · rw [if_pos hv, if_pos hv]
      have e14 : ¬ (eT E x).1 = 14 := fun z => by rw [z, nx_0E h0] at hv; exact absurd hv (Nat.not_lt_zero _)
      have e15 : ¬ (eT E x).1 = 15 := fun z => by rw [z, nx_0E h0] at hv; exact absurd hv (Nat.not_lt_zero _)
      unfold zzT
      rw [cv_sI e15, cv_sI e14]
    · rw [if_neg hv, if_neg hv]
  rcases List.mem_append.mp hx with z | z
  · show va_at (eG E) vwCl (x, Fm (exA E a b) (zzT M) x) H
    rw [Fm_e h0 _ (fun e => ha (by rw [← e]; exact z)) (fun e => hb (by rw [← e]; exact z)), hz]
    have hx2 : (x, Fm E M x) ∈ wd E M := List.mem_map.mpr ⟨x, z, rfl⟩
    obtain ⟨j, hj⟩ := List.getElem?_of_mem hx2
    exact hP j _ hj
  · rcases List.mem_cons.mp z with z | z
    · subst z
      have e : Fm (exA E x b) (zzT M) x = .inl (eY E 0, 6, .inl fun _ => 0) := by
        have eTx : eT (exA E x b) x = (14, 0) := if_pos rfl
        unfold Fm
        rw [eTx]
        exact (if_pos (show ((14, 0) : Nat × Nat).2 < nx (exA E x b) ((14, 0) : Nat × Nat).1 from Nat.zero_lt_one)).trans rfl
      rw [e]; exact e1
    · have z := List.mem_singleton.mp z
      subst z
      have e : Fm (exA E a x) (zzT M) x = .inl (eY E 0, 12, .inl fun _ => 0) := by
        have eTx : eT (exA E a x) x = (15, 0) := by
          show (if x = a then (14, 0) else if x = x then (15, 0) else _) = _
          rw [if_neg (fun e => hab e.symm), if_pos rfl]
        unfold Fm
        rw [eTx]
        exact (if_pos (show ((15, 0) : Nat × Nat).2 < nx (exA E a x) ((15, 0) : Nat × Nat).1 from Nat.zero_lt_one)).trans rfl
      rw [e]; exact e2
/-- what a place of the list holds lies in the heap -/
theorem P_lt {E : Ev} {M : Mm} {H : Heap} (hP : va_P (eG E) vwCl (wd E M) H) {x : Nat} (hx : x ∈ eL E) : x < H.size := by
  have hx2 : (x, Fm E M x) ∈ wd E M := List.mem_map.mpr ⟨x, hx, rfl⟩
  obtain ⟨j, hj⟩ := List.getElem?_of_mem hx2
  exact (hP j _ hj).lt
section XR
variable {l : Launch} {E : Ev} {own : String} {cc : ByteArray} {nL : Nat} {rt : Option FieldType} {tb : List ExceptionTableEntry} {R : Room} {Qf : List Frame → Array Value → State → State → Prop} {k n : Nat} {pc : Nat} {ls : List (Option Value)} {st : List Value} {M : Mm}
theorem j_xldN {t N j : Nat} (d : decode cc pc = .ok (.iaload, 1)) (hv : nx E t = 1) (hc : cv E M t 0 = .inl (eY E (kd t).1, (kd t).2, .inl (mI M t))) (hk : kd t = (0, N)) (hN : N < 2 ^ 31) (hj : j < N) (kk : Jd l E own cc nL rt tb R Qf k n (pc + 1) ls (.int (mI M t j) :: st) M) : Jd l E own cc nL rt tb R Qf k n pc ls (.int (nI j) :: .ref (eA E t 0) :: st) M := j_aildE j d hv hc hk rfl hj hN kk
theorem j_xstN {t N j : Nat} {v : Int32} (d : decode cc pc = .ok (.iastore, 1)) (hv : nx E t = 1) (hc : ∀ M : Mm, cv E M t 0 = .inl (eY E (kd t).1, (kd t).2, .inl (mI M t))) (hk : kd t = (0, N)) (hN : N < 2 ^ 31) (hj : j < N) (kk : Jd l E own cc nL rt tb R Qf k n (pc + 1) ls st (sI M t (upd (mI M t) j v))) : Jd l E own cc nL rt tb R Qf k n pc ls (.int v :: .int (nI j) :: .ref (eA E t 0) :: st) M := j_aistE j d hv hc hk rfl hj hN rfl kk
/-- the end of a method that made the two rows -/
theorem j_iretS {a b : Nat} {v : Int32} {ty : FieldType} {mc ms : Nat} {post : Option Value → Mm → Prop} (M0 : Mm) (h0 : eN E = 0) (ha : a ∉ eL E) (hb9 : b ∉ eL E) (d : decode cc pc = .ok (.ireturn, 1)) (hr : rt = some ty) (hn : narrow ty (.int v) = .int v) (hk : k ≤ mc) (hn9 : n ≤ ms) (hp : post (some (.int v)) (rsT M0 M)) : Jd l (exA E a b) own cc nL rt tb R (QfN E post mc ms) k n pc ls [.int v] M := by
  intro p e s m args below meth c C H locs lsr hP hS hl
  have hr2 := C.2.2.1.trans hr
  have hlocks := C.2.2.2.2.2.2.1
  refine W.widen hk hn9 ?_
  exact W.zret C.1 C.2.1 hr2 hn (qn_of (E := E) (M := rsT M0 M) hp (P_out h0 ha hb9 M0 M hP) hS) hS.2.2 d
/-- the two rows made -/
theorem j_two {post : Option Value → Mm → Prop} {mc ms : Nat} {o0 o1 o2 : Option Value} (h0 : eN E = 0) (hR : 2 ≤ R.cells ∧ 18 ≤ R.slots) (h2 : nc o2 = true)
    (kk : ∀ a b : Nat, a ∉ eL E → b ∉ eL E → Jd l (exA E a b) RL cL_sound 8 (some .boolean) [] R (QfN E post mc ms) 2 18 11 [o0, o1, o2, some (.ref (eA (exA E a b) 14 0)), some (.ref (eA (exA E a b) 15 0)), none, none, none] [] (zzT M)) : Jd l E RL cL_sound 8 (some .boolean) [] R (QfN E post mc ms) 0 0 0 [o0, o1, o2, none, none, none, none, none] [] M := by
  intro p e s m args below meth c C H locs lsr hP hS hl
  obtain ⟨hx, hb, hr, hml, hown, hts, hlk, hK, hB, hE, hX, htb⟩ := id C
  have hyn : ∀ cA : ClassId, s.vm.findClass ("[" ++ FieldType.int.toString) = some cA → cA = eY E 0 := fun cA hc => Option.some.inj (hc.symm.trans ((hK.2 0 (eY E 0, .int) rfl).2))
  refine lv_bipush hx hb dL_sound_0 (show (Int8.ofInt 6).toInt32 = nI 6 from rfl) ?_
  refine va_newaK (atype := .int) (N := 6) hx hb (hts _ ar_int) rfl dL_sound_2 rfl (by decide) (by decide) (by decide) (by omega) (by omega) rfl fun H1 cA e1 z1 ho1 hAr hNm => ?_
  obtain rfl := hyn cA hNm
  refine lv_astore_n hx hb dL_sound_4 rfl hl (by decide) rfl (fun lsr2 hl2 => ?_)
  have g1 := lp_set1 (ls := [o0, o1, o2, none, none, none, none, none]) (i := 3) h2 hl2
  refine lv_bipush hx hb dL_sound_5 (show (Int8.ofInt 12).toInt32 = nI 12 from rfl) ?_
  refine va_newaK (atype := .int) (N := 12) hx hb (hts _ ar_int) rfl dL_sound_7 rfl (by decide) (by decide) (by decide) (by omega) (by omega) z1 fun H2 cB f1 y1 p1 gAr gNm => ?_
  obtain rfl := hyn cB gNm
  refine lv_astore hx hb dL_sound_9 g1 (by decide) rfl (fun lsr3 hl3 => ?_)
  have hs9 := hS.1
  have ha : H.size ∉ eL E := fun z => Nat.lt_irrefl _ (P_lt hP z)
  have hb9 : H.size + 1 ∉ eL E := fun z => by have := P_lt hP z; omega
  have hP2 : va_P (eG E) vwCl (wd E M) H2 := hP.kept (fun k9 q9 hk9 => by
    have h1 := (hP k9 q9 hk9).lt
    rw [p1 q9.1 (by omega), ho1 q9.1 h1])
  have hS2 : va_S (eF E) s.heap H2 locs := ⟨by omega, fun x h1 h2 => by rw [p1 x (by omega), ho1 x (by omega)]; exact hS.2.1 x h1 h2, hS.2.2⟩
  have e6 : H2[H.size]? = some (vp_cell (eY E 0) (6, .inl fun _ => 0)) := by rw [p1 _ (by omega), e1, vp_cell_i]; rfl
  have e12 : H2[H.size + 1]? = some (vp_cell (eY E 0) (12, .inl fun _ => 0)) := by rw [f1, vp_cell_i]; rfl
  have hL := lay_e hE h0 ha hb9 (by omega) (by omega) (by omega)
  refine kk H.size (H.size + 1) ha hb9 p e s m args below meth c ⟨hx, hb, hr, hml, hown, hts, hlk, hK, hB, hL, hX, htb⟩ H2 locs lsr3 (P_in h0 ha hb9 (by omega) M hP2 e6 e12) hS2 ?_
  exact lp_set1 (ls := [o0, o1, o2, some (.ref H.size), none, none, none, none]) (i := 4) rfl hl3
end XR
