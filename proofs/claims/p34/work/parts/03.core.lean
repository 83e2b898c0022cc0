/-! THE MEMORY: what the cells of the class hold, by tags; the walk's judgement over it -/
/-- ints by tag and slot; layers of cells; makers of bodies; longs by tag; the double -/
abbrev Mm : Type := (Nat → Nat → Int32) × (Nat → Nat → Int64) × (Nat → Nat → Int64) × (Nat → Int64) × UInt64
abbrev mI (M : Mm) : Nat → Nat → Int32 := M.1
abbrev mL (M : Mm) : Nat → Nat → Int64 := M.2.1
abbrev mK (M : Mm) : Nat → Nat → Int64 := M.2.2.1
abbrev mW (M : Mm) : Nat → Int64 := M.2.2.2.1
abbrev mD (M : Mm) : UInt64 := M.2.2.2.2
def sI (M : Mm) (t : Nat) (f : Nat → Int32) : Mm := (fun t' => if t' = t then f else M.1 t', M.2)
def sL (M : Mm) (c : Nat) (f : Nat → Int64) : Mm := (M.1, fun c' => if c' = c then f else M.2.1 c', M.2.2)
def sK (M : Mm) (b : Nat) (f : Nat → Int64) : Mm := (M.1, M.2.1, fun b' => if b' = b then f else M.2.2.1 b', M.2.2.2)
def sW (M : Mm) (t : Nat) (v : Int64) : Mm := (M.1, M.2.1, M.2.2.1, fun t' => if t' = t then v else M.2.2.2.1 t', M.2.2.2.2)
def sD (M : Mm) (v : UInt64) : Mm := (M.1, M.2.1, M.2.2.1, M.2.2.2.1, v)
/-- the surroundings: addresses by tag and place, tags by address, the addresses, class numbers, array classes, where the world begins, whether the law's two rows stand -/
abbrev Ev : Type := (Nat → Nat → Nat) × (Nat → Nat × Nat) × List Nat × va_G × (Nat → ClassId) × Nat × Nat
abbrev eA (E : Ev) : Nat → Nat → Nat := E.1
abbrev eT (E : Ev) : Nat → Nat × Nat := E.2.1
abbrev eL (E : Ev) : List Nat := E.2.2.1
abbrev eG (E : Ev) : va_G := E.2.2.2.1
abbrev eY (E : Ev) : Nat → ClassId := E.2.2.2.2.1
abbrev eB (E : Ev) : Nat := E.2.2.2.2.2.1
abbrev eN (E : Ev) : Nat := E.2.2.2.2.2.2
/-- an int array's class (0 int, 2 boolean, 3 char) and length, by its tag -/
def kd (t : Nat) : Nat × Nat := match t with
  | 14 => (0, 6) | 15 => (0, 12)
  | 20 => (0, 8) | 21 => (3, 8) | 22 => (0, 8) | 23 => (0, 8) | 24 => (0, 12) | 25 => (3, 40) | 26 => (0, 240) | 27 => (2, 40)
  | 28 => (3, 40) | 29 => (0, 6) | 30 => (0, 12) | 31 => (2, 12) | 32 => (0, 72)
  | 33 => (2, 6) | 34 => (0, 18) | 35 => (0, 12) | 36 => (0, 12) | 37 => (0, 12) | 38 => (0, 12) | _ => (2, 512)
/-- how many things there are of a tag -/
def nv (t : Nat) : Nat := match t with
  | 6 => 15 | 9 => 15 | 7 => 25 | 8 => 25 | 12 => 0 | 13 => 0 | 14 => 0 | 15 => 0 | 16 => 0 | 17 => 0 | 18 => 0 | 19 => 0 | _ => if t < 39 then 1 else 0
/-- .. with the law's two rows, where they stand -/
def nx (E : Ev) (t : Nat) : Nat := match t with
  | 14 => eN E | 15 => eN E | t => nv t
theorem lt_nx {E : Ev} {t i : Nat} (h : i < nv t) : i < nx E t := by
  unfold nx
  split
  · exact absurd h (Nat.not_lt_zero _)
  · exact absurd h (Nat.not_lt_zero _)
  · exact h
theorem nx1 {E : Ev} {t : Nat} (h : nv t = 1) : nx E t = 1 := by
  unfold nx
  split
  · exact absurd h (by decide)
  · exact absurd h (by decide)
  · exact h
/-- what the cell of a tag and place holds -/
def cv (E : Ev) (M : Mm) (t i : Nat) : va_E := match t with
  | 0 => .inr (9, [.ref (eA E 1 0), .ref (eA E 5 0)])
  | 1 => .inr (5, [.ref (eA E 2 0), .ref (eA E 28 0), .long (mW M 0), .ref (eA E 10 0), .ref (eA E 6 13), .ref (eA E 6 14), .ref (eA E 4 0), .ref (eA E 29 0), .ref (eA E 30 0), .ref (eA E 31 0), .ref (eA E 32 0), .int (mI M 1 11)])
  | 2 => .inr (4, [.ref (eA E 3 0), .ref (eA E 24 0), .ref (eA E 25 0), .ref (eA E 26 0), .ref (eA E 27 0), .int (mI M 2 5), .int (mI M 2 6), .int (mI M 2 7)])
  | 3 => .inr (6, [.ref (eA E 20 0), .ref (eA E 21 0), .ref (eA E 22 0), .ref (eA E 23 0)])
  | 4 => .inr (8, [.ref (eA E 7 15), .ref (eA E 7 16), .ref (eA E 7 17), .ref (eA E 7 18)])
  | 5 => .inr (7, [.ref (eA E 33 0), .ref (eA E 11 0), .int (mI M 5 2), .int (mI M 5 3), .ref (eA E 34 0), .ref (eA E 35 0), .ref (eA E 36 0), .ref (eA E 37 0), .ref (eA E 38 0)])
  | 6 => .inr (2, [.ref (eA E 7 i), .ref (eA E 9 i)])
  | 7 => .inr (3, [.ref (eA E 8 i)])
  | 8 => .inl (eY E 1, 8, .inr (.inl (mL M i)))
  | 9 => .inl (eY E 1, 288, .inr (.inl (mK M i)))
  | 10 => .inl (eY E 5, 13, .inr (.inr (.inr (.inr (fun j => some (eA E 6 j))))))
  | 11 => .inl (eY E 6, 6, .inr (.inr (.inr (.inr (fun j => some (eA E 7 (19 + j)))))))
  | t => .inl (eY E (kd t).1, (kd t).2, .inl (mI M t))
def tysE (E : Ev) : List (ClassId × FieldType) := [(eY E 0, .int), (eY E 1, .long), (eY E 2, .boolean), (eY E 3, .char), (eY E 0, .int), (eY E 5, .object "Solidhearth$Body"), (eY E 6, .object "Solidhearth$Cells")]
/-- the addresses stand as they should -/
def LayOK (E : Ev) : Prop := (∀ t i, i < nx E t → eA E t i ∈ eL E ∧ eT E (eA E t i) = (t, i)) ∧ (∀ a, (eT E a).2 < nx E (eT E a).1 → eA E (eT E a).1 (eT E a).2 = a) ∧ (eL E).Nodup ∧ ∀ a ∈ eL E, eB E ≤ a
def Fm (E : Ev) (M : Mm) : Nat → va_E := fun a => if (eT E a).2 < nx E (eT E a).1 then cv E M (eT E a).1 (eT E a).2 else .inr (0, [])
theorem Fm_at {E : Ev} (hE : LayOK E) (M : Mm) {t i : Nat} (hi : i < nx E t) : Fm E M (eA E t i) = cv E M t i := by
  unfold Fm
  rw [(hE.1 t i hi).2, if_pos hi]
abbrev eF (E : Ev) : Nat → Prop := fun q => eB E ≤ q
/-- the world of a memory -/
abbrev wd (E : Ev) (M : Mm) : va_W := va_pl (eL E) (Fm E M)
theorem cv_sI {E : Ev} {M : Mm} {t : Nat} {f : Nat → Int32} {t' i : Nat} (h : t' ≠ t) : cv E (sI M t f) t' i = cv E M t' i := by
  unfold cv
  split <;> simp [sI, mI, mL, mK, mW, mD, h]
theorem cv_sL {E : Ev} {M : Mm} {c : Nat} {f : Nat → Int64} {t' i : Nat} (h : (t', i) ≠ (8, c)) : cv E (sL M c f) t' i = cv E M t' i := by
  unfold cv
  split <;> simp_all [sL, mI, mL, mK, mW, mD]
theorem cv_sK {E : Ev} {M : Mm} {c : Nat} {f : Nat → Int64} {t' i : Nat} (h : (t', i) ≠ (9, c)) : cv E (sK M c f) t' i = cv E M t' i := by
  unfold cv
  split <;> simp_all [sK, mI, mL, mK, mW, mD]
theorem Fm_up {E : Ev} {M M' : Mm} {t i : Nat} {e : va_E} (hE : LayOK E) (hi : i < nx E t) (h1 : cv E M' t i = e) (h2 : ∀ t' i', i' < nx E t' → (t', i') ≠ (t, i) → cv E M' t' i' = cv E M t' i') : va_up (Fm E M) (eA E t i) e = Fm E M' := by
  funext a
  by_cases ha : a = eA E t i
  · subst ha
    rw [va_up_self, Fm_at hE M' hi]
    exact h1.symm
  · rw [va_up_ne _ _ ha]
    unfold Fm
    by_cases hv : (eT E a).2 < nx E (eT E a).1
    · rw [if_pos hv, if_pos hv]
      refine (h2 _ _ hv fun q => ha ?_).symm
      have q1 : (eT E a).1 = t := congrArg Prod.fst q
      have q2 : (eT E a).2 = i := congrArg Prod.snd q
      have := hE.2.1 a hv
      rw [q1, q2] at this
      exact this.symm
    · rw [if_neg hv, if_neg hv]
theorem wd_D {E : Ev} (hE : LayOK E) (M : Mm) : va_D (eF E) (wd E M) := by
  obtain ⟨-, -, hn, hb⟩ := hE
  refine ⟨fun i j p q hi hj hpq => ?_, fun k q hk => ?_⟩
  · simp only [wd, va_pl, List.getElem?_map, Option.map_eq_some_iff] at hi hj
    obtain ⟨a, ha, rfl⟩ := hi
    obtain ⟨b, hb', rfl⟩ := hj
    dsimp only at hpq
    subst hpq
    have hil := (List.getElem?_eq_some_iff.mp ha).1
    exact (List.getElem?_inj hil hn).mp (ha.trans hb'.symm)
  · simp only [wd, va_pl, List.getElem?_map, Option.map_eq_some_iff] at hk
    obtain ⟨a, ha, rfl⟩ := hk
    exact hb a (List.mem_of_getElem? ha)
theorem wd_atE {E : Ev} (hE : LayOK E) (M : Mm) {t i : Nat} (hi : i < nx E t) : ∃ k : Nat, (wd E M)[k]? = some (eA E t i, cv E M t i) := by
  obtain ⟨k, hk⟩ := va_pl_get (X := []) (f := Fm E M) (hE.1 t i hi).1
  refine ⟨k, ?_⟩
  rw [List.nil_append] at hk
  rw [hk, Fm_at hE M hi]
theorem wd_setE {E : Ev} (hE : LayOK E) {M M' : Mm} {t i : Nat} (hi : i < nx E t) {k : Nat} (hk : (wd E M)[k]? = some (eA E t i, cv E M t i)) {e : va_E} (h1 : cv E M' t i = e) (h2 : ∀ t' i', i' < nx E t' → (t', i') ≠ (t, i) → cv E M' t' i' = cv E M t' i') : (wd E M).set k (eA E t i, e) = wd E M' := by
  have hk' : ([] ++ va_pl (eL E) (Fm E M))[k]? = some (eA E t i, Fm E M (eA E t i)) := by
    rw [List.nil_append]
    refine hk.trans ?_
    rw [Fm_at hE M hi]
  have h3 := va_pl_set (X := []) (L := eL E) (f := Fm E M) (e := e) (wd_D hE M) (hE.1 t i hi).1 hk'
  simp only [List.nil_append] at h3
  rw [h3, Fm_up hE hi h1 h2]
theorem wd_at {E : Ev} (hE : LayOK E) (M : Mm) {t i : Nat} (hi : i < nv t) : ∃ k : Nat, (wd E M)[k]? = some (eA E t i, cv E M t i) := wd_atE hE M (lt_nx hi)
theorem wd_set {E : Ev} (hE : LayOK E) {M M' : Mm} {t i : Nat} (hi : i < nv t) {k : Nat} (hk : (wd E M)[k]? = some (eA E t i, cv E M t i)) {e : va_E} (h1 : cv E M' t i = e) (h2 : ∀ t' i', i' < nx E t' → (t', i') ≠ (t, i) → cv E M' t' i' = cv E M t' i') : (wd E M).set k (eA E t i, e) = wd E M' := wd_setE hE (lt_nx hi) hk h1 h2
