/-! the start: where the things lie -/
def offL : Nat → Nat := fun i => if i < 13 then 35 + 4 * i else if i = 13 then 14 else 18
def offC : Nat → Nat := fun i => if i < 15 then offL i + 1 else if i < 19 then 23 + 2 * (i - 15) else 95 + 2 * (i - 19)
def off9 (t i : Nat) : Nat := match t with
  | 0 => 0
  | 1 => 1
  | 2 => 2
  | 3 => 3
  | 4 => 22
  | 5 => 87
  | 10 => 13
  | 11 => 89
  | 20 => 4
  | 21 => 5
  | 22 => 6
  | 23 => 7
  | 24 => 8
  | 25 => 9
  | 26 => 10
  | 27 => 11
  | 28 => 12
  | 29 => 31
  | 30 => 32
  | 31 => 33
  | 32 => 34
  | 33 => 88
  | 34 => 90
  | 35 => 91
  | 36 => 92
  | 37 => 93
  | 38 => 94
  | 6 => offL i
  | 7 => offC i
  | 8 => offC i + 1
  | 9 => offL i + 3
  | t => 107 + t
def tgL : List (Nat × Nat) := [(0, 0), (1, 0), (2, 0), (3, 0), (20, 0), (21, 0), (22, 0), (23, 0), (24, 0), (25, 0), (26, 0), (27, 0), (28, 0), (10, 0), (6, 13), (7, 13), (8, 13), (9, 13), (6, 14), (7, 14), (8, 14), (9, 14), (4, 0), (7, 15), (8, 15), (7, 16), (8, 16), (7, 17), (8, 17), (7, 18), (8, 18), (29, 0), (30, 0), (31, 0), (32, 0), (6, 0), (7, 0), (8, 0), (9, 0), (6, 1), (7, 1), (8, 1), (9, 1), (6, 2), (7, 2), (8, 2), (9, 2), (6, 3), (7, 3), (8, 3), (9, 3), (6, 4), (7, 4), (8, 4), (9, 4), (6, 5), (7, 5), (8, 5), (9, 5), (6, 6), (7, 6), (8, 6), (9, 6), (6, 7), (7, 7), (8, 7), (9, 7), (6, 8), (7, 8), (8, 8), (9, 8), (6, 9), (7, 9), (8, 9), (9, 9), (6, 10), (7, 10), (8, 10), (9, 10), (6, 11), (7, 11), (8, 11), (9, 11), (6, 12), (7, 12), (8, 12), (9, 12), (5, 0), (33, 0), (11, 0), (34, 0), (35, 0), (36, 0), (37, 0), (38, 0), (7, 19), (8, 19), (7, 20), (8, 20), (7, 21), (8, 21), (7, 22), (8, 22), (7, 23), (8, 23), (7, 24), (8, 24)]
def tg9 (j : Nat) : Nat × Nat := tgL.getD j (13, 0)
def E09 (lo : Nat) (D : va_G) (y : Nat → ClassId) : Ev := (fun t i => lo + off9 t i, fun a => if lo ≤ a then tg9 (a - lo) else (13, 0), (List.range 107).map (fun j => lo + j), D, y, lo, 0)
theorem nx_9 (lo : Nat) (D : va_G) (y : Nat → ClassId) (t : Nat) : nx (E09 lo D y) t = nv t := by
  unfold nx
  split <;> rfl
theorem ly_1 : ∀ t, t < 39 → ∀ i, i < 25 → i < nv t → off9 t i < 107 ∧ tg9 (off9 t i) = (t, i) := by decide +kernel
theorem ly_2 : ∀ j, j < 107 → (tg9 j).2 < nv (tg9 j).1 ∧ off9 (tg9 j).1 (tg9 j).2 = j := by decide +kernel
theorem ly_3 : ∀ t, t < 39 → nv t ≤ 25 := by decide +kernel
theorem ly_4 {t i : Nat} (h : i < nv t) : t < 39 ∧ i < 25 := by
  by_cases c : t < 39
  · exact ⟨c, Nat.lt_of_lt_of_le h (ly_3 t c)⟩
  · exfalso
    unfold nv at h
    split at h
    all_goals first | omega | (rw [if_neg c] at h; omega)
theorem ly_5 {j : Nat} (h : ¬ j < 107) : tg9 j = (13, 0) := by
  unfold tg9
  rw [List.getD_eq_getElem?_getD, List.getElem?_eq_none (by show 107 ≤ j; omega)]
  rfl
theorem lay_ok (lo : Nat) (D : va_G) (y : Nat → ClassId) : LayOK (E09 lo D y) := by
  have hA : ∀ t i, eA (E09 lo D y) t i = lo + off9 t i := fun _ _ => rfl
  have hT : ∀ j, eT (E09 lo D y) (lo + j) = tg9 j := fun j => by
    show (if lo ≤ lo + j then tg9 (lo + j - lo) else (13, 0)) = _
    rw [if_pos (Nat.le_add_right _ _), Nat.add_sub_cancel_left]
  refine ⟨fun t i hi => ?_, fun a ha => ?_, ?_, fun a ha => ?_⟩
  · rw [nx_9] at hi
    obtain ⟨h1, h2⟩ := ly_4 hi
    obtain ⟨h3, h4⟩ := ly_1 t h1 i h2 hi
    rw [hA, hT, h4]
    exact ⟨List.mem_map.mpr ⟨_, List.mem_range.mpr h3, rfl⟩, rfl⟩
  · rw [nx_9] at ha
    by_cases c : lo ≤ a
    · obtain ⟨j, rfl⟩ : ∃ j, a = lo + j := ⟨a - lo, by omega⟩
      rw [hT] at ha ⊢
      by_cases g : j < 107
      · rw [hA, (ly_2 j g).2]
      · rw [ly_5 g] at ha; exact absurd ha (by decide)
    · have : eT (E09 lo D y) a = (13, 0) := if_neg c
      rw [this] at ha; exact absurd ha (by decide)
  · exact List.pairwise_map.mpr (List.nodup_range.imp fun h e => h (Nat.add_left_cancel e))
  · obtain ⟨j, -, rfl⟩ := List.mem_map.mp ha
    exact Nat.le_add_right _ _
/-- the memory at the start -/
def M09 : Mm := (fun _ _ => 0, fun _ _ => 0, fun _ _ => 0, fun _ => 0, 0)
/-- the heap's picture at the loop's head -/
def fE9 (E : Ev) : Nat → va_E := FX9 E (fun _ => .inr (0, [])) 0 1
section FE
variable (lo : Nat) (D : va_G) (y : Nat → ClassId)
set_option maxRecDepth 100000 in
theorem fe_0 : fE9 (E09 lo D y) 0 = cv (E09 lo D y) M09 0 0 := rfl
set_option maxRecDepth 100000 in
theorem fe_1 : fE9 (E09 lo D y) 1 = cv (E09 lo D y) M09 1 0 := rfl
set_option maxRecDepth 100000 in
theorem fe_2 : fE9 (E09 lo D y) 2 = cv (E09 lo D y) M09 2 0 := rfl
set_option maxRecDepth 100000 in
theorem fe_3 : fE9 (E09 lo D y) 3 = cv (E09 lo D y) M09 3 0 := rfl
set_option maxRecDepth 100000 in
theorem fe_4 : fE9 (E09 lo D y) 4 = cv (E09 lo D y) M09 20 0 := rfl
set_option maxRecDepth 100000 in
theorem fe_5 : fE9 (E09 lo D y) 5 = cv (E09 lo D y) M09 21 0 := rfl
set_option maxRecDepth 100000 in
theorem fe_6 : fE9 (E09 lo D y) 6 = cv (E09 lo D y) M09 22 0 := rfl
set_option maxRecDepth 100000 in
theorem fe_7 : fE9 (E09 lo D y) 7 = cv (E09 lo D y) M09 23 0 := rfl
set_option maxRecDepth 100000 in
theorem fe_8 : fE9 (E09 lo D y) 8 = cv (E09 lo D y) M09 24 0 := rfl
set_option maxRecDepth 100000 in
theorem fe_9 : fE9 (E09 lo D y) 9 = cv (E09 lo D y) M09 25 0 := rfl
set_option maxRecDepth 100000 in
theorem fe_10 : fE9 (E09 lo D y) 10 = cv (E09 lo D y) M09 26 0 := rfl
set_option maxRecDepth 100000 in
theorem fe_11 : fE9 (E09 lo D y) 11 = cv (E09 lo D y) M09 27 0 := rfl
set_option maxRecDepth 100000 in
theorem fe_12 : fE9 (E09 lo D y) 12 = cv (E09 lo D y) M09 28 0 := rfl
set_option maxRecDepth 100000 in
theorem fe_14 : fE9 (E09 lo D y) 14 = cv (E09 lo D y) M09 6 13 := rfl
set_option maxRecDepth 100000 in
theorem fe_15 : fE9 (E09 lo D y) 15 = cv (E09 lo D y) M09 7 13 := rfl
set_option maxRecDepth 100000 in
theorem fe_16 : fE9 (E09 lo D y) 16 = cv (E09 lo D y) M09 8 13 := rfl
set_option maxRecDepth 100000 in
theorem fe_17 : fE9 (E09 lo D y) 17 = cv (E09 lo D y) M09 9 13 := rfl
set_option maxRecDepth 100000 in
theorem fe_18 : fE9 (E09 lo D y) 18 = cv (E09 lo D y) M09 6 14 := rfl
set_option maxRecDepth 100000 in
theorem fe_19 : fE9 (E09 lo D y) 19 = cv (E09 lo D y) M09 7 14 := rfl
set_option maxRecDepth 100000 in
theorem fe_20 : fE9 (E09 lo D y) 20 = cv (E09 lo D y) M09 8 14 := rfl
set_option maxRecDepth 100000 in
theorem fe_21 : fE9 (E09 lo D y) 21 = cv (E09 lo D y) M09 9 14 := rfl
set_option maxRecDepth 100000 in
theorem fe_22 : fE9 (E09 lo D y) 22 = cv (E09 lo D y) M09 4 0 := rfl
set_option maxRecDepth 100000 in
theorem fe_23 : fE9 (E09 lo D y) 23 = cv (E09 lo D y) M09 7 15 := rfl
set_option maxRecDepth 100000 in
theorem fe_24 : fE9 (E09 lo D y) 24 = cv (E09 lo D y) M09 8 15 := rfl
set_option maxRecDepth 100000 in
theorem fe_25 : fE9 (E09 lo D y) 25 = cv (E09 lo D y) M09 7 16 := rfl
set_option maxRecDepth 100000 in
theorem fe_26 : fE9 (E09 lo D y) 26 = cv (E09 lo D y) M09 8 16 := rfl
set_option maxRecDepth 100000 in
theorem fe_27 : fE9 (E09 lo D y) 27 = cv (E09 lo D y) M09 7 17 := rfl
set_option maxRecDepth 100000 in
theorem fe_28 : fE9 (E09 lo D y) 28 = cv (E09 lo D y) M09 8 17 := rfl
set_option maxRecDepth 100000 in
theorem fe_29 : fE9 (E09 lo D y) 29 = cv (E09 lo D y) M09 7 18 := rfl
set_option maxRecDepth 100000 in
theorem fe_30 : fE9 (E09 lo D y) 30 = cv (E09 lo D y) M09 8 18 := rfl
set_option maxRecDepth 100000 in
theorem fe_31 : fE9 (E09 lo D y) 31 = cv (E09 lo D y) M09 29 0 := rfl
set_option maxRecDepth 100000 in
theorem fe_32 : fE9 (E09 lo D y) 32 = cv (E09 lo D y) M09 30 0 := rfl
set_option maxRecDepth 100000 in
theorem fe_33 : fE9 (E09 lo D y) 33 = cv (E09 lo D y) M09 31 0 := rfl
set_option maxRecDepth 100000 in
theorem fe_34 : fE9 (E09 lo D y) 34 = cv (E09 lo D y) M09 32 0 := rfl
set_option maxRecDepth 100000 in
theorem fe_35 : fE9 (E09 lo D y) 35 = cv (E09 lo D y) M09 6 0 := rfl
set_option maxRecDepth 100000 in
theorem fe_36 : fE9 (E09 lo D y) 36 = cv (E09 lo D y) M09 7 0 := rfl
set_option maxRecDepth 100000 in
theorem fe_37 : fE9 (E09 lo D y) 37 = cv (E09 lo D y) M09 8 0 := rfl
set_option maxRecDepth 100000 in
theorem fe_38 : fE9 (E09 lo D y) 38 = cv (E09 lo D y) M09 9 0 := rfl
set_option maxRecDepth 100000 in
theorem fe_39 : fE9 (E09 lo D y) 39 = cv (E09 lo D y) M09 6 1 := rfl
set_option maxRecDepth 100000 in
theorem fe_40 : fE9 (E09 lo D y) 40 = cv (E09 lo D y) M09 7 1 := rfl
set_option maxRecDepth 100000 in
theorem fe_41 : fE9 (E09 lo D y) 41 = cv (E09 lo D y) M09 8 1 := rfl
set_option maxRecDepth 100000 in
theorem fe_42 : fE9 (E09 lo D y) 42 = cv (E09 lo D y) M09 9 1 := rfl
set_option maxRecDepth 100000 in
theorem fe_43 : fE9 (E09 lo D y) 43 = cv (E09 lo D y) M09 6 2 := rfl
set_option maxRecDepth 100000 in
theorem fe_44 : fE9 (E09 lo D y) 44 = cv (E09 lo D y) M09 7 2 := rfl
set_option maxRecDepth 100000 in
theorem fe_45 : fE9 (E09 lo D y) 45 = cv (E09 lo D y) M09 8 2 := rfl
set_option maxRecDepth 100000 in
theorem fe_46 : fE9 (E09 lo D y) 46 = cv (E09 lo D y) M09 9 2 := rfl
set_option maxRecDepth 100000 in
theorem fe_47 : fE9 (E09 lo D y) 47 = cv (E09 lo D y) M09 6 3 := rfl
set_option maxRecDepth 100000 in
theorem fe_48 : fE9 (E09 lo D y) 48 = cv (E09 lo D y) M09 7 3 := rfl
set_option maxRecDepth 100000 in
theorem fe_49 : fE9 (E09 lo D y) 49 = cv (E09 lo D y) M09 8 3 := rfl
set_option maxRecDepth 100000 in
theorem fe_50 : fE9 (E09 lo D y) 50 = cv (E09 lo D y) M09 9 3 := rfl
set_option maxRecDepth 100000 in
theorem fe_51 : fE9 (E09 lo D y) 51 = cv (E09 lo D y) M09 6 4 := rfl
set_option maxRecDepth 100000 in
theorem fe_52 : fE9 (E09 lo D y) 52 = cv (E09 lo D y) M09 7 4 := rfl
set_option maxRecDepth 100000 in
theorem fe_53 : fE9 (E09 lo D y) 53 = cv (E09 lo D y) M09 8 4 := rfl
set_option maxRecDepth 100000 in
theorem fe_54 : fE9 (E09 lo D y) 54 = cv (E09 lo D y) M09 9 4 := rfl
set_option maxRecDepth 100000 in
theorem fe_55 : fE9 (E09 lo D y) 55 = cv (E09 lo D y) M09 6 5 := rfl
set_option maxRecDepth 100000 in
theorem fe_56 : fE9 (E09 lo D y) 56 = cv (E09 lo D y) M09 7 5 := rfl
set_option maxRecDepth 100000 in
theorem fe_57 : fE9 (E09 lo D y) 57 = cv (E09 lo D y) M09 8 5 := rfl
set_option maxRecDepth 100000 in
theorem fe_58 : fE9 (E09 lo D y) 58 = cv (E09 lo D y) M09 9 5 := rfl
set_option maxRecDepth 100000 in
theorem fe_59 : fE9 (E09 lo D y) 59 = cv (E09 lo D y) M09 6 6 := rfl
set_option maxRecDepth 100000 in
theorem fe_60 : fE9 (E09 lo D y) 60 = cv (E09 lo D y) M09 7 6 := rfl
set_option maxRecDepth 100000 in
theorem fe_61 : fE9 (E09 lo D y) 61 = cv (E09 lo D y) M09 8 6 := rfl
set_option maxRecDepth 100000 in
theorem fe_62 : fE9 (E09 lo D y) 62 = cv (E09 lo D y) M09 9 6 := rfl
set_option maxRecDepth 100000 in
theorem fe_63 : fE9 (E09 lo D y) 63 = cv (E09 lo D y) M09 6 7 := rfl
set_option maxRecDepth 100000 in
theorem fe_64 : fE9 (E09 lo D y) 64 = cv (E09 lo D y) M09 7 7 := rfl
set_option maxRecDepth 100000 in
theorem fe_65 : fE9 (E09 lo D y) 65 = cv (E09 lo D y) M09 8 7 := rfl
set_option maxRecDepth 100000 in
theorem fe_66 : fE9 (E09 lo D y) 66 = cv (E09 lo D y) M09 9 7 := rfl
set_option maxRecDepth 100000 in
theorem fe_67 : fE9 (E09 lo D y) 67 = cv (E09 lo D y) M09 6 8 := rfl
set_option maxRecDepth 100000 in
theorem fe_68 : fE9 (E09 lo D y) 68 = cv (E09 lo D y) M09 7 8 := rfl
set_option maxRecDepth 100000 in
theorem fe_69 : fE9 (E09 lo D y) 69 = cv (E09 lo D y) M09 8 8 := rfl
set_option maxRecDepth 100000 in
theorem fe_70 : fE9 (E09 lo D y) 70 = cv (E09 lo D y) M09 9 8 := rfl
set_option maxRecDepth 100000 in
theorem fe_71 : fE9 (E09 lo D y) 71 = cv (E09 lo D y) M09 6 9 := rfl
set_option maxRecDepth 100000 in
theorem fe_72 : fE9 (E09 lo D y) 72 = cv (E09 lo D y) M09 7 9 := rfl
set_option maxRecDepth 100000 in
theorem fe_73 : fE9 (E09 lo D y) 73 = cv (E09 lo D y) M09 8 9 := rfl
set_option maxRecDepth 100000 in
theorem fe_74 : fE9 (E09 lo D y) 74 = cv (E09 lo D y) M09 9 9 := rfl
set_option maxRecDepth 100000 in
theorem fe_75 : fE9 (E09 lo D y) 75 = cv (E09 lo D y) M09 6 10 := rfl
set_option maxRecDepth 100000 in
theorem fe_76 : fE9 (E09 lo D y) 76 = cv (E09 lo D y) M09 7 10 := rfl
set_option maxRecDepth 100000 in
theorem fe_77 : fE9 (E09 lo D y) 77 = cv (E09 lo D y) M09 8 10 := rfl
set_option maxRecDepth 100000 in
theorem fe_78 : fE9 (E09 lo D y) 78 = cv (E09 lo D y) M09 9 10 := rfl
set_option maxRecDepth 100000 in
theorem fe_79 : fE9 (E09 lo D y) 79 = cv (E09 lo D y) M09 6 11 := rfl
set_option maxRecDepth 100000 in
theorem fe_80 : fE9 (E09 lo D y) 80 = cv (E09 lo D y) M09 7 11 := rfl
set_option maxRecDepth 100000 in
theorem fe_81 : fE9 (E09 lo D y) 81 = cv (E09 lo D y) M09 8 11 := rfl
set_option maxRecDepth 100000 in
theorem fe_82 : fE9 (E09 lo D y) 82 = cv (E09 lo D y) M09 9 11 := rfl
set_option maxRecDepth 100000 in
theorem fe_83 : fE9 (E09 lo D y) 83 = cv (E09 lo D y) M09 6 12 := rfl
set_option maxRecDepth 100000 in
theorem fe_84 : fE9 (E09 lo D y) 84 = cv (E09 lo D y) M09 7 12 := rfl
set_option maxRecDepth 100000 in
theorem fe_85 : fE9 (E09 lo D y) 85 = cv (E09 lo D y) M09 8 12 := rfl
set_option maxRecDepth 100000 in
theorem fe_86 : fE9 (E09 lo D y) 86 = cv (E09 lo D y) M09 9 12 := rfl
set_option maxRecDepth 100000 in
theorem fe_87 : fE9 (E09 lo D y) 87 = cv (E09 lo D y) M09 5 0 := rfl
set_option maxRecDepth 100000 in
theorem fe_88 : fE9 (E09 lo D y) 88 = cv (E09 lo D y) M09 33 0 := rfl
set_option maxRecDepth 100000 in
theorem fe_90 : fE9 (E09 lo D y) 90 = cv (E09 lo D y) M09 34 0 := rfl
set_option maxRecDepth 100000 in
theorem fe_91 : fE9 (E09 lo D y) 91 = cv (E09 lo D y) M09 35 0 := rfl
set_option maxRecDepth 100000 in
theorem fe_92 : fE9 (E09 lo D y) 92 = cv (E09 lo D y) M09 36 0 := rfl
set_option maxRecDepth 100000 in
theorem fe_93 : fE9 (E09 lo D y) 93 = cv (E09 lo D y) M09 37 0 := rfl
set_option maxRecDepth 100000 in
theorem fe_94 : fE9 (E09 lo D y) 94 = cv (E09 lo D y) M09 38 0 := rfl
set_option maxRecDepth 100000 in
theorem fe_95 : fE9 (E09 lo D y) 95 = cv (E09 lo D y) M09 7 19 := rfl
set_option maxRecDepth 100000 in
theorem fe_96 : fE9 (E09 lo D y) 96 = cv (E09 lo D y) M09 8 19 := rfl
set_option maxRecDepth 100000 in
theorem fe_97 : fE9 (E09 lo D y) 97 = cv (E09 lo D y) M09 7 20 := rfl
set_option maxRecDepth 100000 in
theorem fe_98 : fE9 (E09 lo D y) 98 = cv (E09 lo D y) M09 8 20 := rfl
set_option maxRecDepth 100000 in
theorem fe_99 : fE9 (E09 lo D y) 99 = cv (E09 lo D y) M09 7 21 := rfl
set_option maxRecDepth 100000 in
theorem fe_100 : fE9 (E09 lo D y) 100 = cv (E09 lo D y) M09 8 21 := rfl
set_option maxRecDepth 100000 in
theorem fe_101 : fE9 (E09 lo D y) 101 = cv (E09 lo D y) M09 7 22 := rfl
set_option maxRecDepth 100000 in
theorem fe_102 : fE9 (E09 lo D y) 102 = cv (E09 lo D y) M09 8 22 := rfl
set_option maxRecDepth 100000 in
theorem fe_103 : fE9 (E09 lo D y) 103 = cv (E09 lo D y) M09 7 23 := rfl
set_option maxRecDepth 100000 in
theorem fe_104 : fE9 (E09 lo D y) 104 = cv (E09 lo D y) M09 8 23 := rfl
set_option maxRecDepth 100000 in
theorem fe_105 : fE9 (E09 lo D y) 105 = cv (E09 lo D y) M09 7 24 := rfl
set_option maxRecDepth 100000 in
theorem fe_106 : fE9 (E09 lo D y) 106 = cv (E09 lo D y) M09 8 24 := rfl
set_option maxRecDepth 100000 in
theorem fe_13 : fE9 (E09 lo D y) 13 = .inl (y 5, 13, .inr (.inr (.inr (.inr (rowT (E09 lo D y) 35 4 13))))) := rfl
set_option maxRecDepth 100000 in
theorem fe_89 : fE9 (E09 lo D y) 89 = .inl (y 6, 6, .inr (.inr (.inr (.inr (rowT (E09 lo D y) 95 2 6))))) := rfl
end FE
theorem arrV_c {c : ClassId} {N : Nat} {f g : Nat → Value} (h : ∀ j, j < N → f j = g j) : arrV c N f = arrV c N g := by
  unfold arrV
  congr 2
  funext j
  exact h j.val j.isLt
theorem row_at {c : ClassId} {N q : Nat} {f g : Nat → Option Nat} {D : va_G} {H : Heap} (h : ∀ j, j < N → f j = g j) (hP : va_at D vwCl (q, .inl (c, N, .inr (.inr (.inr (.inr f))))) H) : va_at D vwCl (q, .inl (c, N, .inr (.inr (.inr (.inr g))))) H := by
  have hP : H[q]? = some (arrV c N (fun j => va_rf (f j))) := hP
  show H[q]? = some (arrV c N (fun j => va_rf (g j)))
  rw [hP, arrV_c fun j hj => by rw [h j hj]]
theorem fe_13b (lo : Nat) (D : va_G) (y : Nat → ClassId) : ∀ j, j < 13 → rowT (E09 lo D y) 35 4 13 j = some (eA (E09 lo D y) 6 j) := by
  intro j hj
  unfold rowT
  rw [if_pos hj]
  show some (lo + (35 + 4 * j)) = some (lo + offL j)
  unfold offL
  rw [if_pos hj]
theorem fe_89b (lo : Nat) (D : va_G) (y : Nat → ClassId) : ∀ j, j < 6 → rowT (E09 lo D y) 95 2 6 j = some (eA (E09 lo D y) 7 (19 + j)) := by
  intro j hj
  unfold rowT
  rw [if_pos hj]
  show some (lo + (95 + 2 * j)) = some (lo + offC (19 + j))
  unfold offC
  rw [if_neg (by omega), if_neg (by omega), show 19 + j - 19 = j by omega]
theorem fe_all (lo : Nat) (D : va_G) (y : Nat → ClassId) (H : Heap) : ∀ k, k < 107 → va_at D vwCl (lo + k, fE9 (E09 lo D y) k) H → va_at D vwCl (lo + k, cv (E09 lo D y) M09 (tg9 k).1 (tg9 k).2) H := by
  intro k hk h
  match k, hk with
  | 0, _ => rw [fe_0] at h; exact h
  | 1, _ => rw [fe_1] at h; exact h
  | 2, _ => rw [fe_2] at h; exact h
  | 3, _ => rw [fe_3] at h; exact h
  | 4, _ => rw [fe_4] at h; exact h
  | 5, _ => rw [fe_5] at h; exact h
  | 6, _ => rw [fe_6] at h; exact h
  | 7, _ => rw [fe_7] at h; exact h
  | 8, _ => rw [fe_8] at h; exact h
  | 9, _ => rw [fe_9] at h; exact h
  | 10, _ => rw [fe_10] at h; exact h
  | 11, _ => rw [fe_11] at h; exact h
  | 12, _ => rw [fe_12] at h; exact h
  | 13, _ => rw [fe_13] at h; exact row_at (fe_13b lo D y) h
  | 14, _ => rw [fe_14] at h; exact h
  | 15, _ => rw [fe_15] at h; exact h
  | 16, _ => rw [fe_16] at h; exact h
  | 17, _ => rw [fe_17] at h; exact h
  | 18, _ => rw [fe_18] at h; exact h
  | 19, _ => rw [fe_19] at h; exact h
  | 20, _ => rw [fe_20] at h; exact h
  | 21, _ => rw [fe_21] at h; exact h
  | 22, _ => rw [fe_22] at h; exact h
  | 23, _ => rw [fe_23] at h; exact h
  | 24, _ => rw [fe_24] at h; exact h
  | 25, _ => rw [fe_25] at h; exact h
  | 26, _ => rw [fe_26] at h; exact h
  | 27, _ => rw [fe_27] at h; exact h
  | 28, _ => rw [fe_28] at h; exact h
  | 29, _ => rw [fe_29] at h; exact h
  | 30, _ => rw [fe_30] at h; exact h
  | 31, _ => rw [fe_31] at h; exact h
  | 32, _ => rw [fe_32] at h; exact h
  | 33, _ => rw [fe_33] at h; exact h
  | 34, _ => rw [fe_34] at h; exact h
  | 35, _ => rw [fe_35] at h; exact h
  | 36, _ => rw [fe_36] at h; exact h
  | 37, _ => rw [fe_37] at h; exact h
  | 38, _ => rw [fe_38] at h; exact h
  | 39, _ => rw [fe_39] at h; exact h
  | 40, _ => rw [fe_40] at h; exact h
  | 41, _ => rw [fe_41] at h; exact h
  | 42, _ => rw [fe_42] at h; exact h
  | 43, _ => rw [fe_43] at h; exact h
  | 44, _ => rw [fe_44] at h; exact h
  | 45, _ => rw [fe_45] at h; exact h
  | 46, _ => rw [fe_46] at h; exact h
  | 47, _ => rw [fe_47] at h; exact h
  | 48, _ => rw [fe_48] at h; exact h
  | 49, _ => rw [fe_49] at h; exact h
  | 50, _ => rw [fe_50] at h; exact h
  | 51, _ => rw [fe_51] at h; exact h
  | 52, _ => rw [fe_52] at h; exact h
  | 53, _ => rw [fe_53] at h; exact h
  | 54, _ => rw [fe_54] at h; exact h
  | 55, _ => rw [fe_55] at h; exact h
  | 56, _ => rw [fe_56] at h; exact h
  | 57, _ => rw [fe_57] at h; exact h
  | 58, _ => rw [fe_58] at h; exact h
  | 59, _ => rw [fe_59] at h; exact h
  | 60, _ => rw [fe_60] at h; exact h
  | 61, _ => rw [fe_61] at h; exact h
  | 62, _ => rw [fe_62] at h; exact h
  | 63, _ => rw [fe_63] at h; exact h
  | 64, _ => rw [fe_64] at h; exact h
  | 65, _ => rw [fe_65] at h; exact h
  | 66, _ => rw [fe_66] at h; exact h
  | 67, _ => rw [fe_67] at h; exact h
  | 68, _ => rw [fe_68] at h; exact h
  | 69, _ => rw [fe_69] at h; exact h
  | 70, _ => rw [fe_70] at h; exact h
  | 71, _ => rw [fe_71] at h; exact h
  | 72, _ => rw [fe_72] at h; exact h
  | 73, _ => rw [fe_73] at h; exact h
  | 74, _ => rw [fe_74] at h; exact h
  | 75, _ => rw [fe_75] at h; exact h
  | 76, _ => rw [fe_76] at h; exact h
  | 77, _ => rw [fe_77] at h; exact h
  | 78, _ => rw [fe_78] at h; exact h
  | 79, _ => rw [fe_79] at h; exact h
  | 80, _ => rw [fe_80] at h; exact h
  | 81, _ => rw [fe_81] at h; exact h
  | 82, _ => rw [fe_82] at h; exact h
  | 83, _ => rw [fe_83] at h; exact h
  | 84, _ => rw [fe_84] at h; exact h
  | 85, _ => rw [fe_85] at h; exact h
  | 86, _ => rw [fe_86] at h; exact h
  | 87, _ => rw [fe_87] at h; exact h
  | 88, _ => rw [fe_88] at h; exact h
  | 89, _ => rw [fe_89] at h; exact row_at (fe_89b lo D y) h
  | 90, _ => rw [fe_90] at h; exact h
  | 91, _ => rw [fe_91] at h; exact h
  | 92, _ => rw [fe_92] at h; exact h
  | 93, _ => rw [fe_93] at h; exact h
  | 94, _ => rw [fe_94] at h; exact h
  | 95, _ => rw [fe_95] at h; exact h
  | 96, _ => rw [fe_96] at h; exact h
  | 97, _ => rw [fe_97] at h; exact h
  | 98, _ => rw [fe_98] at h; exact h
  | 99, _ => rw [fe_99] at h; exact h
  | 100, _ => rw [fe_100] at h; exact h
  | 101, _ => rw [fe_101] at h; exact h
  | 102, _ => rw [fe_102] at h; exact h
  | 103, _ => rw [fe_103] at h; exact h
  | 104, _ => rw [fe_104] at h; exact h
  | 105, _ => rw [fe_105] at h; exact h
  | 106, _ => rw [fe_106] at h; exact h
  | k + 107, h9 => omega
theorem pic_wd {lo : Nat} {D : va_G} {y : Nat → ClassId} {H : Heap} (hP : Pic (E09 lo D y) 107 (fE9 (E09 lo D y)) H) : va_P (eG (E09 lo D y)) vwCl (wd (E09 lo D y) M09) H := by
  intro k q hk
  have hm := List.mem_of_getElem? hk
  obtain ⟨a, ha, rfl⟩ := List.mem_map.mp hm
  obtain ⟨j, hj, rfl⟩ := List.mem_map.mp ha
  have hj := List.mem_range.mp hj
  have hT : eT (E09 lo D y) (lo + j) = tg9 j := by
    show (if lo ≤ lo + j then tg9 (lo + j - lo) else (13, 0)) = _
    rw [if_pos (Nat.le_add_right _ _), Nat.add_sub_cancel_left]
  have hF : Fm (E09 lo D y) M09 (lo + j) = cv (E09 lo D y) M09 (tg9 j).1 (tg9 j).2 := by
    unfold Fm
    rw [hT, if_pos (by rw [nx_9]; exact (ly_2 j hj).1)]
  show va_at D vwCl (lo + j, Fm (E09 lo D y) M09 (lo + j)) H
  rw [hF]
  exact fe_all lo D y H j hj (hP.2 j hj)
