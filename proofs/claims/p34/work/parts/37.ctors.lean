/-! the constructors -/
theorem upE_comm {g : Nat → va_E} {i n : Nat} {a b : va_E} (h : ¬ i = n) : upE (upE g i a) n b = upE (upE g n b) i a := by
  funext j
  rw [upE_at, upE_at, upE_at, upE_at]
  by_cases c : j = n
  · rw [if_pos c, if_neg (by omega), if_pos c]
  · rw [if_neg c, if_neg c]
theorem upE_over {g : Nat → va_E} {i : Nat} {a b : va_E} : upE (upE g i a) i b = upE g i b := by
  funext j
  rw [upE_at, upE_at, upE_at]
  by_cases c : j = i
  · rw [if_pos c, if_pos c]
  · rw [if_neg c, if_neg c, if_neg c]
theorem n_f {l : Launch} {E : Ev} {own : String} {nm : Method → Code → Prop} {cc : ByteArray} {nL : Nat} {rt : Option FieldType} {R : Room} {Qf : List Frame → Array Value → State → State → Prop} {k w : Nat} {pc : Nat} {ls : List (Option Value)} {st : List Value} {n n' : Nat} {f f' : Nat → va_E} (hn : n = n') (hf : f = f') (kk : Jn l E own nm cc nL rt R Qf k w pc ls st n' f') : Jn l E own nm cc nL rt R Qf k w pc ls st n f := by subst hn hf; exact kk
theorem n_ov {l : Launch} {E : Ev} {own : String} {nm : Method → Code → Prop} {cc : ByteArray} {nL : Nat} {rt : Option FieldType} {R : Room} {Qf : List Frame → Array Value → State → State → Prop} {k w : Nat} {pc : Nat} {ls : List (Option Value)} {st : List Value} {n i : Nat} {g : Nat → va_E} {a b b' : va_E} (hb : b = b') (kk : Jn l E own nm cc nL rt R Qf k w pc ls st n (upE g i b')) : Jn l E own nm cc nL rt R Qf k w pc ls st n (upE (upE g i a) i b) := by subst hb; rw [upE_over]; exact kk
theorem n_k {l : Launch} {E : Ev} {own : String} {nm : Method → Code → Prop} {cc : ByteArray} {nL : Nat} {rt : Option FieldType} {R : Room} {Qf : List Frame → Array Value → State → State → Prop} {k k' w w' : Nat} {pc : Nat} {ls : List (Option Value)} {st : List Value} {n : Nat} {f : Nat → va_E} (hk : k ≤ k') (hw : w ≤ w') (kk : Jn l E own nm cc nL rt R Qf k' w' pc ls st n f) : Jn l E own nm cc nL rt R Qf k w pc ls st n f := fun p e s m args below meth c C H locs lsr hP hS hl => W.widen hk hw (kk p e s m args below meth c C H locs lsr hP hS hl)
theorem ar_int : Cond.arrayClass .int ∈ wsG := (wg1 (i := 72) rfl rfl)
theorem ar_long : Cond.arrayClass .long ∈ wsG := (wg1 (i := 128) rfl rfl)
theorem ar_boolean : Cond.arrayClass .boolean ∈ wsG := (wg1 (i := 108) rfl rfl)
theorem ar_char : Cond.arrayClass .char ∈ wsG := (wg1 (i := 73) rfl rfl)
theorem ao_X0 : ∀ U : State, Nx U → va_AO RX0 U := fun _ h => h.2.1
theorem ao_X1 : ∀ U : State, Nx U → va_AO RX1 U := fun _ h => h.2.2
theorem in_X1 : Cond.instantiable RX1 1 ∈ wsG := (wg1 (i := 117) rfl rfl)
theorem ii_X1 : Cond.initialized RX1 ∈ wsG := (wg1 (i := 6) rfl rfl)
theorem mi_X1 : MfI yX1_init cX1_init 1 := ⟨⟨by decide +kernel, by decide +kernel, by decide +kernel⟩, rfl, (wg1 (i := 119) rfl rfl), ii_X1, (wg1 (i := 120) rfl rfl)⟩
theorem fd_X1 : ∀ j, j < 1 → defaultValue (tyX1 j) = vp_V [.null] j := by decide +kernel
theorem in_X5 : Cond.instantiable RX5 4 ∈ wsG := (wg1 (i := 50) rfl rfl)
theorem ii_X5 : Cond.initialized RX5 ∈ wsG := (wg1 (i := 4) rfl rfl)
theorem mi_X5 : MfI yX5_init cX5_init 1 := ⟨⟨by decide +kernel, by decide +kernel, by decide +kernel⟩, rfl, (wg1 (i := 52) rfl rfl), ii_X5, (wg1 (i := 53) rfl rfl)⟩
theorem fd_X5 : ∀ j, j < 4 → defaultValue (tyX5 j) = vp_V [.null, .null, .null, .null] j := by decide +kernel
theorem in_X0 : Cond.instantiable RX0 2 ∈ wsG := (wg1 (i := 111) rfl rfl)
theorem ii_X0 : Cond.initialized RX0 ∈ wsG := (wg1 (i := 5) rfl rfl)
theorem mi_X0 : MfI yX0_init cX0_init 1 := ⟨⟨by decide +kernel, by decide +kernel, by decide +kernel⟩, rfl, (wg1 (i := 113) rfl rfl), ii_X0, (wg1 (i := 114) rfl rfl)⟩
theorem fd_X0 : ∀ j, j < 2 → defaultValue (tyX0 j) = vp_V [.null, .null] j := by decide +kernel
theorem in_X2 : Cond.instantiable RX2 8 ∈ wsG := (wg1 (i := 44) rfl rfl)
theorem ii_X2 : Cond.initialized RX2 ∈ wsG := (wg1 (i := 3) rfl rfl)
theorem mi_X2 : MfI yX2_init cX2_init 1 := ⟨⟨by decide +kernel, by decide +kernel, by decide +kernel⟩, rfl, (wg1 (i := 46) rfl rfl), ii_X2, (wg1 (i := 47) rfl rfl)⟩
theorem fd_X2 : ∀ j, j < 8 → defaultValue (tyX2 j) = vp_V [.null, .null, .null, .null, .null, .int 0, .int 0, .int 0] j := by decide +kernel
theorem in_X8 : Cond.instantiable RX8 4 ∈ wsG := (wg1 (i := 140) rfl rfl)
theorem ii_X8 : Cond.initialized RX8 ∈ wsG := (wg1 (i := 7) rfl rfl)
theorem mi_X8 : MfI yX8_init cX8_init 1 := ⟨⟨by decide +kernel, by decide +kernel, by decide +kernel⟩, rfl, (wg1 (i := 142) rfl rfl), ii_X8, (wg1 (i := 143) rfl rfl)⟩
theorem fd_X8 : ∀ j, j < 4 → defaultValue (tyX8 j) = vp_V [.null, .null, .null, .null] j := by decide +kernel
theorem in_X6 : Cond.instantiable RX6 9 ∈ wsG := (wg1 (i := 201) rfl rfl)
theorem ii_X6 : Cond.initialized RX6 ∈ wsG := (wg1 (i := 8) rfl rfl)
theorem mi_X6 : MfI yX6_init cX6_init 2 := ⟨⟨by decide +kernel, by decide +kernel, by decide +kernel⟩, rfl, (wg1 (i := 203) rfl rfl), ii_X6, (wg1 (i := 204) rfl rfl)⟩
theorem fd_X6 : ∀ j, j < 9 → defaultValue (tyX6 j) = vp_V [.null, .null, .int 0, .int 0, .null, .null, .null, .null, .null] j := by decide +kernel
theorem in_X3 : Cond.instantiable RX3 12 ∈ wsG := (wg1 (i := 38) rfl rfl)
theorem ii_X3 : Cond.initialized RX3 ∈ wsG := (wg1 (i := 2) rfl rfl)
theorem mi_X3 : MfI yX3_init cX3_init 2 := ⟨⟨by decide +kernel, by decide +kernel, by decide +kernel⟩, rfl, (wg1 (i := 40) rfl rfl), ii_X3, (wg1 (i := 41) rfl rfl)⟩
theorem fd_X3 : ∀ j, j < 12 → defaultValue (tyX3 j) = vp_V [.null, .null, .long 0, .null, .null, .null, .null, .null, .null, .null, .null, .int 0] j := by decide +kernel
theorem in_X9 : Cond.instantiable RX9 2 ∈ wsG := (wg1 (i := 30) rfl rfl)
theorem ii_X9 : Cond.initialized RX9 ∈ wsG := (wg1 (i := 1) rfl rfl)
theorem mi_X9 : MfI yX9_init cX9_init 1 := ⟨⟨by decide +kernel, by decide +kernel, by decide +kernel⟩, rfl, (wg1 (i := 32) rfl rfl), ii_X9, (wg1 (i := 33) rfl rfl)⟩
theorem fd_X9 : ∀ j, j < 2 → defaultValue (tyX9 j) = vp_V [.null, .null] j := by decide +kernel
def FX1 (E : Ev) (g : Nat → va_E) (i n : Nat) : Nat → va_E := upE (upE g n (.inl (eY E 1, 8, .inr (.inl fun _ => 0)))) i (.inr (3, [.ref (eB E + n)]))
theorem FX1_c {E : Ev} {g : Nat → va_E} {i n a : Nat} {x : va_E} (h1 : ¬ a = i) (h2 : a < n ∨ n + 1 ≤ a) : FX1 E (upE g a x) i n = upE (FX1 E g i n) a x := by
  unfold FX1
  rw [upE_comm (i := a) (by omega), upE_comm (i := a) (by omega)]
theorem FX1_i {E : Ev} {g : Nat → va_E} {i n : Nat} : FX1 E g i n i = (.inr (3, [.ref (eB E + n)])) := upE_eq _ _ _
set_option maxRecDepth 100000 in
theorem cc_X1 {l : Launch} {E : Ev} {g : Nat → va_E} {i n : Nat} (hi : i < n) : Nt l E yX1_init cX1_init 1 1 1 8 (eB E + i) n (upE g i (.inr (3, [.null]))) (n + 1) (FX1 E g i n) := by
  refine Nt.of (own := RX1) rfl rfl [some (.ref (eB E + i))] (by decide) (Nat.le_of_ble_eq_true rfl) rfl ?_
  refine n_aln dX1_init_0 rfl rfl ?_
  refine n_obj (wg1 (i := 121) rfl rfl) dX1_init_1 (Nat.le_of_ble_eq_true rfl) (Nat.le_of_ble_eq_true rfl) ?_
  refine n_aln dX1_init_4 rfl rfl ?_
  refine n_bi 8 dX1_init_5 rfl ?_
  refine n_na (a0 := .inr (.inl fun _ => 0)) 1 ar_long rfl (fun _ h => h) rfl rfl (by decide) (by decide) (Nat.le_of_ble_eq_true rfl) (Nat.le_of_ble_eq_true rfl) dX1_init_7 ?_
  refine n_f (n' := (n + 1)) rfl (upE_comm (show ¬ i = n by omega)) ?_
  refine n_putF (i := i) (ci := 3) (ty0 := tyX1) 0 lays_X1 tyX1_ok nmX1 rfl (by omega) (upE_eq _ _ _) (by decide) (wg1 (i := 122) rfl rfl) rfl rfl rfl rfl rfl (Nat.le_of_ble_eq_true rfl) (fun _ _ h => h) dX1_init_9 ?_
  refine n_ov (b' := (.inr (3, [.ref (eB E + n)]))) rfl ?_
  exact n_vret dX1_init_12 rfl (Nat.le_of_ble_eq_true rfl) (Nat.le_of_ble_eq_true rfl) rfl rfl
def FX5 (E : Ev) (g : Nat → va_E) (i n : Nat) : Nat → va_E := upE (upE (upE (upE (upE g n (.inl (eY E 0, 8, .inl fun _ => 0))) (n + 1) (.inl (eY E 3, 8, .inl fun _ => 0))) (n + 2) (.inl (eY E 0, 8, .inl fun _ => 0))) (n + 3) (.inl (eY E 0, 8, .inl fun _ => 0))) i (.inr (6, [.ref (eB E + n), .ref (eB E + (n + 1)), .ref (eB E + (n + 2)), .ref (eB E + (n + 3))]))
theorem FX5_c {E : Ev} {g : Nat → va_E} {i n a : Nat} {x : va_E} (h1 : ¬ a = i) (h2 : a < n ∨ n + 4 ≤ a) : FX5 E (upE g a x) i n = upE (FX5 E g i n) a x := by
  unfold FX5
  rw [upE_comm (i := a) (by omega), upE_comm (i := a) (by omega), upE_comm (i := a) (by omega), upE_comm (i := a) (by omega), upE_comm (i := a) (by omega)]
theorem FX5_i {E : Ev} {g : Nat → va_E} {i n : Nat} : FX5 E g i n i = (.inr (6, [.ref (eB E + n), .ref (eB E + (n + 1)), .ref (eB E + (n + 2)), .ref (eB E + (n + 3))])) := upE_eq _ _ _
set_option maxRecDepth 100000 in
theorem cc_X5 {l : Launch} {E : Ev} {g : Nat → va_E} {i n : Nat} (hi : i < n) : Nt l E yX5_init cX5_init 1 1 4 32 (eB E + i) n (upE g i (.inr (6, [.null, .null, .null, .null]))) (n + 4) (FX5 E g i n) := by
  refine Nt.of (own := RX5) rfl rfl [some (.ref (eB E + i))] (by decide) (Nat.le_of_ble_eq_true rfl) rfl ?_
  refine n_aln dX5_init_0 rfl rfl ?_
  refine n_obj (wg1 (i := 54) rfl rfl) dX5_init_1 (Nat.le_of_ble_eq_true rfl) (Nat.le_of_ble_eq_true rfl) ?_
  refine n_aln dX5_init_4 rfl rfl ?_
  refine n_bi 8 dX5_init_5 rfl ?_
  refine n_na (a0 := .inl fun _ => 0) 0 ar_int rfl (fun _ h => h) rfl rfl (by decide) (by decide) (Nat.le_of_ble_eq_true rfl) (Nat.le_of_ble_eq_true rfl) dX5_init_7 ?_
  refine n_f (n' := (n + 1)) rfl (upE_comm (show ¬ i = n by omega)) ?_
  refine n_putF (i := i) (ci := 6) (ty0 := tyX5) 0 lays_X5 tyX5_ok nmX5 rfl (by omega) (upE_eq _ _ _) (by decide) (wg1 (i := 55) rfl rfl) rfl rfl rfl rfl rfl (Nat.le_of_ble_eq_true rfl) (fun _ _ h => h) dX5_init_9 ?_
  refine n_ov (b' := (.inr (6, [.ref (eB E + n), .null, .null, .null]))) rfl ?_
  refine n_aln dX5_init_12 rfl rfl ?_
  refine n_bi 8 dX5_init_13 rfl ?_
  refine n_na (a0 := .inl fun _ => 0) 3 ar_char rfl (fun _ h => h) rfl rfl (by decide) (by decide) (Nat.le_of_ble_eq_true rfl) (Nat.le_of_ble_eq_true rfl) dX5_init_15 ?_
  refine n_f (n' := (n + 2)) rfl (upE_comm (show ¬ i = (n + 1) by omega)) ?_
  refine n_putF (i := i) (ci := 6) (ty0 := tyX5) 1 lays_X5 tyX5_ok nmX5 rfl (by omega) (upE_eq _ _ _) (by decide) (wg1 (i := 57) rfl rfl) rfl rfl rfl rfl rfl (Nat.le_of_ble_eq_true rfl) (fun _ _ h => h) dX5_init_17 ?_
  refine n_ov (b' := (.inr (6, [.ref (eB E + n), .ref (eB E + (n + 1)), .null, .null]))) rfl ?_
  refine n_aln dX5_init_20 rfl rfl ?_
  refine n_bi 8 dX5_init_21 rfl ?_
  refine n_na (a0 := .inl fun _ => 0) 0 ar_int rfl (fun _ h => h) rfl rfl (by decide) (by decide) (Nat.le_of_ble_eq_true rfl) (Nat.le_of_ble_eq_true rfl) dX5_init_23 ?_
  refine n_f (n' := (n + 3)) rfl (upE_comm (show ¬ i = (n + 2) by omega)) ?_
  refine n_putF (i := i) (ci := 6) (ty0 := tyX5) 2 lays_X5 tyX5_ok nmX5 rfl (by omega) (upE_eq _ _ _) (by decide) (wg1 (i := 59) rfl rfl) rfl rfl rfl rfl rfl (Nat.le_of_ble_eq_true rfl) (fun _ _ h => h) dX5_init_25 ?_
  refine n_ov (b' := (.inr (6, [.ref (eB E + n), .ref (eB E + (n + 1)), .ref (eB E + (n + 2)), .null]))) rfl ?_
  refine n_aln dX5_init_28 rfl rfl ?_
  refine n_bi 8 dX5_init_29 rfl ?_
  refine n_na (a0 := .inl fun _ => 0) 0 ar_int rfl (fun _ h => h) rfl rfl (by decide) (by decide) (Nat.le_of_ble_eq_true rfl) (Nat.le_of_ble_eq_true rfl) dX5_init_31 ?_
  refine n_f (n' := (n + 4)) rfl (upE_comm (show ¬ i = (n + 3) by omega)) ?_
  refine n_putF (i := i) (ci := 6) (ty0 := tyX5) 3 lays_X5 tyX5_ok nmX5 rfl (by omega) (upE_eq _ _ _) (by decide) (wg1 (i := 61) rfl rfl) rfl rfl rfl rfl rfl (Nat.le_of_ble_eq_true rfl) (fun _ _ h => h) dX5_init_33 ?_
  refine n_ov (b' := (.inr (6, [.ref (eB E + n), .ref (eB E + (n + 1)), .ref (eB E + (n + 2)), .ref (eB E + (n + 3))]))) rfl ?_
  exact n_vret dX5_init_36 rfl (Nat.le_of_ble_eq_true rfl) (Nat.le_of_ble_eq_true rfl) rfl rfl
/-- a row of things that were made one behind the other -/
def rowT (E : Ev) (n1 d p : Nat) : Nat → Option Nat := fun j => if j < p then some (eB E + (n1 + d * j)) else none
theorem rowT_0 (E : Ev) (n1 d : Nat) : (fun _ => none) = rowT E n1 d 0 := by
  funext j
  unfold rowT
  rw [if_neg (Nat.not_lt_zero _)]
theorem rowT_s (E : Ev) (n1 d p : Nat) : (fun j => if j = p then some (eB E + (n1 + d * p)) else rowT E n1 d p j) = rowT E n1 d (p + 1) := by
  funext j
  unfold rowT
  by_cases h : j = p
  · rw [if_pos h, if_pos (by omega), h]
  · rw [if_neg h]
    by_cases g : j < p
    · rw [if_pos g, if_pos (by omega)]
    · rw [if_neg g, if_neg (by omega)]
def FX0 (E : Ev) (g : Nat → va_E) (i n : Nat) : Nat → va_E := upE (upE (FX1 E g n (n + 1)) (n + 2) (.inl (eY E 1, 288, .inr (.inl fun _ => 0)))) i (.inr (2, [.ref (eB E + n), .ref (eB E + (n + 2))]))
theorem FX0_c {E : Ev} {g : Nat → va_E} {i n a : Nat} {x : va_E} (h1 : ¬ a = i) (h2 : a < n ∨ n + 3 ≤ a) : FX0 E (upE g a x) i n = upE (FX0 E g i n) a x := by
  unfold FX0
  rw [FX1_c (a := a) (by omega) (by omega), upE_comm (i := a) (by omega), upE_comm (i := a) (by omega)]
theorem FX0_i {E : Ev} {g : Nat → va_E} {i n : Nat} : FX0 E g i n i = (.inr (2, [.ref (eB E + n), .ref (eB E + (n + 2))])) := upE_eq _ _ _
set_option maxRecDepth 100000 in
theorem cc_X0 {l : Launch} {E : Ev} {g : Nat → va_E} {i n : Nat} (hi : i < n) : Nt l E yX0_init cX0_init 1 2 3 297 (eB E + i) n (upE g i (.inr (2, [.null, .null]))) (n + 3) (FX0 E g i n) := by
  refine Nt.of (own := RX0) rfl rfl [some (.ref (eB E + i))] (by decide) (Nat.le_of_ble_eq_true rfl) rfl ?_
  refine n_aln dX0_init_0 rfl rfl ?_
  refine n_obj (wg1 (i := 115) rfl rfl) dX0_init_1 (Nat.le_of_ble_eq_true rfl) (Nat.le_of_ble_eq_true rfl) ?_
  refine n_aln dX0_init_4 rfl rfl ?_
  refine n_new (ci := 3) tyX1 tyX1_ok lays_X1 rfl (wg1 (i := 116) rfl rfl) in_X1 ii_X1 fd_X1 (Nat.le_of_ble_eq_true rfl) (Nat.le_of_ble_eq_true rfl) dX0_init_5 ?_
  refine n_dup dX0_init_8 rfl ?_
  refine n_callN (lv' := 1) mi_X1 (by decide +kernel) ⟨Nat.le_of_ble_eq_true rfl, Nat.le_of_ble_eq_true rfl⟩ (cc_X1 (i := n) (n := (n + 1)) (by omega)) (Nat.le_of_ble_eq_true rfl) dX0_init_9 ⟨Nat.le_of_ble_eq_true rfl, Nat.le_of_ble_eq_true rfl⟩ ?_
  refine n_f (n' := (n + 2)) rfl (FX1_c (show ¬ i = n by omega) (by omega)) ?_
  refine n_putF (i := i) (ci := 2) (ty0 := tyX0) 0 lays_X0 tyX0_ok nmX0 rfl (by omega) (upE_eq _ _ _) (by decide) (wg1 (i := 129) rfl rfl) rfl rfl rfl rfl rfl (Nat.le_of_ble_eq_true rfl) (fun _ _ h => h) dX0_init_12 ?_
  refine n_ov (b' := (.inr (2, [.ref (eB E + n), .null]))) rfl ?_
  refine n_aln dX0_init_15 rfl rfl ?_
  refine n_si 288 dX0_init_16 rfl ?_
  refine n_na (a0 := .inr (.inl fun _ => 0)) 1 ar_long rfl (fun _ h => h) rfl rfl (by decide) (by decide) (Nat.le_of_ble_eq_true rfl) (Nat.le_of_ble_eq_true rfl) dX0_init_19 ?_
  refine n_f (n' := (n + 3)) rfl (upE_comm (show ¬ i = (n + 2) by omega)) ?_
  refine n_putF (i := i) (ci := 2) (ty0 := tyX0) 1 lays_X0 tyX0_ok nmX0 rfl (by omega) (upE_eq _ _ _) (by decide) (wg1 (i := 133) rfl rfl) rfl rfl rfl rfl rfl (Nat.le_of_ble_eq_true rfl) (fun _ _ h => h) dX0_init_21 ?_
  refine n_ov (b' := (.inr (2, [.ref (eB E + n), .ref (eB E + (n + 2))]))) rfl ?_
  exact n_vret dX0_init_24 rfl (Nat.le_of_ble_eq_true rfl) (Nat.le_of_ble_eq_true rfl) rfl rfl
def FX2 (E : Ev) (g : Nat → va_E) (i n : Nat) : Nat → va_E := upE (upE (upE (upE (upE (FX5 E g n (n + 1)) (n + 5) (.inl (eY E 0, 12, .inl fun _ => 0))) (n + 6) (.inl (eY E 3, 40, .inl fun _ => 0))) (n + 7) (.inl (eY E 0, 240, .inl fun _ => 0))) (n + 8) (.inl (eY E 2, 40, .inl fun _ => 0))) i (.inr (4, [.ref (eB E + n), .ref (eB E + (n + 5)), .ref (eB E + (n + 6)), .ref (eB E + (n + 7)), .ref (eB E + (n + 8)), .int 0, .int 0, .int 0]))
theorem FX2_c {E : Ev} {g : Nat → va_E} {i n a : Nat} {x : va_E} (h1 : ¬ a = i) (h2 : a < n ∨ n + 9 ≤ a) : FX2 E (upE g a x) i n = upE (FX2 E g i n) a x := by
  unfold FX2
  rw [FX5_c (a := a) (by omega) (by omega), upE_comm (i := a) (by omega), upE_comm (i := a) (by omega), upE_comm (i := a) (by omega), upE_comm (i := a) (by omega), upE_comm (i := a) (by omega)]
theorem FX2_i {E : Ev} {g : Nat → va_E} {i n : Nat} : FX2 E g i n i = (.inr (4, [.ref (eB E + n), .ref (eB E + (n + 5)), .ref (eB E + (n + 6)), .ref (eB E + (n + 7)), .ref (eB E + (n + 8)), .int 0, .int 0, .int 0])) := upE_eq _ _ _
set_option maxRecDepth 100000 in
theorem cc_X2 {l : Launch} {E : Ev} {g : Nat → va_E} {i n : Nat} (hi : i < n) : Nt l E yX2_init cX2_init 1 2 9 368 (eB E + i) n (upE g i (.inr (4, [.null, .null, .null, .null, .null, .int 0, .int 0, .int 0]))) (n + 9) (FX2 E g i n) := by
  refine Nt.of (own := RX2) rfl rfl [some (.ref (eB E + i))] (by decide) (Nat.le_of_ble_eq_true rfl) rfl ?_
  refine n_aln dX2_init_0 rfl rfl ?_
  refine n_obj (wg1 (i := 48) rfl rfl) dX2_init_1 (Nat.le_of_ble_eq_true rfl) (Nat.le_of_ble_eq_true rfl) ?_
  refine n_aln dX2_init_4 rfl rfl ?_
  refine n_new (ci := 6) tyX5 tyX5_ok lays_X5 rfl (wg1 (i := 49) rfl rfl) in_X5 ii_X5 fd_X5 (Nat.le_of_ble_eq_true rfl) (Nat.le_of_ble_eq_true rfl) dX2_init_5 ?_
  refine n_dup dX2_init_8 rfl ?_
  refine n_callN (lv' := 1) mi_X5 (by decide +kernel) ⟨Nat.le_of_ble_eq_true rfl, Nat.le_of_ble_eq_true rfl⟩ (cc_X5 (i := n) (n := (n + 1)) (by omega)) (Nat.le_of_ble_eq_true rfl) dX2_init_9 ⟨Nat.le_of_ble_eq_true rfl, Nat.le_of_ble_eq_true rfl⟩ ?_
  refine n_f (n' := (n + 5)) rfl (FX5_c (show ¬ i = n by omega) (by omega)) ?_
  refine n_putF (i := i) (ci := 4) (ty0 := tyX2) 0 lays_X2 tyX2_ok nmX2 rfl (by omega) (upE_eq _ _ _) (by decide) (wg1 (i := 74) rfl rfl) rfl rfl rfl rfl rfl (Nat.le_of_ble_eq_true rfl) (fun _ _ h => h) dX2_init_12 ?_
  refine n_ov (b' := (.inr (4, [.ref (eB E + n), .null, .null, .null, .null, .int 0, .int 0, .int 0]))) rfl ?_
  refine n_aln dX2_init_15 rfl rfl ?_
  refine n_bi 12 dX2_init_16 rfl ?_
  refine n_na (a0 := .inl fun _ => 0) 0 ar_int rfl (fun _ h => h) rfl rfl (by decide) (by decide) (Nat.le_of_ble_eq_true rfl) (Nat.le_of_ble_eq_true rfl) dX2_init_18 ?_
  refine n_f (n' := (n + 6)) rfl (upE_comm (show ¬ i = (n + 5) by omega)) ?_
  refine n_putF (i := i) (ci := 4) (ty0 := tyX2) 1 lays_X2 tyX2_ok nmX2 rfl (by omega) (upE_eq _ _ _) (by decide) (wg1 (i := 76) rfl rfl) rfl rfl rfl rfl rfl (Nat.le_of_ble_eq_true rfl) (fun _ _ h => h) dX2_init_20 ?_
  refine n_ov (b' := (.inr (4, [.ref (eB E + n), .ref (eB E + (n + 5)), .null, .null, .null, .int 0, .int 0, .int 0]))) rfl ?_
  refine n_aln dX2_init_23 rfl rfl ?_
  refine n_bi 40 dX2_init_24 rfl ?_
  refine n_na (a0 := .inl fun _ => 0) 3 ar_char rfl (fun _ h => h) rfl rfl (by decide) (by decide) (Nat.le_of_ble_eq_true rfl) (Nat.le_of_ble_eq_true rfl) dX2_init_26 ?_
  refine n_f (n' := (n + 7)) rfl (upE_comm (show ¬ i = (n + 6) by omega)) ?_
  refine n_putF (i := i) (ci := 4) (ty0 := tyX2) 2 lays_X2 tyX2_ok nmX2 rfl (by omega) (upE_eq _ _ _) (by decide) (wg1 (i := 78) rfl rfl) rfl rfl rfl rfl rfl (Nat.le_of_ble_eq_true rfl) (fun _ _ h => h) dX2_init_28 ?_
  refine n_ov (b' := (.inr (4, [.ref (eB E + n), .ref (eB E + (n + 5)), .ref (eB E + (n + 6)), .null, .null, .int 0, .int 0, .int 0]))) rfl ?_
  refine n_aln dX2_init_31 rfl rfl ?_
  refine n_si 240 dX2_init_32 rfl ?_
  refine n_na (a0 := .inl fun _ => 0) 0 ar_int rfl (fun _ h => h) rfl rfl (by decide) (by decide) (Nat.le_of_ble_eq_true rfl) (Nat.le_of_ble_eq_true rfl) dX2_init_35 ?_
  refine n_f (n' := (n + 8)) rfl (upE_comm (show ¬ i = (n + 7) by omega)) ?_
  refine n_putF (i := i) (ci := 4) (ty0 := tyX2) 3 lays_X2 tyX2_ok nmX2 rfl (by omega) (upE_eq _ _ _) (by decide) (wg1 (i := 80) rfl rfl) rfl rfl rfl rfl rfl (Nat.le_of_ble_eq_true rfl) (fun _ _ h => h) dX2_init_37 ?_
  refine n_ov (b' := (.inr (4, [.ref (eB E + n), .ref (eB E + (n + 5)), .ref (eB E + (n + 6)), .ref (eB E + (n + 7)), .null, .int 0, .int 0, .int 0]))) rfl ?_
  refine n_aln dX2_init_40 rfl rfl ?_
  refine n_bi 40 dX2_init_41 rfl ?_
  refine n_na (a0 := .inl fun _ => 0) 2 ar_boolean rfl (fun _ h => h) rfl rfl (by decide) (by decide) (Nat.le_of_ble_eq_true rfl) (Nat.le_of_ble_eq_true rfl) dX2_init_43 ?_
  refine n_f (n' := (n + 9)) rfl (upE_comm (show ¬ i = (n + 8) by omega)) ?_
  refine n_putF (i := i) (ci := 4) (ty0 := tyX2) 4 lays_X2 tyX2_ok nmX2 rfl (by omega) (upE_eq _ _ _) (by decide) (wg1 (i := 81) rfl rfl) rfl rfl rfl rfl rfl (Nat.le_of_ble_eq_true rfl) (fun _ _ h => h) dX2_init_45 ?_
  refine n_ov (b' := (.inr (4, [.ref (eB E + n), .ref (eB E + (n + 5)), .ref (eB E + (n + 6)), .ref (eB E + (n + 7)), .ref (eB E + (n + 8)), .int 0, .int 0, .int 0]))) rfl ?_
  exact n_vret dX2_init_48 rfl (Nat.le_of_ble_eq_true rfl) (Nat.le_of_ble_eq_true rfl) rfl rfl
def FX8 (E : Ev) (g : Nat → va_E) (i n : Nat) : Nat → va_E := upE (FX1 E (FX1 E (FX1 E (FX1 E g n (n + 1)) (n + 2) (n + 3)) (n + 4) (n + 5)) (n + 6) (n + 7)) i (.inr (8, [.ref (eB E + n), .ref (eB E + (n + 2)), .ref (eB E + (n + 4)), .ref (eB E + (n + 6))]))
theorem FX8_c {E : Ev} {g : Nat → va_E} {i n a : Nat} {x : va_E} (h1 : ¬ a = i) (h2 : a < n ∨ n + 8 ≤ a) : FX8 E (upE g a x) i n = upE (FX8 E g i n) a x := by
  unfold FX8
  rw [FX1_c (a := a) (by omega) (by omega), FX1_c (a := a) (by omega) (by omega), FX1_c (a := a) (by omega) (by omega), FX1_c (a := a) (by omega) (by omega), upE_comm (i := a) (by omega)]
theorem FX8_i {E : Ev} {g : Nat → va_E} {i n : Nat} : FX8 E g i n i = (.inr (8, [.ref (eB E + n), .ref (eB E + (n + 2)), .ref (eB E + (n + 4)), .ref (eB E + (n + 6))])) := upE_eq _ _ _
set_option maxRecDepth 100000 in
theorem cc_X8 {l : Launch} {E : Ev} {g : Nat → va_E} {i n : Nat} (hi : i < n) : Nt l E yX8_init cX8_init 1 2 8 36 (eB E + i) n (upE g i (.inr (8, [.null, .null, .null, .null]))) (n + 8) (FX8 E g i n) := by
  refine Nt.of (own := RX8) rfl rfl [some (.ref (eB E + i))] (by decide) (Nat.le_of_ble_eq_true rfl) rfl ?_
  refine n_aln dX8_init_0 rfl rfl ?_
  refine n_obj (wg1 (i := 144) rfl rfl) dX8_init_1 (Nat.le_of_ble_eq_true rfl) (Nat.le_of_ble_eq_true rfl) ?_
  refine n_aln dX8_init_4 rfl rfl ?_
  refine n_new (ci := 3) tyX1 tyX1_ok lays_X1 rfl (wg1 (i := 145) rfl rfl) in_X1 ii_X1 fd_X1 (Nat.le_of_ble_eq_true rfl) (Nat.le_of_ble_eq_true rfl) dX8_init_5 ?_
  refine n_dup dX8_init_8 rfl ?_
  refine n_callN (lv' := 1) mi_X1 (by decide +kernel) ⟨Nat.le_of_ble_eq_true rfl, Nat.le_of_ble_eq_true rfl⟩ (cc_X1 (i := n) (n := (n + 1)) (by omega)) (Nat.le_of_ble_eq_true rfl) dX8_init_9 ⟨Nat.le_of_ble_eq_true rfl, Nat.le_of_ble_eq_true rfl⟩ ?_
  refine n_f (n' := (n + 2)) rfl (FX1_c (show ¬ i = n by omega) (by omega)) ?_
  refine n_putF (i := i) (ci := 8) (ty0 := tyX8) 0 lays_X8 tyX8_ok nmX8 rfl (by omega) (upE_eq _ _ _) (by decide) (wg1 (i := 147) rfl rfl) rfl rfl rfl rfl rfl (Nat.le_of_ble_eq_true rfl) (fun _ _ h => h) dX8_init_12 ?_
  refine n_ov (b' := (.inr (8, [.ref (eB E + n), .null, .null, .null]))) rfl ?_
  refine n_aln dX8_init_15 rfl rfl ?_
  refine n_new (ci := 3) tyX1 tyX1_ok lays_X1 rfl (wg1 (i := 145) rfl rfl) in_X1 ii_X1 fd_X1 (Nat.le_of_ble_eq_true rfl) (Nat.le_of_ble_eq_true rfl) dX8_init_16 ?_
  refine n_dup dX8_init_19 rfl ?_
  refine n_callN (lv' := 1) mi_X1 (by decide +kernel) ⟨Nat.le_of_ble_eq_true rfl, Nat.le_of_ble_eq_true rfl⟩ (cc_X1 (i := (n + 2)) (n := (n + 3)) (by omega)) (Nat.le_of_ble_eq_true rfl) dX8_init_20 ⟨Nat.le_of_ble_eq_true rfl, Nat.le_of_ble_eq_true rfl⟩ ?_
  refine n_f (n' := (n + 4)) rfl (FX1_c (show ¬ i = (n + 2) by omega) (by omega)) ?_
  refine n_putF (i := i) (ci := 8) (ty0 := tyX8) 1 lays_X8 tyX8_ok nmX8 rfl (by omega) (upE_eq _ _ _) (by decide) (wg1 (i := 148) rfl rfl) rfl rfl rfl rfl rfl (Nat.le_of_ble_eq_true rfl) (fun _ _ h => h) dX8_init_23 ?_
  refine n_ov (b' := (.inr (8, [.ref (eB E + n), .ref (eB E + (n + 2)), .null, .null]))) rfl ?_
  refine n_aln dX8_init_26 rfl rfl ?_
  refine n_new (ci := 3) tyX1 tyX1_ok lays_X1 rfl (wg1 (i := 145) rfl rfl) in_X1 ii_X1 fd_X1 (Nat.le_of_ble_eq_true rfl) (Nat.le_of_ble_eq_true rfl) dX8_init_27 ?_
  refine n_dup dX8_init_30 rfl ?_
  refine n_callN (lv' := 1) mi_X1 (by decide +kernel) ⟨Nat.le_of_ble_eq_true rfl, Nat.le_of_ble_eq_true rfl⟩ (cc_X1 (i := (n + 4)) (n := (n + 5)) (by omega)) (Nat.le_of_ble_eq_true rfl) dX8_init_31 ⟨Nat.le_of_ble_eq_true rfl, Nat.le_of_ble_eq_true rfl⟩ ?_
  refine n_f (n' := (n + 6)) rfl (FX1_c (show ¬ i = (n + 4) by omega) (by omega)) ?_
  refine n_putF (i := i) (ci := 8) (ty0 := tyX8) 2 lays_X8 tyX8_ok nmX8 rfl (by omega) (upE_eq _ _ _) (by decide) (wg1 (i := 149) rfl rfl) rfl rfl rfl rfl rfl (Nat.le_of_ble_eq_true rfl) (fun _ _ h => h) dX8_init_34 ?_
  refine n_ov (b' := (.inr (8, [.ref (eB E + n), .ref (eB E + (n + 2)), .ref (eB E + (n + 4)), .null]))) rfl ?_
  refine n_aln dX8_init_37 rfl rfl ?_
  refine n_new (ci := 3) tyX1 tyX1_ok lays_X1 rfl (wg1 (i := 145) rfl rfl) in_X1 ii_X1 fd_X1 (Nat.le_of_ble_eq_true rfl) (Nat.le_of_ble_eq_true rfl) dX8_init_38 ?_
  refine n_dup dX8_init_41 rfl ?_
  refine n_callN (lv' := 1) mi_X1 (by decide +kernel) ⟨Nat.le_of_ble_eq_true rfl, Nat.le_of_ble_eq_true rfl⟩ (cc_X1 (i := (n + 6)) (n := (n + 7)) (by omega)) (Nat.le_of_ble_eq_true rfl) dX8_init_42 ⟨Nat.le_of_ble_eq_true rfl, Nat.le_of_ble_eq_true rfl⟩ ?_
  refine n_f (n' := (n + 8)) rfl (FX1_c (show ¬ i = (n + 6) by omega) (by omega)) ?_
  refine n_putF (i := i) (ci := 8) (ty0 := tyX8) 3 lays_X8 tyX8_ok nmX8 rfl (by omega) (upE_eq _ _ _) (by decide) (wg1 (i := 150) rfl rfl) rfl rfl rfl rfl rfl (Nat.le_of_ble_eq_true rfl) (fun _ _ h => h) dX8_init_45 ?_
  refine n_ov (b' := (.inr (8, [.ref (eB E + n), .ref (eB E + (n + 2)), .ref (eB E + (n + 4)), .ref (eB E + (n + 6))]))) rfl ?_
  exact n_vret dX8_init_48 rfl (Nat.le_of_ble_eq_true rfl) (Nat.le_of_ble_eq_true rfl) rfl rfl
def LX6 (E : Ev) (g : Nat → va_E) (n1 : Nat) : Nat → Nat → va_E
  | 0 => g
  | p + 1 => FX1 E (LX6 E g n1 p) (n1 + 2 * p) (n1 + 2 * p + 1)
theorem LX6_c {E : Ev} {g : Nat → va_E} {n1 a : Nat} {x : va_E} : ∀ p, (a < n1 ∨ n1 + 2 * p ≤ a) → LX6 E (upE g a x) n1 p = upE (LX6 E g n1 p) a x := by
  intro p
  induction p with
  | zero => intro _; rfl
  | succ p ih =>
    intro h
    show FX1 E (LX6 E (upE g a x) n1 p) _ _ = upE (FX1 E (LX6 E g n1 p) _ _) a x
    rw [ih (by omega), FX1_c (by omega) (by omega)]
theorem hX6_row {E : Ev} {g : Nat → va_E} {n : Nat} : (upE (upE (upE (upE (upE (upE (upE g n (.inl (eY E 2, 6, .inl fun _ => 0))) (n + 1) (.inl (eY E 6, 6, .inr (.inr (.inr (.inr fun _ => none)))))) (n + 2) (.inl (eY E 0, 18, .inl fun _ => 0))) (n + 3) (.inl (eY E 0, 12, .inl fun _ => 0))) (n + 4) (.inl (eY E 0, 12, .inl fun _ => 0))) (n + 5) (.inl (eY E 0, 12, .inl fun _ => 0))) (n + 6) (.inl (eY E 0, 12, .inl fun _ => 0))) = upE (upE (upE (upE (upE (upE (upE g n (.inl (eY E 2, 6, .inl fun _ => 0))) (n + 2) (.inl (eY E 0, 18, .inl fun _ => 0))) (n + 3) (.inl (eY E 0, 12, .inl fun _ => 0))) (n + 4) (.inl (eY E 0, 12, .inl fun _ => 0))) (n + 5) (.inl (eY E 0, 12, .inl fun _ => 0))) (n + 6) (.inl (eY E 0, 12, .inl fun _ => 0))) (n + 1) (.inl (eY E 6, 6, .inr (.inr (.inr (.inr (rowT E (n + 7) 2 0)))))) := by
  rw [rowT_0 E (n + 7) 2]
  rw [upE_comm (i := (n + 1)) (by omega), upE_comm (i := (n + 1)) (by omega), upE_comm (i := (n + 1)) (by omega), upE_comm (i := (n + 1)) (by omega), upE_comm (i := (n + 1)) (by omega)]
def FX6 (E : Ev) (g : Nat → va_E) (i n : Nat) : Nat → va_E := upE (upE (LX6 E (upE (upE (upE (upE (upE (upE g n (.inl (eY E 2, 6, .inl fun _ => 0))) (n + 2) (.inl (eY E 0, 18, .inl fun _ => 0))) (n + 3) (.inl (eY E 0, 12, .inl fun _ => 0))) (n + 4) (.inl (eY E 0, 12, .inl fun _ => 0))) (n + 5) (.inl (eY E 0, 12, .inl fun _ => 0))) (n + 6) (.inl (eY E 0, 12, .inl fun _ => 0))) (n + 7) 6) (n + 1) (.inl (eY E 6, 6, .inr (.inr (.inr (.inr (rowT E (n + 7) 2 6))))))) i (.inr (7, [.ref (eB E + n), .ref (eB E + (n + 1)), .int 0, .int 0, .ref (eB E + (n + 2)), .ref (eB E + (n + 3)), .ref (eB E + (n + 4)), .ref (eB E + (n + 5)), .ref (eB E + (n + 6))]))
theorem FX6_c {E : Ev} {g : Nat → va_E} {i n a : Nat} {x : va_E} (h1 : ¬ a = i) (h2 : a < n ∨ n + 19 ≤ a) : FX6 E (upE g a x) i n = upE (FX6 E g i n) a x := by
  unfold FX6
  rw [upE_comm (i := a) (by omega), upE_comm (i := a) (by omega), upE_comm (i := a) (by omega), upE_comm (i := a) (by omega), upE_comm (i := a) (by omega), upE_comm (i := a) (by omega), LX6_c (a := a) 6 (by omega), upE_comm (i := a) (by omega), upE_comm (i := a) (by omega)]
theorem FX6_i {E : Ev} {g : Nat → va_E} {i n : Nat} : FX6 E g i n i = (.inr (7, [.ref (eB E + n), .ref (eB E + (n + 1)), .int 0, .int 0, .ref (eB E + (n + 2)), .ref (eB E + (n + 3)), .ref (eB E + (n + 4)), .ref (eB E + (n + 5)), .ref (eB E + (n + 6))])) := upE_eq _ _ _
set_option maxRecDepth 100000 in
theorem cc_X6 {l : Launch} {E : Ev} {g : Nat → va_E} {i n : Nat} (hi : i < n) : Nt l E yX6_init cX6_init 2 2 19 132 (eB E + i) n (upE g i (.inr (7, [.null, .null, .int 0, .int 0, .null, .null, .null, .null, .null]))) (n + 19) (FX6 E g i n) := by
  refine Nt.of (own := RX6) rfl rfl [some (.ref (eB E + i)), none] (by decide) (Nat.le_of_ble_eq_true rfl) rfl ?_
  have KR : ∀ r, r ≤ 6 → Jn l E RX6 ini9 cX6_init 2 none (rmm 2 19 132) (QfC E (n + 19) (FX6 E g i n) 19 132) (7 + 2 * r) (78 + 9 * r) 63 [some (.ref (eB E + i)), some (.int (nI r))] [] (n + 7 + 2 * r) (upE (upE (LX6 E (upE (upE (upE (upE (upE (upE g n (.inl (eY E 2, 6, .inl fun _ => 0))) (n + 2) (.inl (eY E 0, 18, .inl fun _ => 0))) (n + 3) (.inl (eY E 0, 12, .inl fun _ => 0))) (n + 4) (.inl (eY E 0, 12, .inl fun _ => 0))) (n + 5) (.inl (eY E 0, 12, .inl fun _ => 0))) (n + 6) (.inl (eY E 0, 12, .inl fun _ => 0))) (n + 7) r) (n + 1) (.inl (eY E 6, 6, .inr (.inr (.inr (.inr (rowT E (n + 7) 2 r))))))) i (.inr (7, [.ref (eB E + n), .ref (eB E + (n + 1)), .int 0, .int 0, .ref (eB E + (n + 2)), .ref (eB E + (n + 3)), .ref (eB E + (n + 4)), .ref (eB E + (n + 5)), .ref (eB E + (n + 6))]))) := by
    refine up_to 6 _ ?_ (fun r hr ihr => ?_)
    · refine n_iln dX6_init_63 rfl rfl ?_
      refine n_bi 6 dX6_init_64 rfl ?_
      refine n_icge (tgt := 88) dX6_init_66 (by decide) (by decide) (by decide) (fun _ => ?_) (fun h => absurd (by decide) h)
      exact n_vret dX6_init_88 rfl (Nat.le_of_ble_eq_true rfl) (Nat.le_of_ble_eq_true rfl) (by omega) rfl
    · refine n_iln dX6_init_63 rfl rfl ?_
      refine n_bi 6 dX6_init_64 rfl ?_
      refine n_icge (tgt := 88) dX6_init_66 (by decide) (by omega) (by decide) (fun h => absurd h (by omega)) (fun _ => ?_)
      refine n_aln dX6_init_69 rfl rfl ?_
      refine n_get (i := i) (ci := 7) 1 lays_X6 rfl (by omega) (upE_eq _ _ _) (by decide) (wg1 (i := 211) rfl rfl) rfl dX6_init_70 ?_
      refine n_iln dX6_init_73 rfl rfl ?_
      have hk1 : 7 + 2 * r + 1 ≤ 19 := by omega
      have hs1 : 78 + 9 * r + 1 ≤ 132 := by omega
      have hk2 : 7 + 2 * r + 1 + 1 ≤ 19 := by omega
      have hs2 : 78 + 9 * r + 1 + 8 ≤ 132 := by omega
      refine n_new (ci := 3) tyX1 tyX1_ok lays_X1 rfl (wg1 (i := 206) rfl rfl) in_X1 ii_X1 fd_X1 hk1 hs1 dX6_init_74 ?_
      refine n_dup dX6_init_77 rfl ?_
      refine n_callN (lv' := 1) mi_X1 (by decide +kernel) ⟨Nat.le_of_ble_eq_true rfl, Nat.le_of_ble_eq_true rfl⟩ (cc_X1 (i := (n + 7 + 2 * r)) (n := (n + 7 + 2 * r) + 1) (by omega)) (Nat.le_of_ble_eq_true rfl) dX6_init_78 ⟨hk2, hs2⟩ ?_
      refine n_f (n' := n + 7 + 2 * (r + 1)) (f' := upE (upE (LX6 E (upE (upE (upE (upE (upE (upE g n (.inl (eY E 2, 6, .inl fun _ => 0))) (n + 2) (.inl (eY E 0, 18, .inl fun _ => 0))) (n + 3) (.inl (eY E 0, 12, .inl fun _ => 0))) (n + 4) (.inl (eY E 0, 12, .inl fun _ => 0))) (n + 5) (.inl (eY E 0, 12, .inl fun _ => 0))) (n + 6) (.inl (eY E 0, 12, .inl fun _ => 0))) (n + 7) (r + 1)) (n + 1) (.inl (eY E 6, 6, .inr (.inr (.inr (.inr (rowT E (n + 7) 2 r))))))) i (.inr (7, [.ref (eB E + n), .ref (eB E + (n + 1)), .int 0, .int 0, .ref (eB E + (n + 2)), .ref (eB E + (n + 3)), .ref (eB E + (n + 4)), .ref (eB E + (n + 5)), .ref (eB E + (n + 6))]))) (by omega) (by rw [FX1_c (a := i) (by omega) (by omega), FX1_c (a := (n + 1)) (by omega) (by omega)]; rfl) ?_
      refine n_aast (a := (n + 1)) (b := (n + 7 + 2 * r)) (ci := 3) (r := (RX1, TX1, 1)) (N := 6) 6 rfl rfl (by omega) ((upE_ne (by omega)).trans (upE_eq _ _ _)) (by omega) ((upE_ne (by omega)).trans ((upE_ne (by omega)).trans FX1_i)) hr (by decide) dX6_init_81 ?_
      refine n_f rfl (by rw [rowT_s, upE_comm (i := i) (by omega), upE_over]) ?_
      refine n_incN 1 (ls' := [some (.ref (eB E + i)), some (.int (nI (r + 1)))]) dX6_init_82 rfl rfl (by decide) rfl rfl ?_
      refine n_goto (tgt := 63) dX6_init_85 (by decide) ?_
      exact n_k (by omega) (by omega) ihr
  refine n_aln dX6_init_0 rfl rfl ?_
  refine n_obj (wg1 (i := 205) rfl rfl) dX6_init_1 (Nat.le_of_ble_eq_true rfl) (Nat.le_of_ble_eq_true rfl) ?_
  refine n_aln dX6_init_4 rfl rfl ?_
  refine n_bi 6 dX6_init_5 rfl ?_
  refine n_na (a0 := .inl fun _ => 0) 2 ar_boolean rfl (fun _ h => h) rfl rfl (by decide) (by decide) (Nat.le_of_ble_eq_true rfl) (Nat.le_of_ble_eq_true rfl) dX6_init_7 ?_
  refine n_f (n' := (n + 1)) rfl (upE_comm (show ¬ i = n by omega)) ?_
  refine n_putF (i := i) (ci := 7) (ty0 := tyX6) 0 lays_X6 tyX6_ok nmX6 rfl (by omega) (upE_eq _ _ _) (by decide) (wg1 (i := 209) rfl rfl) rfl rfl rfl rfl rfl (Nat.le_of_ble_eq_true rfl) (fun _ _ h => h) dX6_init_9 ?_
  refine n_ov (b' := (.inr (7, [.ref (eB E + n), .null, .int 0, .int 0, .null, .null, .null, .null, .null]))) rfl ?_
  refine n_aln dX6_init_12 rfl rfl ?_
  refine n_bi 6 dX6_init_13 rfl ?_
  refine n_nq (C := RX1) 6 (wg1 (i := 206) rfl rfl) ao_X1 rfl (nI_pos (by decide)) (nI_clamp (by decide)) (by decide) (Nat.le_of_ble_eq_true rfl) (Nat.le_of_ble_eq_true rfl) dX6_init_15 ?_
  refine n_f (n' := (n + 2)) rfl (upE_comm (show ¬ i = (n + 1) by omega)) ?_
  refine n_putF (i := i) (ci := 7) (ty0 := tyX6) 1 lays_X6 tyX6_ok nmX6 rfl (by omega) (upE_eq _ _ _) (by decide) (wg1 (i := 211) rfl rfl) rfl rfl rfl rfl rfl (Nat.le_of_ble_eq_true rfl) (fun _ _ h => h) dX6_init_18 ?_
  refine n_ov (b' := (.inr (7, [.ref (eB E + n), .ref (eB E + (n + 1)), .int 0, .int 0, .null, .null, .null, .null, .null]))) rfl ?_
  refine n_aln dX6_init_21 rfl rfl ?_
  refine n_bi 18 dX6_init_22 rfl ?_
  refine n_na (a0 := .inl fun _ => 0) 0 ar_int rfl (fun _ h => h) rfl rfl (by decide) (by decide) (Nat.le_of_ble_eq_true rfl) (Nat.le_of_ble_eq_true rfl) dX6_init_24 ?_
  refine n_f (n' := (n + 3)) rfl (upE_comm (show ¬ i = (n + 2) by omega)) ?_
  refine n_putF (i := i) (ci := 7) (ty0 := tyX6) 4 lays_X6 tyX6_ok nmX6 rfl (by omega) (upE_eq _ _ _) (by decide) (wg1 (i := 217) rfl rfl) rfl rfl rfl rfl rfl (Nat.le_of_ble_eq_true rfl) (fun _ _ h => h) dX6_init_26 ?_
  refine n_ov (b' := (.inr (7, [.ref (eB E + n), .ref (eB E + (n + 1)), .int 0, .int 0, .ref (eB E + (n + 2)), .null, .null, .null, .null]))) rfl ?_
  refine n_aln dX6_init_29 rfl rfl ?_
  refine n_bi 12 dX6_init_30 rfl ?_
  refine n_na (a0 := .inl fun _ => 0) 0 ar_int rfl (fun _ h => h) rfl rfl (by decide) (by decide) (Nat.le_of_ble_eq_true rfl) (Nat.le_of_ble_eq_true rfl) dX6_init_32 ?_
  refine n_f (n' := (n + 4)) rfl (upE_comm (show ¬ i = (n + 3) by omega)) ?_
  refine n_putF (i := i) (ci := 7) (ty0 := tyX6) 5 lays_X6 tyX6_ok nmX6 rfl (by omega) (upE_eq _ _ _) (by decide) (wg1 (i := 218) rfl rfl) rfl rfl rfl rfl rfl (Nat.le_of_ble_eq_true rfl) (fun _ _ h => h) dX6_init_34 ?_
  refine n_ov (b' := (.inr (7, [.ref (eB E + n), .ref (eB E + (n + 1)), .int 0, .int 0, .ref (eB E + (n + 2)), .ref (eB E + (n + 3)), .null, .null, .null]))) rfl ?_
  refine n_aln dX6_init_37 rfl rfl ?_
  refine n_bi 12 dX6_init_38 rfl ?_
  refine n_na (a0 := .inl fun _ => 0) 0 ar_int rfl (fun _ h => h) rfl rfl (by decide) (by decide) (Nat.le_of_ble_eq_true rfl) (Nat.le_of_ble_eq_true rfl) dX6_init_40 ?_
  refine n_f (n' := (n + 5)) rfl (upE_comm (show ¬ i = (n + 4) by omega)) ?_
  refine n_putF (i := i) (ci := 7) (ty0 := tyX6) 6 lays_X6 tyX6_ok nmX6 rfl (by omega) (upE_eq _ _ _) (by decide) (wg1 (i := 219) rfl rfl) rfl rfl rfl rfl rfl (Nat.le_of_ble_eq_true rfl) (fun _ _ h => h) dX6_init_42 ?_
  refine n_ov (b' := (.inr (7, [.ref (eB E + n), .ref (eB E + (n + 1)), .int 0, .int 0, .ref (eB E + (n + 2)), .ref (eB E + (n + 3)), .ref (eB E + (n + 4)), .null, .null]))) rfl ?_
  refine n_aln dX6_init_45 rfl rfl ?_
  refine n_bi 12 dX6_init_46 rfl ?_
  refine n_na (a0 := .inl fun _ => 0) 0 ar_int rfl (fun _ h => h) rfl rfl (by decide) (by decide) (Nat.le_of_ble_eq_true rfl) (Nat.le_of_ble_eq_true rfl) dX6_init_48 ?_
  refine n_f (n' := (n + 6)) rfl (upE_comm (show ¬ i = (n + 5) by omega)) ?_
  refine n_putF (i := i) (ci := 7) (ty0 := tyX6) 7 lays_X6 tyX6_ok nmX6 rfl (by omega) (upE_eq _ _ _) (by decide) (wg1 (i := 220) rfl rfl) rfl rfl rfl rfl rfl (Nat.le_of_ble_eq_true rfl) (fun _ _ h => h) dX6_init_50 ?_
  refine n_ov (b' := (.inr (7, [.ref (eB E + n), .ref (eB E + (n + 1)), .int 0, .int 0, .ref (eB E + (n + 2)), .ref (eB E + (n + 3)), .ref (eB E + (n + 4)), .ref (eB E + (n + 5)), .null]))) rfl ?_
  refine n_aln dX6_init_53 rfl rfl ?_
  refine n_bi 12 dX6_init_54 rfl ?_
  refine n_na (a0 := .inl fun _ => 0) 0 ar_int rfl (fun _ h => h) rfl rfl (by decide) (by decide) (Nat.le_of_ble_eq_true rfl) (Nat.le_of_ble_eq_true rfl) dX6_init_56 ?_
  refine n_f (n' := (n + 7)) rfl (upE_comm (show ¬ i = (n + 6) by omega)) ?_
  refine n_putF (i := i) (ci := 7) (ty0 := tyX6) 8 lays_X6 tyX6_ok nmX6 rfl (by omega) (upE_eq _ _ _) (by decide) (wg1 (i := 221) rfl rfl) rfl rfl rfl rfl rfl (Nat.le_of_ble_eq_true rfl) (fun _ _ h => h) dX6_init_58 ?_
  refine n_ov (b' := (.inr (7, [.ref (eB E + n), .ref (eB E + (n + 1)), .int 0, .int 0, .ref (eB E + (n + 2)), .ref (eB E + (n + 3)), .ref (eB E + (n + 4)), .ref (eB E + (n + 5)), .ref (eB E + (n + 6))]))) rfl ?_
  refine n_ic (v := nI 0) dX6_init_61 rfl ?_
  refine n_istn (ls' := [some (.ref (eB E + i)), some (.int (nI 0))]) dX6_init_62 rfl (by decide) rfl rfl ?_
  refine n_f (n' := n + 7 + 2 * 0) rfl (congrArg (fun G => upE G i (.inr (7, [.ref (eB E + n), .ref (eB E + (n + 1)), .int 0, .int 0, .ref (eB E + (n + 2)), .ref (eB E + (n + 3)), .ref (eB E + (n + 4)), .ref (eB E + (n + 5)), .ref (eB E + (n + 6))]))) hX6_row) ?_
  exact KR 0 (by decide)
def LX3 (E : Ev) (g : Nat → va_E) (n1 : Nat) : Nat → Nat → va_E
  | 0 => g
  | p + 1 => FX0 E (LX3 E g n1 p) (n1 + 4 * p) (n1 + 4 * p + 1)
theorem LX3_c {E : Ev} {g : Nat → va_E} {n1 a : Nat} {x : va_E} : ∀ p, (a < n1 ∨ n1 + 4 * p ≤ a) → LX3 E (upE g a x) n1 p = upE (LX3 E g n1 p) a x := by
  intro p
  induction p with
  | zero => intro _; rfl
  | succ p ih =>
    intro h
    show FX0 E (LX3 E (upE g a x) n1 p) _ _ = upE (FX0 E (LX3 E g n1 p) _ _) a x
    rw [ih (by omega), FX0_c (by omega) (by omega)]
theorem hX3_row {E : Ev} {g : Nat → va_E} {n : Nat} : (upE (upE (upE (upE (FX8 E (FX0 E (FX0 E (upE (upE (FX2 E g n (n + 1)) (n + 10) (.inl (eY E 3, 40, .inl fun _ => 0))) (n + 11) (.inl (eY E 5, 13, .inr (.inr (.inr (.inr fun _ => none)))))) (n + 12) (n + 13)) (n + 16) (n + 17)) (n + 20) (n + 21)) (n + 29) (.inl (eY E 0, 6, .inl fun _ => 0))) (n + 30) (.inl (eY E 0, 12, .inl fun _ => 0))) (n + 31) (.inl (eY E 2, 12, .inl fun _ => 0))) (n + 32) (.inl (eY E 0, 72, .inl fun _ => 0))) = upE (upE (upE (upE (upE (FX8 E (FX0 E (FX0 E (upE (FX2 E g n (n + 1)) (n + 10) (.inl (eY E 3, 40, .inl fun _ => 0))) (n + 12) (n + 13)) (n + 16) (n + 17)) (n + 20) (n + 21)) (n + 29) (.inl (eY E 0, 6, .inl fun _ => 0))) (n + 30) (.inl (eY E 0, 12, .inl fun _ => 0))) (n + 31) (.inl (eY E 2, 12, .inl fun _ => 0))) (n + 32) (.inl (eY E 0, 72, .inl fun _ => 0))) (n + 11) (.inl (eY E 5, 13, .inr (.inr (.inr (.inr (rowT E (n + 33) 4 0)))))) := by
  rw [rowT_0 E (n + 33) 4]
  rw [FX0_c (a := (n + 11)) (by omega) (by omega), FX0_c (a := (n + 11)) (by omega) (by omega), FX8_c (a := (n + 11)) (by omega) (by omega), upE_comm (i := (n + 11)) (by omega), upE_comm (i := (n + 11)) (by omega), upE_comm (i := (n + 11)) (by omega), upE_comm (i := (n + 11)) (by omega)]
def FX3 (E : Ev) (g : Nat → va_E) (i n : Nat) : Nat → va_E := upE (upE (LX3 E (upE (upE (upE (upE (FX8 E (FX0 E (FX0 E (upE (FX2 E g n (n + 1)) (n + 10) (.inl (eY E 3, 40, .inl fun _ => 0))) (n + 12) (n + 13)) (n + 16) (n + 17)) (n + 20) (n + 21)) (n + 29) (.inl (eY E 0, 6, .inl fun _ => 0))) (n + 30) (.inl (eY E 0, 12, .inl fun _ => 0))) (n + 31) (.inl (eY E 2, 12, .inl fun _ => 0))) (n + 32) (.inl (eY E 0, 72, .inl fun _ => 0))) (n + 33) 13) (n + 11) (.inl (eY E 5, 13, .inr (.inr (.inr (.inr (rowT E (n + 33) 4 13))))))) i (.inr (5, [.ref (eB E + n), .ref (eB E + (n + 10)), .long 0, .ref (eB E + (n + 11)), .ref (eB E + (n + 12)), .ref (eB E + (n + 16)), .ref (eB E + (n + 20)), .ref (eB E + (n + 29)), .ref (eB E + (n + 30)), .ref (eB E + (n + 31)), .ref (eB E + (n + 32)), .int 0]))
theorem FX3_c {E : Ev} {g : Nat → va_E} {i n a : Nat} {x : va_E} (h1 : ¬ a = i) (h2 : a < n ∨ n + 85 ≤ a) : FX3 E (upE g a x) i n = upE (FX3 E g i n) a x := by
  unfold FX3
  rw [FX2_c (a := a) (by omega) (by omega), upE_comm (i := a) (by omega), FX0_c (a := a) (by omega) (by omega), FX0_c (a := a) (by omega) (by omega), FX8_c (a := a) (by omega) (by omega), upE_comm (i := a) (by omega), upE_comm (i := a) (by omega), upE_comm (i := a) (by omega), upE_comm (i := a) (by omega), LX3_c (a := a) 13 (by omega), upE_comm (i := a) (by omega), upE_comm (i := a) (by omega)]
theorem FX3_i {E : Ev} {g : Nat → va_E} {i n : Nat} : FX3 E g i n i = (.inr (5, [.ref (eB E + n), .ref (eB E + (n + 10)), .long 0, .ref (eB E + (n + 11)), .ref (eB E + (n + 12)), .ref (eB E + (n + 16)), .ref (eB E + (n + 20)), .ref (eB E + (n + 29)), .ref (eB E + (n + 30)), .ref (eB E + (n + 31)), .ref (eB E + (n + 32)), .int 0])) := upE_eq _ _ _
set_option maxRecDepth 100000 in
theorem cc_X3 {l : Launch} {E : Ev} {g : Nat → va_E} {i n : Nat} (hi : i < n) : Nt l E yX3_init cX3_init 2 3 85 5056 (eB E + i) n (upE g i (.inr (5, [.null, .null, .long 0, .null, .null, .null, .null, .null, .null, .null, .null, .int 0]))) (n + 85) (FX3 E g i n) := by
  refine Nt.of (own := RX3) rfl rfl [some (.ref (eB E + i)), none] (by decide) (Nat.le_of_ble_eq_true rfl) rfl ?_
  have KR : ∀ r, r ≤ 13 → Jn l E RX3 ini9 cX3_init 2 none (rmm 3 85 5056) (QfC E (n + 85) (FX3 E g i n) 85 5056) (33 + 4 * r) (1169 + 299 * r) 99 [some (.ref (eB E + i)), some (.int (nI r))] [] (n + 33 + 4 * r) (upE (upE (LX3 E (upE (upE (upE (upE (FX8 E (FX0 E (FX0 E (upE (FX2 E g n (n + 1)) (n + 10) (.inl (eY E 3, 40, .inl fun _ => 0))) (n + 12) (n + 13)) (n + 16) (n + 17)) (n + 20) (n + 21)) (n + 29) (.inl (eY E 0, 6, .inl fun _ => 0))) (n + 30) (.inl (eY E 0, 12, .inl fun _ => 0))) (n + 31) (.inl (eY E 2, 12, .inl fun _ => 0))) (n + 32) (.inl (eY E 0, 72, .inl fun _ => 0))) (n + 33) r) (n + 11) (.inl (eY E 5, 13, .inr (.inr (.inr (.inr (rowT E (n + 33) 4 r))))))) i (.inr (5, [.ref (eB E + n), .ref (eB E + (n + 10)), .long 0, .ref (eB E + (n + 11)), .ref (eB E + (n + 12)), .ref (eB E + (n + 16)), .ref (eB E + (n + 20)), .ref (eB E + (n + 29)), .ref (eB E + (n + 30)), .ref (eB E + (n + 31)), .ref (eB E + (n + 32)), .int 0]))) := by
    refine up_to 13 _ ?_ (fun r hr ihr => ?_)
    · refine n_iln dX3_init_99 rfl rfl ?_
      refine n_bi 12 dX3_init_100 rfl ?_
      refine n_icgt (tgt := 124) dX3_init_102 (by decide) (by decide) (by decide) (fun _ => ?_) (fun h => absurd (by decide) h)
      exact n_vret dX3_init_124 rfl (Nat.le_of_ble_eq_true rfl) (Nat.le_of_ble_eq_true rfl) (by omega) rfl
    · refine n_iln dX3_init_99 rfl rfl ?_
      refine n_bi 12 dX3_init_100 rfl ?_
      refine n_icgt (tgt := 124) dX3_init_102 (by decide) (by omega) (by decide) (fun h => absurd h (by omega)) (fun _ => ?_)
      refine n_aln dX3_init_105 rfl rfl ?_
      refine n_get (i := i) (ci := 5) 3 lays_X3 rfl (by omega) (upE_eq _ _ _) (by decide) (wg1 (i := 166) rfl rfl) rfl dX3_init_106 ?_
      refine n_iln dX3_init_109 rfl rfl ?_
      have hk1 : 33 + 4 * r + 1 ≤ 85 := by omega
      have hs1 : 1169 + 299 * r + 2 ≤ 5056 := by omega
      have hk2 : 33 + 4 * r + 1 + 3 ≤ 85 := by omega
      have hs2 : 1169 + 299 * r + 2 + 297 ≤ 5056 := by omega
      refine n_new (ci := 2) tyX0 tyX0_ok lays_X0 rfl (wg1 (i := 109) rfl rfl) in_X0 ii_X0 fd_X0 hk1 hs1 dX3_init_110 ?_
      refine n_dup dX3_init_113 rfl ?_
      refine n_callN (lv' := 2) mi_X0 (by decide +kernel) ⟨Nat.le_of_ble_eq_true rfl, Nat.le_of_ble_eq_true rfl⟩ (cc_X0 (i := (n + 33 + 4 * r)) (n := (n + 33 + 4 * r) + 1) (by omega)) (Nat.le_of_ble_eq_true rfl) dX3_init_114 ⟨hk2, hs2⟩ ?_
      refine n_f (n' := n + 33 + 4 * (r + 1)) (f' := upE (upE (LX3 E (upE (upE (upE (upE (FX8 E (FX0 E (FX0 E (upE (FX2 E g n (n + 1)) (n + 10) (.inl (eY E 3, 40, .inl fun _ => 0))) (n + 12) (n + 13)) (n + 16) (n + 17)) (n + 20) (n + 21)) (n + 29) (.inl (eY E 0, 6, .inl fun _ => 0))) (n + 30) (.inl (eY E 0, 12, .inl fun _ => 0))) (n + 31) (.inl (eY E 2, 12, .inl fun _ => 0))) (n + 32) (.inl (eY E 0, 72, .inl fun _ => 0))) (n + 33) (r + 1)) (n + 11) (.inl (eY E 5, 13, .inr (.inr (.inr (.inr (rowT E (n + 33) 4 r))))))) i (.inr (5, [.ref (eB E + n), .ref (eB E + (n + 10)), .long 0, .ref (eB E + (n + 11)), .ref (eB E + (n + 12)), .ref (eB E + (n + 16)), .ref (eB E + (n + 20)), .ref (eB E + (n + 29)), .ref (eB E + (n + 30)), .ref (eB E + (n + 31)), .ref (eB E + (n + 32)), .int 0]))) (by omega) (by rw [FX0_c (a := i) (by omega) (by omega), FX0_c (a := (n + 11)) (by omega) (by omega)]; rfl) ?_
      refine n_aast (a := (n + 11)) (b := (n + 33 + 4 * r)) (ci := 2) (r := (RX0, TX0, 2)) (N := 13) 5 rfl rfl (by omega) ((upE_ne (by omega)).trans (upE_eq _ _ _)) (by omega) ((upE_ne (by omega)).trans ((upE_ne (by omega)).trans FX0_i)) hr (by decide) dX3_init_117 ?_
      refine n_f rfl (by rw [rowT_s, upE_comm (i := i) (by omega), upE_over]) ?_
      refine n_incN 1 (ls' := [some (.ref (eB E + i)), some (.int (nI (r + 1)))]) dX3_init_118 rfl rfl (by decide) rfl rfl ?_
      refine n_goto (tgt := 99) dX3_init_121 (by decide) ?_
      exact n_k (by omega) (by omega) ihr
  refine n_aln dX3_init_0 rfl rfl ?_
  refine n_obj (wg1 (i := 42) rfl rfl) dX3_init_1 (Nat.le_of_ble_eq_true rfl) (Nat.le_of_ble_eq_true rfl) ?_
  refine n_aln dX3_init_4 rfl rfl ?_
  refine n_new (ci := 4) tyX2 tyX2_ok lays_X2 rfl (wg1 (i := 43) rfl rfl) in_X2 ii_X2 fd_X2 (Nat.le_of_ble_eq_true rfl) (Nat.le_of_ble_eq_true rfl) dX3_init_5 ?_
  refine n_dup dX3_init_8 rfl ?_
  refine n_callN (lv' := 2) mi_X2 (by decide +kernel) ⟨Nat.le_of_ble_eq_true rfl, Nat.le_of_ble_eq_true rfl⟩ (cc_X2 (i := n) (n := (n + 1)) (by omega)) (Nat.le_of_ble_eq_true rfl) dX3_init_9 ⟨Nat.le_of_ble_eq_true rfl, Nat.le_of_ble_eq_true rfl⟩ ?_
  refine n_f (n' := (n + 10)) rfl (FX2_c (show ¬ i = n by omega) (by omega)) ?_
  refine n_putF (i := i) (ci := 5) (ty0 := tyX3) 0 lays_X3 tyX3_ok nmX3 rfl (by omega) (upE_eq _ _ _) (by decide) (wg1 (i := 160) rfl rfl) rfl rfl rfl rfl rfl (Nat.le_of_ble_eq_true rfl) (fun _ _ h => h) dX3_init_12 ?_
  refine n_ov (b' := (.inr (5, [.ref (eB E + n), .null, .long 0, .null, .null, .null, .null, .null, .null, .null, .null, .int 0]))) rfl ?_
  refine n_aln dX3_init_15 rfl rfl ?_
  refine n_bi 40 dX3_init_16 rfl ?_
  refine n_na (a0 := .inl fun _ => 0) 3 ar_char rfl (fun _ h => h) rfl rfl (by decide) (by decide) (Nat.le_of_ble_eq_true rfl) (Nat.le_of_ble_eq_true rfl) dX3_init_18 ?_
  refine n_f (n' := (n + 11)) rfl (upE_comm (show ¬ i = (n + 10) by omega)) ?_
  refine n_putF (i := i) (ci := 5) (ty0 := tyX3) 1 lays_X3 tyX3_ok nmX3 rfl (by omega) (upE_eq _ _ _) (by decide) (wg1 (i := 162) rfl rfl) rfl rfl rfl rfl rfl (Nat.le_of_ble_eq_true rfl) (fun _ _ h => h) dX3_init_20 ?_
  refine n_ov (b' := (.inr (5, [.ref (eB E + n), .ref (eB E + (n + 10)), .long 0, .null, .null, .null, .null, .null, .null, .null, .null, .int 0]))) rfl ?_
  refine n_aln dX3_init_23 rfl rfl ?_
  refine n_bi 13 dX3_init_24 rfl ?_
  refine n_nq (C := RX0) 5 (wg1 (i := 109) rfl rfl) ao_X0 rfl (nI_pos (by decide)) (nI_clamp (by decide)) (by decide) (Nat.le_of_ble_eq_true rfl) (Nat.le_of_ble_eq_true rfl) dX3_init_26 ?_
  refine n_f (n' := (n + 12)) rfl (upE_comm (show ¬ i = (n + 11) by omega)) ?_
  refine n_putF (i := i) (ci := 5) (ty0 := tyX3) 3 lays_X3 tyX3_ok nmX3 rfl (by omega) (upE_eq _ _ _) (by decide) (wg1 (i := 166) rfl rfl) rfl rfl rfl rfl rfl (Nat.le_of_ble_eq_true rfl) (fun _ _ h => h) dX3_init_29 ?_
  refine n_ov (b' := (.inr (5, [.ref (eB E + n), .ref (eB E + (n + 10)), .long 0, .ref (eB E + (n + 11)), .null, .null, .null, .null, .null, .null, .null, .int 0]))) rfl ?_
  refine n_aln dX3_init_32 rfl rfl ?_
  refine n_new (ci := 2) tyX0 tyX0_ok lays_X0 rfl (wg1 (i := 109) rfl rfl) in_X0 ii_X0 fd_X0 (Nat.le_of_ble_eq_true rfl) (Nat.le_of_ble_eq_true rfl) dX3_init_33 ?_
  refine n_dup dX3_init_36 rfl ?_
  refine n_callN (lv' := 2) mi_X0 (by decide +kernel) ⟨Nat.le_of_ble_eq_true rfl, Nat.le_of_ble_eq_true rfl⟩ (cc_X0 (i := (n + 12)) (n := (n + 13)) (by omega)) (Nat.le_of_ble_eq_true rfl) dX3_init_37 ⟨Nat.le_of_ble_eq_true rfl, Nat.le_of_ble_eq_true rfl⟩ ?_
  refine n_f (n' := (n + 16)) rfl (FX0_c (show ¬ i = (n + 12) by omega) (by omega)) ?_
  refine n_putF (i := i) (ci := 5) (ty0 := tyX3) 4 lays_X3 tyX3_ok nmX3 rfl (by omega) (upE_eq _ _ _) (by decide) (wg1 (i := 167) rfl rfl) rfl rfl rfl rfl rfl (Nat.le_of_ble_eq_true rfl) (fun _ _ h => h) dX3_init_40 ?_
  refine n_ov (b' := (.inr (5, [.ref (eB E + n), .ref (eB E + (n + 10)), .long 0, .ref (eB E + (n + 11)), .ref (eB E + (n + 12)), .null, .null, .null, .null, .null, .null, .int 0]))) rfl ?_
  refine n_aln dX3_init_43 rfl rfl ?_
  refine n_new (ci := 2) tyX0 tyX0_ok lays_X0 rfl (wg1 (i := 109) rfl rfl) in_X0 ii_X0 fd_X0 (Nat.le_of_ble_eq_true rfl) (Nat.le_of_ble_eq_true rfl) dX3_init_44 ?_
  refine n_dup dX3_init_47 rfl ?_
  refine n_callN (lv' := 2) mi_X0 (by decide +kernel) ⟨Nat.le_of_ble_eq_true rfl, Nat.le_of_ble_eq_true rfl⟩ (cc_X0 (i := (n + 16)) (n := (n + 17)) (by omega)) (Nat.le_of_ble_eq_true rfl) dX3_init_48 ⟨Nat.le_of_ble_eq_true rfl, Nat.le_of_ble_eq_true rfl⟩ ?_
  refine n_f (n' := (n + 20)) rfl (FX0_c (show ¬ i = (n + 16) by omega) (by omega)) ?_
  refine n_putF (i := i) (ci := 5) (ty0 := tyX3) 5 lays_X3 tyX3_ok nmX3 rfl (by omega) (upE_eq _ _ _) (by decide) (wg1 (i := 168) rfl rfl) rfl rfl rfl rfl rfl (Nat.le_of_ble_eq_true rfl) (fun _ _ h => h) dX3_init_51 ?_
  refine n_ov (b' := (.inr (5, [.ref (eB E + n), .ref (eB E + (n + 10)), .long 0, .ref (eB E + (n + 11)), .ref (eB E + (n + 12)), .ref (eB E + (n + 16)), .null, .null, .null, .null, .null, .int 0]))) rfl ?_
  refine n_aln dX3_init_54 rfl rfl ?_
  refine n_new (ci := 8) tyX8 tyX8_ok lays_X8 rfl (wg1 (i := 139) rfl rfl) in_X8 ii_X8 fd_X8 (Nat.le_of_ble_eq_true rfl) (Nat.le_of_ble_eq_true rfl) dX3_init_55 ?_
  refine n_dup dX3_init_58 rfl ?_
  refine n_callN (lv' := 2) mi_X8 (by decide +kernel) ⟨Nat.le_of_ble_eq_true rfl, Nat.le_of_ble_eq_true rfl⟩ (cc_X8 (i := (n + 20)) (n := (n + 21)) (by omega)) (Nat.le_of_ble_eq_true rfl) dX3_init_59 ⟨Nat.le_of_ble_eq_true rfl, Nat.le_of_ble_eq_true rfl⟩ ?_
  refine n_f (n' := (n + 29)) rfl (FX8_c (show ¬ i = (n + 20) by omega) (by omega)) ?_
  refine n_putF (i := i) (ci := 5) (ty0 := tyX3) 6 lays_X3 tyX3_ok nmX3 rfl (by omega) (upE_eq _ _ _) (by decide) (wg1 (i := 169) rfl rfl) rfl rfl rfl rfl rfl (Nat.le_of_ble_eq_true rfl) (fun _ _ h => h) dX3_init_62 ?_
  refine n_ov (b' := (.inr (5, [.ref (eB E + n), .ref (eB E + (n + 10)), .long 0, .ref (eB E + (n + 11)), .ref (eB E + (n + 12)), .ref (eB E + (n + 16)), .ref (eB E + (n + 20)), .null, .null, .null, .null, .int 0]))) rfl ?_
  refine n_aln dX3_init_65 rfl rfl ?_
  refine n_bi 6 dX3_init_66 rfl ?_
  refine n_na (a0 := .inl fun _ => 0) 0 ar_int rfl (fun _ h => h) rfl rfl (by decide) (by decide) (Nat.le_of_ble_eq_true rfl) (Nat.le_of_ble_eq_true rfl) dX3_init_68 ?_
  refine n_f (n' := (n + 30)) rfl (upE_comm (show ¬ i = (n + 29) by omega)) ?_
  refine n_putF (i := i) (ci := 5) (ty0 := tyX3) 7 lays_X3 tyX3_ok nmX3 rfl (by omega) (upE_eq _ _ _) (by decide) (wg1 (i := 170) rfl rfl) rfl rfl rfl rfl rfl (Nat.le_of_ble_eq_true rfl) (fun _ _ h => h) dX3_init_70 ?_
  refine n_ov (b' := (.inr (5, [.ref (eB E + n), .ref (eB E + (n + 10)), .long 0, .ref (eB E + (n + 11)), .ref (eB E + (n + 12)), .ref (eB E + (n + 16)), .ref (eB E + (n + 20)), .ref (eB E + (n + 29)), .null, .null, .null, .int 0]))) rfl ?_
  refine n_aln dX3_init_73 rfl rfl ?_
  refine n_bi 12 dX3_init_74 rfl ?_
  refine n_na (a0 := .inl fun _ => 0) 0 ar_int rfl (fun _ h => h) rfl rfl (by decide) (by decide) (Nat.le_of_ble_eq_true rfl) (Nat.le_of_ble_eq_true rfl) dX3_init_76 ?_
  refine n_f (n' := (n + 31)) rfl (upE_comm (show ¬ i = (n + 30) by omega)) ?_
  refine n_putF (i := i) (ci := 5) (ty0 := tyX3) 8 lays_X3 tyX3_ok nmX3 rfl (by omega) (upE_eq _ _ _) (by decide) (wg1 (i := 171) rfl rfl) rfl rfl rfl rfl rfl (Nat.le_of_ble_eq_true rfl) (fun _ _ h => h) dX3_init_78 ?_
  refine n_ov (b' := (.inr (5, [.ref (eB E + n), .ref (eB E + (n + 10)), .long 0, .ref (eB E + (n + 11)), .ref (eB E + (n + 12)), .ref (eB E + (n + 16)), .ref (eB E + (n + 20)), .ref (eB E + (n + 29)), .ref (eB E + (n + 30)), .null, .null, .int 0]))) rfl ?_
  refine n_aln dX3_init_81 rfl rfl ?_
  refine n_bi 12 dX3_init_82 rfl ?_
  refine n_na (a0 := .inl fun _ => 0) 2 ar_boolean rfl (fun _ h => h) rfl rfl (by decide) (by decide) (Nat.le_of_ble_eq_true rfl) (Nat.le_of_ble_eq_true rfl) dX3_init_84 ?_
  refine n_f (n' := (n + 32)) rfl (upE_comm (show ¬ i = (n + 31) by omega)) ?_
  refine n_putF (i := i) (ci := 5) (ty0 := tyX3) 9 lays_X3 tyX3_ok nmX3 rfl (by omega) (upE_eq _ _ _) (by decide) (wg1 (i := 172) rfl rfl) rfl rfl rfl rfl rfl (Nat.le_of_ble_eq_true rfl) (fun _ _ h => h) dX3_init_86 ?_
  refine n_ov (b' := (.inr (5, [.ref (eB E + n), .ref (eB E + (n + 10)), .long 0, .ref (eB E + (n + 11)), .ref (eB E + (n + 12)), .ref (eB E + (n + 16)), .ref (eB E + (n + 20)), .ref (eB E + (n + 29)), .ref (eB E + (n + 30)), .ref (eB E + (n + 31)), .null, .int 0]))) rfl ?_
  refine n_aln dX3_init_89 rfl rfl ?_
  refine n_bi 72 dX3_init_90 rfl ?_
  refine n_na (a0 := .inl fun _ => 0) 0 ar_int rfl (fun _ h => h) rfl rfl (by decide) (by decide) (Nat.le_of_ble_eq_true rfl) (Nat.le_of_ble_eq_true rfl) dX3_init_92 ?_
  refine n_f (n' := (n + 33)) rfl (upE_comm (show ¬ i = (n + 32) by omega)) ?_
  refine n_putF (i := i) (ci := 5) (ty0 := tyX3) 10 lays_X3 tyX3_ok nmX3 rfl (by omega) (upE_eq _ _ _) (by decide) (wg1 (i := 173) rfl rfl) rfl rfl rfl rfl rfl (Nat.le_of_ble_eq_true rfl) (fun _ _ h => h) dX3_init_94 ?_
  refine n_ov (b' := (.inr (5, [.ref (eB E + n), .ref (eB E + (n + 10)), .long 0, .ref (eB E + (n + 11)), .ref (eB E + (n + 12)), .ref (eB E + (n + 16)), .ref (eB E + (n + 20)), .ref (eB E + (n + 29)), .ref (eB E + (n + 30)), .ref (eB E + (n + 31)), .ref (eB E + (n + 32)), .int 0]))) rfl ?_
  refine n_ic (v := nI 0) dX3_init_97 rfl ?_
  refine n_istn (ls' := [some (.ref (eB E + i)), some (.int (nI 0))]) dX3_init_98 rfl (by decide) rfl rfl ?_
  refine n_f (n' := n + 33 + 4 * 0) rfl (congrArg (fun G => upE G i (.inr (5, [.ref (eB E + n), .ref (eB E + (n + 10)), .long 0, .ref (eB E + (n + 11)), .ref (eB E + (n + 12)), .ref (eB E + (n + 16)), .ref (eB E + (n + 20)), .ref (eB E + (n + 29)), .ref (eB E + (n + 30)), .ref (eB E + (n + 31)), .ref (eB E + (n + 32)), .int 0]))) hX3_row) ?_
  exact KR 0 (by decide)
def FX9 (E : Ev) (g : Nat → va_E) (i n : Nat) : Nat → va_E := upE (FX6 E (FX3 E g n (n + 1)) (n + 86) (n + 87)) i (.inr (9, [.ref (eB E + n), .ref (eB E + (n + 86))]))
theorem FX9_c {E : Ev} {g : Nat → va_E} {i n a : Nat} {x : va_E} (h1 : ¬ a = i) (h2 : a < n ∨ n + 106 ≤ a) : FX9 E (upE g a x) i n = upE (FX9 E g i n) a x := by
  unfold FX9
  rw [FX3_c (a := a) (by omega) (by omega), FX6_c (a := a) (by omega) (by omega), upE_comm (i := a) (by omega)]
theorem FX9_i {E : Ev} {g : Nat → va_E} {i n : Nat} : FX9 E g i n i = (.inr (9, [.ref (eB E + n), .ref (eB E + (n + 86))])) := upE_eq _ _ _
set_option maxRecDepth 100000 in
theorem cc_X9 {l : Launch} {E : Ev} {g : Nat → va_E} {i n : Nat} (hi : i < n) : Nt l E yX9_init cX9_init 1 4 106 5209 (eB E + i) n (upE g i (.inr (9, [.null, .null]))) (n + 106) (FX9 E g i n) := by
  refine Nt.of (own := RX9) rfl rfl [some (.ref (eB E + i))] (by decide) (Nat.le_of_ble_eq_true rfl) rfl ?_
  refine n_aln dX9_init_0 rfl rfl ?_
  refine n_obj (wg1 (i := 34) rfl rfl) dX9_init_1 (Nat.le_of_ble_eq_true rfl) (Nat.le_of_ble_eq_true rfl) ?_
  refine n_aln dX9_init_4 rfl rfl ?_
  refine n_new (ci := 5) tyX3 tyX3_ok lays_X3 rfl (wg1 (i := 37) rfl rfl) in_X3 ii_X3 fd_X3 (Nat.le_of_ble_eq_true rfl) (Nat.le_of_ble_eq_true rfl) dX9_init_5 ?_
  refine n_dup dX9_init_8 rfl ?_
  refine n_call (lv' := 3) mi_X3 (wg1 (i := 39) rfl rfl) ⟨Nat.le_of_ble_eq_true rfl, Nat.le_of_ble_eq_true rfl⟩ (cc_X3 (i := n) (n := (n + 1)) (by omega)) (Nat.le_of_ble_eq_true rfl) dX9_init_9 ⟨Nat.le_of_ble_eq_true rfl, Nat.le_of_ble_eq_true rfl⟩ ?_
  refine n_f (n' := (n + 86)) rfl (FX3_c (show ¬ i = n by omega) (by omega)) ?_
  refine n_putF (i := i) (ci := 9) (ty0 := tyX9) 0 lays_X9 tyX9_ok nmX9 rfl (by omega) (upE_eq _ _ _) (by decide) (wg2 (i := 1) rfl rfl) rfl rfl rfl rfl rfl (Nat.le_of_ble_eq_true rfl) (fun _ _ h => h) dX9_init_12 ?_
  refine n_ov (b' := (.inr (9, [.ref (eB E + n), .null]))) rfl ?_
  refine n_aln dX9_init_15 rfl rfl ?_
  refine n_new (ci := 7) tyX6 tyX6_ok lays_X6 rfl (wg1 (i := 200) rfl rfl) in_X6 ii_X6 fd_X6 (Nat.le_of_ble_eq_true rfl) (Nat.le_of_ble_eq_true rfl) dX9_init_16 ?_
  refine n_dup dX9_init_19 rfl ?_
  refine n_call (lv' := 2) mi_X6 (wg1 (i := 202) rfl rfl) ⟨Nat.le_of_ble_eq_true rfl, Nat.le_of_ble_eq_true rfl⟩ (cc_X6 (i := (n + 86)) (n := (n + 87)) (by omega)) (Nat.le_of_ble_eq_true rfl) dX9_init_20 ⟨Nat.le_of_ble_eq_true rfl, Nat.le_of_ble_eq_true rfl⟩ ?_
  refine n_f (n' := (n + 106)) rfl (FX6_c (show ¬ i = (n + 86) by omega) (by omega)) ?_
  refine n_putF (i := i) (ci := 9) (ty0 := tyX9) 1 lays_X9 tyX9_ok nmX9 rfl (by omega) (upE_eq _ _ _) (by decide) (wg2 (i := 2) rfl rfl) rfl rfl rfl rfl rfl (Nat.le_of_ble_eq_true rfl) (fun _ _ h => h) dX9_init_23 ?_
  refine n_ov (b' := (.inr (9, [.ref (eB E + n), .ref (eB E + (n + 86))]))) rfl ?_
  exact n_vret dX9_init_26 rfl (Nat.le_of_ble_eq_true rfl) (Nat.le_of_ble_eq_true rfl) rfl rfl
