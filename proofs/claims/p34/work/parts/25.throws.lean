/-! throws -/
set_option maxRecDepth 100000 in
theorem thr_36 : ThrOK 36 40 "java/lang/IllegalArgumentException" := ⟨by decide +kernel, by decide +kernel, by decide +kernel, by decide +kernel, by decide +kernel, by decide +kernel⟩
set_option maxRecDepth 100000 in
theorem thr_57 : ThrOK 57 61 "java/lang/UnsupportedOperationException" := ⟨by decide +kernel, by decide +kernel, by decide +kernel, by decide +kernel, by decide +kernel, by decide +kernel⟩
set_option maxRecDepth 100000 in
theorem thr_111 : ThrOK 111 115 "java/lang/IllegalStateException" := ⟨by decide +kernel, by decide +kernel, by decide +kernel, by decide +kernel, by decide +kernel, by decide +kernel⟩
set_option maxRecDepth 100000 in
theorem thr_143 : ThrOK 143 147 "java/lang/IndexOutOfBoundsException" := ⟨by decide +kernel, by decide +kernel, by decide +kernel, by decide +kernel, by decide +kernel, by decide +kernel⟩
set_option maxRecDepth 100000 in
theorem thr_226 : ThrOK 226 230 "java/lang/ArithmeticException" := ⟨by decide +kernel, by decide +kernel, by decide +kernel, by decide +kernel, by decide +kernel, by decide +kernel⟩
/-- the throw of NoSuchElementException, whose own constructor's link has another number in its pool than the kit's throws know: a rule to be proved by its own text -/
def NseR (l : Launch) (E : Ev) : Prop := ∀ (cc : ByteArray) (nL : Nat) (rt : Option FieldType) (pc : Nat) (ls : List (Option Value)) (st : List Value) (M : Mm) (post : Option Value → Mm → Prop) (px : String → Mm → Prop) (is lv : Nat) (text : String), (is, text) ∈ strs →
  decode cc pc = .ok (.new 126, 3) → decode cc (pc + 3) = .ok (.dup, 1) → decode cc (pc + 4) = .ok (.ldc is, 2) → decode cc (pc + 6) = .ok (.invokespecial 130, 3) → decode cc (pc + 9) = .ok (.athrow, 1) → 6 ≤ lv → (st.map fun v => v.category).sum ≤ 8 → px "java/util/NoSuchElementException" M → Jd l E RX9 cc nL rt [] (rmm lv 1 6) (QfX E post px) 0 0 pc ls st M
