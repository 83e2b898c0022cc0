/-! the law's body, case by case -/
def Sp_setNumber (l : Launch) (E : Ev) (Inv : Mm → Prop) : Prop := ∀ (M : Mm) (p0 : Int32) (p1 : Int32) (p2 : Int32) (p3 : Int32), Inv M → ∃ K, CtW l E yL_setNumber cL_setNumber 7 (some .int) [(0, 14, 17, 13), (0, 14, 21, 15)] 8 1 6 [.ref (eA E 0 0), .int p0, .int p1, .int p2, .int p3, .ref (eA E 14 0)] M K ∧ ∀ v M1, K v M1 → ∃ k, k < 8 ∧ v = some (.int (nI k)) ∧ ∃ lv P, lv ≤ 9 ∧ Ct l E yX10_setNumber cX10_setNumber 9 (some .int) lv 0 0 [.ref (eA E 12 0), .int p0, .int p1, .int p2, .int p3] M1 P ∧ ∀ v2 M2, P v2 M2 → ∃ w, v2 = some (.int w) ∧ mI M2 12 0 = nI k ∧ (k = 0 → mW M2 2 = w.toInt64) ∧ Inv M2
def Sp_number (l : Launch) (E : Ev) (Inv : Mm → Prop) : Prop := ∀ (M : Mm) (p0 : Int32), Inv M → ∃ K, CtW l E yL_number cL_number 4 (some .int) [(0, 9, 12, 13)] 8 1 6 [.ref (eA E 0 0), .int p0, .ref (eA E 14 0)] M K ∧ ∀ v M1, K v M1 → ∃ k, k < 8 ∧ v = some (.int (nI k)) ∧ ∃ lv P, lv ≤ 9 ∧ Ct l E yX10_number cX10_number 2 (some .int) lv 0 0 [.ref (eA E 12 0), .int p0] M1 P ∧ ∀ v2 M2, P v2 M2 → ∃ w, v2 = some (.int w) ∧ mI M2 12 0 = nI k ∧ (k = 0 → mW M2 2 = w.toInt64) ∧ Inv M2
def Sp_addFeature (l : Launch) (E : Ev) (Inv : Mm → Prop) : Prop := ∀ (M : Mm) (p0 : Int32) (p1 : Int32) (p2 : Int32) (p3 : Int32), Inv M → ∃ K, CtW l E yL_addFeature cL_addFeature 7 (some .int) [(0, 14, 17, 13), (0, 14, 21, 25), (0, 14, 25, 15)] 8 1 6 [.ref (eA E 0 0), .int p0, .int p1, .int p2, .int p3, .ref (eA E 14 0)] M K ∧ ∀ v M1, K v M1 → ∃ k, k < 8 ∧ v = some (.int (nI k)) ∧ ∃ lv P, lv ≤ 9 ∧ Ct l E yX10_addFeature cX10_addFeature 8 (some .int) lv 0 0 [.ref (eA E 12 0), .int p0, .int p1, .int p2, .int p3] M1 P ∧ ∀ v2 M2, P v2 M2 → ∃ w, v2 = some (.int w) ∧ mI M2 12 0 = nI k ∧ (k = 0 → mW M2 2 = w.toInt64) ∧ Inv M2
def Sp_setSize (l : Launch) (E : Ev) (Inv : Mm → Prop) : Prop := ∀ (M : Mm) (p0 : Int32) (p1 : Int32) (p2 : Int32) (p3 : Int32), Inv M → ∃ K, CtW l E yL_setSize cL_setSize 7 (some .int) [(0, 14, 17, 31), (0, 14, 21, 13)] 8 1 6 [.ref (eA E 0 0), .int p0, .int p1, .int p2, .int p3, .ref (eA E 14 0)] M K ∧ ∀ v M1, K v M1 → ∃ k, k < 8 ∧ v = some (.int (nI k)) ∧ ∃ lv P, lv ≤ 9 ∧ Ct l E yX10_setSize cX10_setSize 6 (some .int) lv 0 0 [.ref (eA E 12 0), .int p0, .int p1, .int p2, .int p3] M1 P ∧ ∀ v2 M2, P v2 M2 → ∃ w, v2 = some (.int w) ∧ mI M2 12 0 = nI k ∧ (k = 0 → mW M2 2 = w.toInt64) ∧ Inv M2
def Sp_remove (l : Launch) (E : Ev) (Inv : Mm → Prop) : Prop := ∀ (M : Mm) (p0 : Int32), Inv M → ∃ K, CtW l E yL_remove cL_remove 4 (some .int) [(0, 9, 12, 31), (0, 9, 15, 15)] 8 1 6 [.ref (eA E 0 0), .int p0, .ref (eA E 14 0)] M K ∧ ∀ v M1, K v M1 → ∃ k, k < 8 ∧ v = some (.int (nI k)) ∧ ∃ lv P, lv ≤ 9 ∧ Ct l E yX10_remove cX10_remove 3 (some .int) lv 0 0 [.ref (eA E 12 0), .int p0] M1 P ∧ ∀ v2 M2, P v2 M2 → ∃ w, v2 = some (.int w) ∧ mI M2 12 0 = nI k ∧ (k = 0 → mW M2 2 = w.toInt64) ∧ Inv M2
def Sp_move (l : Launch) (E : Ev) (Inv : Mm → Prop) : Prop := ∀ (M : Mm) (p0 : Int32) (p1 : Int32), Inv M → ∃ K, CtW l E yL_move cL_move 5 (some .int) [(0, 10, 13, 31), (0, 10, 17, 40), (0, 10, 21, 15)] 8 1 6 [.ref (eA E 0 0), .int p0, .int p1, .ref (eA E 14 0)] M K ∧ ∀ v M1, K v M1 → ∃ k, k < 8 ∧ v = some (.int (nI k)) ∧ ∃ lv P, lv ≤ 9 ∧ Ct l E yX10_move cX10_move 4 (some .int) lv 0 0 [.ref (eA E 12 0), .int p0, .int p1] M1 P ∧ ∀ v2 M2, P v2 M2 → ∃ w, v2 = some (.int w) ∧ mI M2 12 0 = nI k ∧ (k = 0 → mW M2 2 = w.toInt64) ∧ Inv M2
def Sp_putOff (l : Launch) (E : Ev) (Inv : Mm → Prop) : Prop := ∀ (M : Mm) (p0 : Int32) (p1 : Bool), Inv M → ∃ K, CtW l E yL_putOff cL_putOff 5 (some .int) [(0, 17, 20, 31)] 8 1 6 [.ref (eA E 0 0), .int p0, .int (bI p1), .ref (eA E 14 0)] M K ∧ ∀ v M1, K v M1 → ∃ k, k < 8 ∧ v = some (.int (nI k)) ∧ ∃ lv P, lv ≤ 9 ∧ Ct l E yX10_putOff cX10_putOff 4 (some .boolean) lv 0 0 [.ref (eA E 12 0), .int p0, .int (bI p1)] M1 P ∧ ∀ v2 M2, P v2 M2 → ∃ w, v2 = some (.int w) ∧ mI M2 12 0 = nI k ∧ (k = 0 → mW M2 2 = (if w = 0 then 0 else 1)) ∧ Inv M2
def Sp_setBar (l : Launch) (E : Ev) (Inv : Mm → Prop) : Prop := ∀ (M : Mm) (p0 : Int32), Inv M → ∃ K, CtW l E yL_setBar cL_setBar 4 (some .int) [(0, 9, 12, 40)] 8 1 6 [.ref (eA E 0 0), .int p0, .ref (eA E 14 0)] M K ∧ ∀ v M1, K v M1 → ∃ k, k < 8 ∧ v = some (.int (nI k)) ∧ ∃ lv P, lv ≤ 9 ∧ Ct l E yX10_setBar cX10_setBar 3 (some .int) lv 0 0 [.ref (eA E 12 0), .int p0] M1 P ∧ ∀ v2 M2, P v2 M2 → ∃ w, v2 = some (.int w) ∧ mI M2 12 0 = nI k ∧ (k = 0 → mW M2 2 = w.toInt64) ∧ Inv M2
def Sp_place (l : Launch) (E : Ev) (Inv : Mm → Prop) : Prop := ∀ (M : Mm) (p0 : Int32), Inv M → ∃ K, CtW l E yL_place cL_place 4 (some .int) [(0, 9, 12, 31)] 8 1 6 [.ref (eA E 0 0), .int p0, .ref (eA E 14 0)] M K ∧ ∀ v M1, K v M1 → ∃ k, k < 8 ∧ v = some (.int (nI k)) ∧ ∃ lv P, lv ≤ 9 ∧ Ct l E yX10_place cX10_place 2 (some .int) lv 0 0 [.ref (eA E 12 0), .int p0] M1 P ∧ ∀ v2 M2, P v2 M2 → ∃ w, v2 = some (.int w) ∧ mI M2 12 0 = nI k ∧ (k = 0 → mW M2 2 = w.toInt64) ∧ Inv M2
def Sp_state (l : Launch) (E : Ev) (Inv : Mm → Prop) : Prop := ∀ (M : Mm) (p0 : Int32), Inv M → ∃ K, CtW l E yL_state cL_state 4 (some .int) [(0, 9, 12, 31)] 8 1 6 [.ref (eA E 0 0), .int p0, .ref (eA E 14 0)] M K ∧ ∀ v M1, K v M1 → ∃ k, k < 8 ∧ v = some (.int (nI k)) ∧ ∃ lv P, lv ≤ 9 ∧ Ct l E yX10_state cX10_state 2 (some .char) lv 0 0 [.ref (eA E 12 0), .int p0] M1 P ∧ ∀ v2 M2, P v2 M2 → ∃ w, v2 = some (.int w) ∧ mI M2 12 0 = nI k ∧ (k = 0 → mW M2 2 = w.toInt64) ∧ Inv M2
def Sp_worked (l : Launch) (E : Ev) (Inv : Mm → Prop) : Prop := ∀ (M : Mm), Inv M → ∃ lv1 P1, lv1 ≤ 9 ∧ Ct l E yX9_worked cX9_worked 1 (some .long) lv1 0 0 [.ref (eA E 0 0)] M P1 ∧ ∀ v M1, P1 v M1 → ∃ a, v = some (.long a) ∧ ∃ lv2 P2, lv2 ≤ 9 ∧ Ct l E yX10_worked cX10_worked 1 (some .long) lv2 0 0 [.ref (eA E 12 0)] M1 P2 ∧ ∀ v2 M2, P2 v2 M2 → v2 = some (.long a) ∧ Inv M2
def Sp_has (l : Launch) (E : Ev) (Inv : Mm → Prop) : Prop := ∀ (M : Mm) (p0 : Int32) (p1 : Int32) (p2 : Int32), Inv M → ∃ K, CtW l E yL_has cL_has 6 (some .int) [(0, 19, 22, 40)] 8 1 6 [.ref (eA E 0 0), .int p0, .int p1, .int p2, .ref (eA E 14 0)] M K ∧ ∀ v M1, K v M1 → ∃ k, k < 8 ∧ v = some (.int (nI k)) ∧ ∃ lv P, lv ≤ 9 ∧ Ct l E yX10_has cX10_has 5 (some .boolean) lv 0 0 [.ref (eA E 12 0), .int p0, .int p1, .int p2] M1 P ∧ ∀ v2 M2, P v2 M2 → ∃ w, v2 = some (.int w) ∧ mI M2 12 0 = nI k ∧ (k = 0 → mW M2 2 = (if w = 0 then 0 else 1)) ∧ Inv M2
def Sp_hasAnew (l : Launch) (E : Ev) (Inv : Mm → Prop) : Prop := ∀ (M : Mm) (p0 : Int32) (p1 : Int32) (p2 : Int32), Inv M → ∃ K, CtW l E yL_hasAnew cL_hasAnew 6 (some .int) [(0, 19, 22, 40)] 8 1 6 [.ref (eA E 0 0), .int p0, .int p1, .int p2, .ref (eA E 14 0)] M K ∧ ∀ v M1, K v M1 → ∃ k, k < 8 ∧ v = some (.int (nI k)) ∧ ∃ lv P, lv ≤ 9 ∧ Ct l E yX10_hasAnew cX10_hasAnew 4 (some .boolean) lv 0 0 [.ref (eA E 12 0), .int p0, .int p1, .int p2] M1 P ∧ ∀ v2 M2, P v2 M2 → ∃ w, v2 = some (.int w) ∧ mI M2 12 0 = nI k ∧ (k = 0 → mW M2 2 = (if w = 0 then 0 else 1)) ∧ Inv M2
def Sp_nameOf (l : Launch) (E : Ev) (Inv : Mm → Prop) : Prop := ∀ (M : Mm) (p0 : Int32) (p1 : Int32) (p2 : Int32) (p3 : Int32), Inv M → ∃ K, CtW l E yL_nameOf cL_nameOf 7 (some .int) [(0, 14, 17, 40), (0, 14, 21, 13), (0, 14, 25, 31)] 8 1 6 [.ref (eA E 0 0), .int p0, .int p1, .int p2, .int p3, .ref (eA E 14 0)] M K ∧ ∀ v M1, K v M1 → ∃ k, k < 8 ∧ v = some (.int (nI k)) ∧ ∃ lv P, lv ≤ 9 ∧ Ct l E yX10_nameOf cX10_nameOf 6 (some .int) lv 0 0 [.ref (eA E 12 0), .int p0, .int p1, .int p2, .int p3] M1 P ∧ ∀ v2 M2, P v2 M2 → ∃ w, v2 = some (.int w) ∧ mI M2 12 0 = nI k ∧ (k = 0 → mW M2 2 = w.toInt64) ∧ Inv M2
def Sp_squares (l : Launch) (E : Ev) (Inv : Mm → Prop) : Prop := ∀ (M : Mm) (p0 : Int32) (p1 : Int32), Inv M → ∃ K, CtW l E yL_squares cL_squares 5 (some .int) [(0, 10, 13, 13)] 8 1 6 [.ref (eA E 0 0), .int p0, .int p1, .ref (eA E 14 0)] M K ∧ ∀ v M1, K v M1 → ∃ k, k < 8 ∧ v = some (.int (nI k)) ∧ ∃ lv P, lv ≤ 9 ∧ Ct l E yX10_squares cX10_squares 5 (some .int) lv 0 0 [.ref (eA E 12 0), .int p0, .int p1] M1 P ∧ ∀ v2 M2, P v2 M2 → ∃ w, v2 = some (.int w) ∧ mI M2 12 0 = nI k ∧ (k = 0 → mW M2 2 = w.toInt64) ∧ Inv M2
def Sp_volume (l : Launch) (E : Ev) (Inv : Mm → Prop) : Prop := ∀ (M : Mm), Inv M → ∃ lv1 P1, lv1 ≤ 9 ∧ Ct l E yX9_volume cX9_volume 1 (some .int) lv1 0 0 [.ref (eA E 0 0)] M P1 ∧ ∀ v M1, P1 v M1 → ∃ a, v = some (.int a) ∧ ∃ lv2 P2, lv2 ≤ 9 ∧ Ct l E yX10_volume cX10_volume 3 (some .int) lv2 0 0 [.ref (eA E 12 0)] M1 P2 ∧ ∀ v2 M2, P2 v2 M2 → v2 = some (.int a) ∧ Inv M2
def Sp_area (l : Launch) (E : Ev) (Inv : Mm → Prop) : Prop := ∀ (M : Mm), Inv M → ∃ lv1 P1, lv1 ≤ 9 ∧ Ct l E yX9_area cX9_area 3 (some .int) lv1 0 0 [.ref (eA E 0 0)] M P1 ∧ ∀ v M1, P1 v M1 → ∃ a, v = some (.int a) ∧ ∃ lv2 P2, lv2 ≤ 9 ∧ Ct l E yX10_area cX10_area 3 (some .int) lv2 0 0 [.ref (eA E 12 0)] M1 P2 ∧ ∀ v2 M2, P2 v2 M2 → v2 = some (.int a) ∧ Inv M2
def Sp_bodies (l : Launch) (E : Ev) (Inv : Mm → Prop) : Prop := ∀ (M : Mm), Inv M → ∃ lv1 P1, lv1 ≤ 9 ∧ Ct l E yX9_bodies cX9_bodies 1 (some .int) lv1 0 0 [.ref (eA E 0 0)] M P1 ∧ ∀ v M1, P1 v M1 → ∃ a, v = some (.int a) ∧ ∃ lv2 P2, lv2 ≤ 9 ∧ Ct l E yX10_bodies cX10_bodies 2 (some .int) lv2 0 0 [.ref (eA E 12 0)] M1 P2 ∧ ∀ v2 M2, P2 v2 M2 → v2 = some (.int a) ∧ Inv M2
def Sp_euler (l : Launch) (E : Ev) (Inv : Mm → Prop) : Prop := ∀ (M : Mm), Inv M → ∃ lv1 P1, lv1 ≤ 9 ∧ Ct l E yX9_euler cX9_euler 1 (some .int) lv1 0 0 [.ref (eA E 0 0)] M P1 ∧ ∀ v M1, P1 v M1 → ∃ a, v = some (.int a) ∧ ∃ lv2 P2, lv2 ≤ 9 ∧ Ct l E yX10_euler cX10_euler 3 (some .int) lv2 0 0 [.ref (eA E 12 0)] M1 P2 ∧ ∀ v2 M2, P2 v2 M2 → v2 = some (.int a) ∧ Inv M2
def Sp_centre (l : Launch) (E : Ev) (Inv : Mm → Prop) : Prop := ∀ (M : Mm) (p0 : Int32), Inv M → ∃ K, CtW l E yL_centre cL_centre 4 (some .int) [(0, 8, 11, 13), (0, 8, 14, 73)] 8 1 6 [.ref (eA E 0 0), .int p0, .ref (eA E 15 0)] M K ∧ ∀ v M1, K v M1 → ∃ k, k < 8 ∧ v = some (.int (nI k)) ∧ ∃ lv P, lv ≤ 9 ∧ Ct l E yX10_centre cX10_centre 5 (some .double) lv 0 0 [.ref (eA E 12 0), .int p0] M1 P ∧ ∀ v2 M2, P v2 M2 → ∃ w, v2 = some (.double w) ∧ mI M2 12 0 = nI k ∧ (k = 0 → mD M2 = w) ∧ Inv M2
def Sp_filled (l : Launch) (E : Ev) (Inv : Mm → Prop) : Prop := ∀ (M : Mm), Inv M → ∃ lv1 P1, lv1 ≤ 9 ∧ Ct l E yX9_filled cX9_filled 1 (some .float) lv1 0 0 [.ref (eA E 0 0)] M P1 ∧ ∀ v M1, P1 v M1 → ∃ a, v = some (.float a) ∧ vf_n64 (FP.f2d a) ∧ ∃ lv2 P2, lv2 ≤ 9 ∧ Ct l E yX10_filled cX10_filled 1 (some .float) lv2 0 0 [.ref (eA E 12 0)] M1 P2 ∧ ∀ v2 M2, P2 v2 M2 → v2 = some (.float a) ∧ Inv M2
def Sp_addPart (l : Launch) (E : Ev) (Inv : Mm → Prop) : Prop := ∀ (M : Mm) (p0 : Int32) (p1 : Int32) (p2 : Int32), Inv M → ∃ K, CtW l E yL_addPart cL_addPart 6 (some .int) [(0, 12, 15, 13), (0, 12, 19, 25)] 8 1 6 [.ref (eA E 0 0), .int p0, .int p1, .int p2, .ref (eA E 14 0)] M K ∧ ∀ v M1, K v M1 → ∃ k, k < 8 ∧ v = some (.int (nI k)) ∧ ∃ lv P, lv ≤ 9 ∧ Ct l E yX10_addPart cX10_addPart 4 (some .int) lv 0 0 [.ref (eA E 12 0), .int p0, .int p1, .int p2] M1 P ∧ ∀ v2 M2, P v2 M2 → ∃ w, v2 = some (.int w) ∧ mI M2 12 0 = nI k ∧ (k = 0 → mW M2 2 = w.toInt64) ∧ Inv M2
def Sp_freeze (l : Launch) (E : Ev) (Inv : Mm → Prop) : Prop := ∀ (M : Mm) (p0 : Int32) (p1 : Bool), Inv M → ∃ K, CtW l E yL_freeze cL_freeze 5 (some .int) [(0, 17, 20, 40)] 8 1 6 [.ref (eA E 0 0), .int p0, .int (bI p1), .ref (eA E 14 0)] M K ∧ ∀ v M1, K v M1 → ∃ k, k < 8 ∧ v = some (.int (nI k)) ∧ ∃ lv P, lv ≤ 9 ∧ Ct l E yX10_freeze cX10_freeze 5 (some .boolean) lv 0 0 [.ref (eA E 12 0), .int p0, .int (bI p1)] M1 P ∧ ∀ v2 M2, P v2 M2 → ∃ w, v2 = some (.int w) ∧ mI M2 12 0 = nI k ∧ (k = 0 → mW M2 2 = (if w = 0 then 0 else 1)) ∧ Inv M2
def Sp_mate (l : Launch) (E : Ev) (Inv : Mm → Prop) : Prop := ∀ (M : Mm) (p0 : Int32) (p1 : Int32) (p2 : Int32) (p3 : Int32), Inv M → ∃ K, CtW l E yL_mate cL_mate 7 (some .int) [(0, 14, 17, 40), (0, 14, 21, 13), (0, 14, 25, 15), (0, 14, 29, 25)] 8 1 6 [.ref (eA E 0 0), .int p0, .int p1, .int p2, .int p3, .ref (eA E 14 0)] M K ∧ ∀ v M1, K v M1 → ∃ k, k < 8 ∧ v = some (.int (nI k)) ∧ ∃ lv P, lv ≤ 9 ∧ Ct l E yX10_mate cX10_mate 8 (some .int) lv 0 0 [.ref (eA E 12 0), .int p0, .int p1, .int p2, .int p3] M1 P ∧ ∀ v2 M2, P v2 M2 → ∃ w, v2 = some (.int w) ∧ mI M2 12 0 = nI k ∧ (k = 0 → mW M2 2 = w.toInt64) ∧ Inv M2
def Sp_drag (l : Launch) (E : Ev) (Inv : Mm → Prop) : Prop := ∀ (M : Mm) (p0 : Int32) (p1 : Int32) (p2 : Int32), Inv M → ∃ K, CtW l E yL_drag cL_drag 6 (some .int) [(0, 12, 15, 40), (0, 12, 19, 13), (0, 12, 23, 15)] 8 1 6 [.ref (eA E 0 0), .int p0, .int p1, .int p2, .ref (eA E 14 0)] M K ∧ ∀ v M1, K v M1 → ∃ k, k < 8 ∧ v = some (.int (nI k)) ∧ ∃ lv P, lv ≤ 9 ∧ Ct l E yX10_drag cX10_drag 4 (some .int) lv 0 0 [.ref (eA E 12 0), .int p0, .int p1, .int p2] M1 P ∧ ∀ v2 M2, P v2 M2 → ∃ w, v2 = some (.int w) ∧ mI M2 12 0 = nI k ∧ (k = 0 → mW M2 2 = w.toInt64) ∧ Inv M2
def Sp_moved (l : Launch) (E : Ev) (Inv : Mm → Prop) : Prop := ∀ (M : Mm) (p0 : Int32) (p1 : Int32), Inv M → ∃ K, CtW l E yL_moved cL_moved 5 (some .int) [(0, 10, 13, 40), (0, 10, 17, 13)] 8 1 6 [.ref (eA E 0 0), .int p0, .int p1, .ref (eA E 14 0)] M K ∧ ∀ v M1, K v M1 → ∃ k, k < 8 ∧ v = some (.int (nI k)) ∧ ∃ lv P, lv ≤ 9 ∧ Ct l E yX10_moved cX10_moved 3 (some .int) lv 0 0 [.ref (eA E 12 0), .int p0, .int p1] M1 P ∧ ∀ v2 M2, P v2 M2 → ∃ w, v2 = some (.int w) ∧ mI M2 12 0 = nI k ∧ (k = 0 → mW M2 2 = w.toInt64) ∧ Inv M2
def Sp_freedoms (l : Launch) (E : Ev) (Inv : Mm → Prop) : Prop := ∀ (M : Mm), Inv M → ∃ lv1 P1, lv1 ≤ 9 ∧ Ct l E yX9_freedoms cX9_freedoms 1 (some .int) lv1 0 0 [.ref (eA E 0 0)] M P1 ∧ ∀ v M1, P1 v M1 → ∃ a, v = some (.int a) ∧ ∃ lv2 P2, lv2 ≤ 9 ∧ Ct l E yX10_freedoms cX10_freedoms 1 (some .int) lv2 0 0 [.ref (eA E 12 0)] M1 P2 ∧ ∀ v2 M2, P2 v2 M2 → v2 = some (.int a) ∧ Inv M2
def Sp_clashes (l : Launch) (E : Ev) (Inv : Mm → Prop) : Prop := ∀ (M : Mm) (p0 : Int32) (p1 : Int32), Inv M → ∃ K, CtW l E yL_clashes cL_clashes 5 (some .int) [(0, 10, 13, 40), (0, 10, 17, 13)] 8 1 6 [.ref (eA E 0 0), .int p0, .int p1, .ref (eA E 14 0)] M K ∧ ∀ v M1, K v M1 → ∃ k, k < 8 ∧ v = some (.int (nI k)) ∧ ∃ lv P, lv ≤ 9 ∧ Ct l E yX10_clashes cX10_clashes 9 (some .int) lv 0 0 [.ref (eA E 12 0), .int p0, .int p1] M1 P ∧ ∀ v2 M2, P v2 M2 → ∃ w, v2 = some (.int w) ∧ mI M2 12 0 = nI k ∧ (k = 0 → mW M2 2 = w.toInt64) ∧ Inv M2
def Sp_depth (l : Launch) (E : Ev) (Inv : Mm → Prop) : Prop := ∀ (M : Mm) (p0 : Int32) (p1 : Bool) (p2 : Int32) (p3 : Int32), Inv M → ∃ K, CtW l E yL_depth cL_depth 7 (some .int) [(0, 14, 17, 13), (0, 14, 21, 40)] 8 1 6 [.ref (eA E 0 0), .int p0, .int (bI p1), .int p2, .int p3, .ref (eA E 14 0)] M K ∧ ∀ v M1, K v M1 → ∃ k, k < 8 ∧ v = some (.int (nI k)) ∧ ∃ lv P, lv ≤ 9 ∧ Ct l E yX10_depth cX10_depth 5 (some .int) lv 0 0 [.ref (eA E 12 0), .int p0, .int (bI p1), .int p2, .int p3] M1 P ∧ ∀ v2 M2, P v2 M2 → ∃ w, v2 = some (.int w) ∧ mI M2 12 0 = nI k ∧ (k = 0 → mW M2 2 = w.toInt64) ∧ Inv M2
def Sp_lines (l : Launch) (E : Ev) (Inv : Mm → Prop) : Prop := ∀ (M : Mm) (p0 : Int32) (p1 : Bool), Inv M → ∃ K, CtW l E yL_lines cL_lines 5 (some .int) [(0, 10, 13, 13)] 8 1 6 [.ref (eA E 0 0), .int p0, .int (bI p1), .ref (eA E 14 0)] M K ∧ ∀ v M1, K v M1 → ∃ k, k < 8 ∧ v = some (.int (nI k)) ∧ ∃ lv P, lv ≤ 9 ∧ Ct l E yX10_lines cX10_lines 8 (some .int) lv 0 0 [.ref (eA E 12 0), .int p0, .int (bI p1)] M1 P ∧ ∀ v2 M2, P v2 M2 → ∃ w, v2 = some (.int w) ∧ mI M2 12 0 = nI k ∧ (k = 0 → mW M2 2 = w.toInt64) ∧ Inv M2
def Sp_isSound (l : Launch) (E : Ev) (Inv : Mm → Prop) : Prop := ∀ (M : Mm), Inv M → ∃ lv1 P1, lv1 ≤ 9 ∧ Ct l E yX9_isSound cX9_isSound 2 (some .boolean) lv1 0 0 [.ref (eA E 0 0)] M P1 ∧ ∀ v M1, P1 v M1 → ∃ a, v = some (.int a) ∧ ∃ lv2 P2, lv2 ≤ 9 ∧ Ct l E yX10_isSound cX10_isSound 1 (some .boolean) lv2 0 0 [.ref (eA E 12 0)] M1 P2 ∧ ∀ v2 M2, P2 v2 M2 → v2 = some (.int a) ∧ Inv M2
set_option maxRecDepth 100000 in
set_option maxHeartbeats 4000000 in
theorem lb_setNumber {l : Launch} {E : Ev} {b L : Nat} {xs : Nat → Int32} {Inv : Mm → Prop} {M : Mm} {K N t : Nat} {o6 o7 o8 o9 : Option Value} (hL : L ≤ 2560) (ht : 5 * t + 5 ≤ L) (hK : K + 512 ≤ 603072) (hN : N + 3072 ≤ 7207018) (hs : Sp_setNumber l E Inv) (hI : Inv M) (TL : ∀ (M' : Mm) (k' n' : Nat) (o6 o7 o8 o9 : Option Value), Inv M' → k' ≤ K + (t + 1) → n' ≤ N + 6 * (t + 1) → JL l E b L xs k' n' 2120 [some (.ref b), some (.ref (eA E 0 0)), some (.ref (eA E 12 0)), some (.ref (eA E 14 0)), some (.ref (eA E 15 0)), some (.int (nI (5 * t))), o6, o7, o8, o9] [] M') : JL l E b L xs (K + t) (N + 6 * t) 184 [some (.ref b), some (.ref (eA E 0 0)), some (.ref (eA E 12 0)), some (.ref (eA E 14 0)), some (.ref (eA E 15 0)), some (.int (nI (5 * t))), o6, o7, o8, o9] [] M := by
  refine j_aln dL_law_184 rfl rfl ?_
  refine j_aln dL_law_185 rfl rfl ?_
  refine j_il dL_law_186 rfl ?_
  refine j_icN 1 dL_law_188 rfl ?_
  refine j_iaddN dL_law_189 ?_
  refine j_sld dL_law_190 (by omega) (by omega) ?_
  refine j_aln dL_law_191 rfl rfl ?_
  refine j_il dL_law_192 rfl ?_
  refine j_icN 2 dL_law_194 rfl ?_
  refine j_iaddN dL_law_195 ?_
  refine j_sld dL_law_196 (by omega) (by omega) ?_
  refine j_aln dL_law_197 rfl rfl ?_
  refine j_il dL_law_198 rfl ?_
  refine j_icN 3 dL_law_200 rfl ?_
  refine j_iaddN dL_law_201 ?_
  refine j_sld dL_law_202 (by omega) (by omega) ?_
  refine j_i2c dL_law_203 ?_
  refine j_aln dL_law_204 rfl rfl ?_
  refine j_il dL_law_205 rfl ?_
  refine j_icN 4 dL_law_207 rfl ?_
  refine j_iaddN dL_law_208 ?_
  refine j_sld dL_law_209 (by omega) (by omega) ?_
  refine j_aln dL_law_210 rfl rfl ?_
  obtain ⟨K1, hC1, hK1⟩ := hs M (xs (5 * t + 1)) (xs (5 * t + 2)) ((xs (5 * t + 3)).toUInt32 % 65536).toInt32 (xs (5 * t + 4)) hI
  refine j_lW (rest := []) mw_setNumber ml_L_106 ⟨(Nat.le_of_ble_eq_true rfl), (Nat.le_of_ble_eq_true rfl)⟩ hC1 rfl rfl (Nat.le_of_ble_eq_true rfl) dL_law_211 ⟨by omega, by omega⟩ (fun v M1 hv => ?_)
  obtain ⟨k, hk8, hve, lv2, P2, hlv2, hC2, hP2⟩ := hK1 v M1 hv
  subst hve
  refine j_ist_6 dL_law_214 (by decide) rfl ?_
  refine j_aln dL_law_216 rfl rfl ?_
  refine j_aln dL_law_217 rfl rfl ?_
  refine j_il dL_law_218 rfl ?_
  refine j_icN 1 dL_law_220 rfl ?_
  refine j_iaddN dL_law_221 ?_
  refine j_sld dL_law_222 (by omega) (by omega) ?_
  refine j_aln dL_law_223 rfl rfl ?_
  refine j_il dL_law_224 rfl ?_
  refine j_icN 2 dL_law_226 rfl ?_
  refine j_iaddN dL_law_227 ?_
  refine j_sld dL_law_228 (by omega) (by omega) ?_
  refine j_aln dL_law_229 rfl rfl ?_
  refine j_il dL_law_230 rfl ?_
  refine j_icN 3 dL_law_232 rfl ?_
  refine j_iaddN dL_law_233 ?_
  refine j_sld dL_law_234 (by omega) (by omega) ?_
  refine j_i2c dL_law_235 ?_
  refine j_aln dL_law_236 rfl rfl ?_
  refine j_il dL_law_237 rfl ?_
  refine j_icN 4 dL_law_239 rfl ?_
  refine j_iaddN dL_law_240 ?_
  refine j_sld dL_law_241 (by omega) (by omega) ?_
  refine j_lV (rest := []) mf_X10_setNumber ml_L_111 ⟨by omega, by omega⟩ hC2 (by decide) rfl rfl rfl rfl (Nat.le_of_ble_eq_true rfl) dL_law_242 ⟨by omega, by omega⟩ (fun v2 M2 hv2 => ?_)
  obtain ⟨w, hw, hth, hout, hI2⟩ := hP2 v2 M2 hv2
  subst hw
  refine j_ist_7 dL_law_245 (by decide) rfl ?_
  refine j_aln dL_law_247 rfl rfl ?_
  refine j_lV (rest := []) mf_X10_thrown ml_L_112 ⟨(Nat.le_of_ble_eq_true rfl), (Nat.le_of_ble_eq_true rfl)⟩ c_X10_thrown (by decide) rfl rfl rfl rfl (Nat.le_of_ble_eq_true rfl) dL_law_248 ⟨by omega, by omega⟩ (fun v3 M3 hv3 => ?_)
  obtain ⟨hv4, hm4⟩ := hv3
  subst hv4
  subst M3
  refine j_topi hth ?_
  refine j_il dL_law_251 rfl ?_
  refine j_iceqN (tgt := 258) dL_law_253 (by decide) (by omega) (by omega) (fun h253 => ?_) (fun h253 => ?_)
  · refine j_il dL_law_258 rfl ?_
    refine j_ifneN (tgt := 275) dL_law_260 (by decide) (by omega) (fun h260 => ?_) (fun h260 => ?_)
    · refine j_goto (tgt := 2120) dL_law_275 (by decide) ?_
      exact TL _ _ _ _ _ _ _ hI2 (by omega) (by omega)
    · refine j_aln dL_law_263 rfl rfl ?_
      refine j_icN 0 dL_law_264 rfl ?_
      refine j_aldO dL_law_265 rfl ?_
      refine j_il dL_law_266 rfl ?_
      refine j_i2l dL_law_268 ?_
      refine j_eq rfl (show [Value.long w.toInt64, Value.long (mW M2 2)] = [Value.long w.toInt64, Value.long w.toInt64] from by rw [hout h260]) rfl ?_
      refine j_lcmp dL_law_269 ?_
      refine j_ifeq (tgt := 275) dL_law_270 (by decide) (fun h270 => ?_) (fun h270 => ?_)
      · refine j_goto (tgt := 2120) dL_law_275 (by decide) ?_
        exact TL _ _ _ _ _ _ _ hI2 (by omega) (by omega)
      · exact absurd (cmp_self _) h270
  · exact absurd rfl h253
set_option maxRecDepth 100000 in
set_option maxHeartbeats 4000000 in
theorem lb_number {l : Launch} {E : Ev} {b L : Nat} {xs : Nat → Int32} {Inv : Mm → Prop} {M : Mm} {K N t : Nat} {o6 o7 o8 o9 : Option Value} (hL : L ≤ 2560) (ht : 5 * t + 5 ≤ L) (hK : K + 512 ≤ 603072) (hN : N + 3072 ≤ 7207018) (hs : Sp_number l E Inv) (hI : Inv M) (TL : ∀ (M' : Mm) (k' n' : Nat) (o6 o7 o8 o9 : Option Value), Inv M' → k' ≤ K + (t + 1) → n' ≤ N + 6 * (t + 1) → JL l E b L xs k' n' 2120 [some (.ref b), some (.ref (eA E 0 0)), some (.ref (eA E 12 0)), some (.ref (eA E 14 0)), some (.ref (eA E 15 0)), some (.int (nI (5 * t))), o6, o7, o8, o9] [] M') : JL l E b L xs (K + t) (N + 6 * t) 278 [some (.ref b), some (.ref (eA E 0 0)), some (.ref (eA E 12 0)), some (.ref (eA E 14 0)), some (.ref (eA E 15 0)), some (.int (nI (5 * t))), o6, o7, o8, o9] [] M := by
  refine j_aln dL_law_278 rfl rfl ?_
  refine j_aln dL_law_279 rfl rfl ?_
  refine j_il dL_law_280 rfl ?_
  refine j_icN 1 dL_law_282 rfl ?_
  refine j_iaddN dL_law_283 ?_
  refine j_sld dL_law_284 (by omega) (by omega) ?_
  refine j_aln dL_law_285 rfl rfl ?_
  obtain ⟨K1, hC1, hK1⟩ := hs M (xs (5 * t + 1)) hI
  refine j_lW (rest := []) mw_number ml_L_116 ⟨(Nat.le_of_ble_eq_true rfl), (Nat.le_of_ble_eq_true rfl)⟩ hC1 rfl rfl (Nat.le_of_ble_eq_true rfl) dL_law_286 ⟨by omega, by omega⟩ (fun v M1 hv => ?_)
  obtain ⟨k, hk8, hve, lv2, P2, hlv2, hC2, hP2⟩ := hK1 v M1 hv
  subst hve
  refine j_ist_6 dL_law_289 (by decide) rfl ?_
  refine j_aln dL_law_291 rfl rfl ?_
  refine j_aln dL_law_292 rfl rfl ?_
  refine j_il dL_law_293 rfl ?_
  refine j_icN 1 dL_law_295 rfl ?_
  refine j_iaddN dL_law_296 ?_
  refine j_sld dL_law_297 (by omega) (by omega) ?_
  refine j_lV (rest := []) mf_X10_number ml_L_119 ⟨by omega, by omega⟩ hC2 (by decide) rfl rfl rfl rfl (Nat.le_of_ble_eq_true rfl) dL_law_298 ⟨by omega, by omega⟩ (fun v2 M2 hv2 => ?_)
  obtain ⟨w, hw, hth, hout, hI2⟩ := hP2 v2 M2 hv2
  subst hw
  refine j_ist_7 dL_law_301 (by decide) rfl ?_
  refine j_aln dL_law_303 rfl rfl ?_
  refine j_lV (rest := []) mf_X10_thrown ml_L_112 ⟨(Nat.le_of_ble_eq_true rfl), (Nat.le_of_ble_eq_true rfl)⟩ c_X10_thrown (by decide) rfl rfl rfl rfl (Nat.le_of_ble_eq_true rfl) dL_law_304 ⟨by omega, by omega⟩ (fun v3 M3 hv3 => ?_)
  obtain ⟨hv4, hm4⟩ := hv3
  subst hv4
  subst M3
  refine j_topi hth ?_
  refine j_il dL_law_307 rfl ?_
  refine j_iceqN (tgt := 314) dL_law_309 (by decide) (by omega) (by omega) (fun h309 => ?_) (fun h309 => ?_)
  · refine j_il dL_law_314 rfl ?_
    refine j_ifneN (tgt := 331) dL_law_316 (by decide) (by omega) (fun h316 => ?_) (fun h316 => ?_)
    · refine j_goto (tgt := 2120) dL_law_331 (by decide) ?_
      exact TL _ _ _ _ _ _ _ hI2 (by omega) (by omega)
    · refine j_aln dL_law_319 rfl rfl ?_
      refine j_icN 0 dL_law_320 rfl ?_
      refine j_aldO dL_law_321 rfl ?_
      refine j_il dL_law_322 rfl ?_
      refine j_i2l dL_law_324 ?_
      refine j_eq rfl (show [Value.long w.toInt64, Value.long (mW M2 2)] = [Value.long w.toInt64, Value.long w.toInt64] from by rw [hout h316]) rfl ?_
      refine j_lcmp dL_law_325 ?_
      refine j_ifeq (tgt := 331) dL_law_326 (by decide) (fun h326 => ?_) (fun h326 => ?_)
      · refine j_goto (tgt := 2120) dL_law_331 (by decide) ?_
        exact TL _ _ _ _ _ _ _ hI2 (by omega) (by omega)
      · exact absurd (cmp_self _) h326
  · exact absurd rfl h309
set_option maxRecDepth 100000 in
set_option maxHeartbeats 4000000 in
theorem lb_addFeature {l : Launch} {E : Ev} {b L : Nat} {xs : Nat → Int32} {Inv : Mm → Prop} {M : Mm} {K N t : Nat} {o6 o7 o8 o9 : Option Value} (hL : L ≤ 2560) (ht : 5 * t + 5 ≤ L) (hK : K + 512 ≤ 603072) (hN : N + 3072 ≤ 7207018) (hs : Sp_addFeature l E Inv) (hI : Inv M) (TL : ∀ (M' : Mm) (k' n' : Nat) (o6 o7 o8 o9 : Option Value), Inv M' → k' ≤ K + (t + 1) → n' ≤ N + 6 * (t + 1) → JL l E b L xs k' n' 2120 [some (.ref b), some (.ref (eA E 0 0)), some (.ref (eA E 12 0)), some (.ref (eA E 14 0)), some (.ref (eA E 15 0)), some (.int (nI (5 * t))), o6, o7, o8, o9] [] M') : JL l E b L xs (K + t) (N + 6 * t) 334 [some (.ref b), some (.ref (eA E 0 0)), some (.ref (eA E 12 0)), some (.ref (eA E 14 0)), some (.ref (eA E 15 0)), some (.int (nI (5 * t))), o6, o7, o8, o9] [] M := by
  refine j_aln dL_law_334 rfl rfl ?_
  refine j_aln dL_law_335 rfl rfl ?_
  refine j_il dL_law_336 rfl ?_
  refine j_icN 1 dL_law_338 rfl ?_
  refine j_iaddN dL_law_339 ?_
  refine j_sld dL_law_340 (by omega) (by omega) ?_
  refine j_i2c dL_law_341 ?_
  refine j_aln dL_law_342 rfl rfl ?_
  refine j_il dL_law_343 rfl ?_
  refine j_icN 2 dL_law_345 rfl ?_
  refine j_iaddN dL_law_346 ?_
  refine j_sld dL_law_347 (by omega) (by omega) ?_
  refine j_aln dL_law_348 rfl rfl ?_
  refine j_il dL_law_349 rfl ?_
  refine j_icN 3 dL_law_351 rfl ?_
  refine j_iaddN dL_law_352 ?_
  refine j_sld dL_law_353 (by omega) (by omega) ?_
  refine j_aln dL_law_354 rfl rfl ?_
  refine j_il dL_law_355 rfl ?_
  refine j_icN 4 dL_law_357 rfl ?_
  refine j_iaddN dL_law_358 ?_
  refine j_sld dL_law_359 (by omega) (by omega) ?_
  refine j_aln dL_law_360 rfl rfl ?_
  obtain ⟨K1, hC1, hK1⟩ := hs M ((xs (5 * t + 1)).toUInt32 % 65536).toInt32 (xs (5 * t + 2)) (xs (5 * t + 3)) (xs (5 * t + 4)) hI
  refine j_lW (rest := []) mw_addFeature ml_L_120 ⟨(Nat.le_of_ble_eq_true rfl), (Nat.le_of_ble_eq_true rfl)⟩ hC1 rfl rfl (Nat.le_of_ble_eq_true rfl) dL_law_361 ⟨by omega, by omega⟩ (fun v M1 hv => ?_)
  obtain ⟨k, hk8, hve, lv2, P2, hlv2, hC2, hP2⟩ := hK1 v M1 hv
  subst hve
  refine j_ist_6 dL_law_364 (by decide) rfl ?_
  refine j_aln dL_law_366 rfl rfl ?_
  refine j_aln dL_law_367 rfl rfl ?_
  refine j_il dL_law_368 rfl ?_
  refine j_icN 1 dL_law_370 rfl ?_
  refine j_iaddN dL_law_371 ?_
  refine j_sld dL_law_372 (by omega) (by omega) ?_
  refine j_i2c dL_law_373 ?_
  refine j_aln dL_law_374 rfl rfl ?_
  refine j_il dL_law_375 rfl ?_
  refine j_icN 2 dL_law_377 rfl ?_
  refine j_iaddN dL_law_378 ?_
  refine j_sld dL_law_379 (by omega) (by omega) ?_
  refine j_aln dL_law_380 rfl rfl ?_
  refine j_il dL_law_381 rfl ?_
  refine j_icN 3 dL_law_383 rfl ?_
  refine j_iaddN dL_law_384 ?_
  refine j_sld dL_law_385 (by omega) (by omega) ?_
  refine j_aln dL_law_386 rfl rfl ?_
  refine j_il dL_law_387 rfl ?_
  refine j_icN 4 dL_law_389 rfl ?_
  refine j_iaddN dL_law_390 ?_
  refine j_sld dL_law_391 (by omega) (by omega) ?_
  refine j_lV (rest := []) mf_X10_addFeature ml_L_123 ⟨by omega, by omega⟩ hC2 (by decide) rfl rfl rfl rfl (Nat.le_of_ble_eq_true rfl) dL_law_392 ⟨by omega, by omega⟩ (fun v2 M2 hv2 => ?_)
  obtain ⟨w, hw, hth, hout, hI2⟩ := hP2 v2 M2 hv2
  subst hw
  refine j_ist_7 dL_law_395 (by decide) rfl ?_
  refine j_aln dL_law_397 rfl rfl ?_
  refine j_lV (rest := []) mf_X10_thrown ml_L_112 ⟨(Nat.le_of_ble_eq_true rfl), (Nat.le_of_ble_eq_true rfl)⟩ c_X10_thrown (by decide) rfl rfl rfl rfl (Nat.le_of_ble_eq_true rfl) dL_law_398 ⟨by omega, by omega⟩ (fun v3 M3 hv3 => ?_)
  obtain ⟨hv4, hm4⟩ := hv3
  subst hv4
  subst M3
  refine j_topi hth ?_
  refine j_il dL_law_401 rfl ?_
  refine j_iceqN (tgt := 408) dL_law_403 (by decide) (by omega) (by omega) (fun h403 => ?_) (fun h403 => ?_)
  · refine j_il dL_law_408 rfl ?_
    refine j_ifneN (tgt := 425) dL_law_410 (by decide) (by omega) (fun h410 => ?_) (fun h410 => ?_)
    · refine j_goto (tgt := 2120) dL_law_425 (by decide) ?_
      exact TL _ _ _ _ _ _ _ hI2 (by omega) (by omega)
    · refine j_aln dL_law_413 rfl rfl ?_
      refine j_icN 0 dL_law_414 rfl ?_
      refine j_aldO dL_law_415 rfl ?_
      refine j_il dL_law_416 rfl ?_
      refine j_i2l dL_law_418 ?_
      refine j_eq rfl (show [Value.long w.toInt64, Value.long (mW M2 2)] = [Value.long w.toInt64, Value.long w.toInt64] from by rw [hout h410]) rfl ?_
      refine j_lcmp dL_law_419 ?_
      refine j_ifeq (tgt := 425) dL_law_420 (by decide) (fun h420 => ?_) (fun h420 => ?_)
      · refine j_goto (tgt := 2120) dL_law_425 (by decide) ?_
        exact TL _ _ _ _ _ _ _ hI2 (by omega) (by omega)
      · exact absurd (cmp_self _) h420
  · exact absurd rfl h403
set_option maxRecDepth 100000 in
set_option maxHeartbeats 4000000 in
theorem lb_setSize {l : Launch} {E : Ev} {b L : Nat} {xs : Nat → Int32} {Inv : Mm → Prop} {M : Mm} {K N t : Nat} {o6 o7 o8 o9 : Option Value} (hL : L ≤ 2560) (ht : 5 * t + 5 ≤ L) (hK : K + 512 ≤ 603072) (hN : N + 3072 ≤ 7207018) (hs : Sp_setSize l E Inv) (hI : Inv M) (TL : ∀ (M' : Mm) (k' n' : Nat) (o6 o7 o8 o9 : Option Value), Inv M' → k' ≤ K + (t + 1) → n' ≤ N + 6 * (t + 1) → JL l E b L xs k' n' 2120 [some (.ref b), some (.ref (eA E 0 0)), some (.ref (eA E 12 0)), some (.ref (eA E 14 0)), some (.ref (eA E 15 0)), some (.int (nI (5 * t))), o6, o7, o8, o9] [] M') : JL l E b L xs (K + t) (N + 6 * t) 428 [some (.ref b), some (.ref (eA E 0 0)), some (.ref (eA E 12 0)), some (.ref (eA E 14 0)), some (.ref (eA E 15 0)), some (.int (nI (5 * t))), o6, o7, o8, o9] [] M := by
  refine j_aln dL_law_428 rfl rfl ?_
  refine j_aln dL_law_429 rfl rfl ?_
  refine j_il dL_law_430 rfl ?_
  refine j_icN 1 dL_law_432 rfl ?_
  refine j_iaddN dL_law_433 ?_
  refine j_sld dL_law_434 (by omega) (by omega) ?_
  refine j_aln dL_law_435 rfl rfl ?_
  refine j_il dL_law_436 rfl ?_
  refine j_icN 2 dL_law_438 rfl ?_
  refine j_iaddN dL_law_439 ?_
  refine j_sld dL_law_440 (by omega) (by omega) ?_
  refine j_aln dL_law_441 rfl rfl ?_
  refine j_il dL_law_442 rfl ?_
  refine j_icN 3 dL_law_444 rfl ?_
  refine j_iaddN dL_law_445 ?_
  refine j_sld dL_law_446 (by omega) (by omega) ?_
  refine j_aln dL_law_447 rfl rfl ?_
  refine j_il dL_law_448 rfl ?_
  refine j_icN 4 dL_law_450 rfl ?_
  refine j_iaddN dL_law_451 ?_
  refine j_sld dL_law_452 (by omega) (by omega) ?_
  refine j_aln dL_law_453 rfl rfl ?_
  obtain ⟨K1, hC1, hK1⟩ := hs M (xs (5 * t + 1)) (xs (5 * t + 2)) (xs (5 * t + 3)) (xs (5 * t + 4)) hI
  refine j_lW (rest := []) mw_setSize ml_L_124 ⟨(Nat.le_of_ble_eq_true rfl), (Nat.le_of_ble_eq_true rfl)⟩ hC1 rfl rfl (Nat.le_of_ble_eq_true rfl) dL_law_454 ⟨by omega, by omega⟩ (fun v M1 hv => ?_)
  obtain ⟨k, hk8, hve, lv2, P2, hlv2, hC2, hP2⟩ := hK1 v M1 hv
  subst hve
  refine j_ist_6 dL_law_457 (by decide) rfl ?_
  refine j_aln dL_law_459 rfl rfl ?_
  refine j_aln dL_law_460 rfl rfl ?_
  refine j_il dL_law_461 rfl ?_
  refine j_icN 1 dL_law_463 rfl ?_
  refine j_iaddN dL_law_464 ?_
  refine j_sld dL_law_465 (by omega) (by omega) ?_
  refine j_aln dL_law_466 rfl rfl ?_
  refine j_il dL_law_467 rfl ?_
  refine j_icN 2 dL_law_469 rfl ?_
  refine j_iaddN dL_law_470 ?_
  refine j_sld dL_law_471 (by omega) (by omega) ?_
  refine j_aln dL_law_472 rfl rfl ?_
  refine j_il dL_law_473 rfl ?_
  refine j_icN 3 dL_law_475 rfl ?_
  refine j_iaddN dL_law_476 ?_
  refine j_sld dL_law_477 (by omega) (by omega) ?_
  refine j_aln dL_law_478 rfl rfl ?_
  refine j_il dL_law_479 rfl ?_
  refine j_icN 4 dL_law_481 rfl ?_
  refine j_iaddN dL_law_482 ?_
  refine j_sld dL_law_483 (by omega) (by omega) ?_
  refine j_lV (rest := []) mf_X10_setSize ml_L_127 ⟨by omega, by omega⟩ hC2 (by decide) rfl rfl rfl rfl (Nat.le_of_ble_eq_true rfl) dL_law_484 ⟨by omega, by omega⟩ (fun v2 M2 hv2 => ?_)
  obtain ⟨w, hw, hth, hout, hI2⟩ := hP2 v2 M2 hv2
  subst hw
  refine j_ist_7 dL_law_487 (by decide) rfl ?_
  refine j_aln dL_law_489 rfl rfl ?_
  refine j_lV (rest := []) mf_X10_thrown ml_L_112 ⟨(Nat.le_of_ble_eq_true rfl), (Nat.le_of_ble_eq_true rfl)⟩ c_X10_thrown (by decide) rfl rfl rfl rfl (Nat.le_of_ble_eq_true rfl) dL_law_490 ⟨by omega, by omega⟩ (fun v3 M3 hv3 => ?_)
  obtain ⟨hv4, hm4⟩ := hv3
  subst hv4
  subst M3
  refine j_topi hth ?_
  refine j_il dL_law_493 rfl ?_
  refine j_iceqN (tgt := 500) dL_law_495 (by decide) (by omega) (by omega) (fun h495 => ?_) (fun h495 => ?_)
  · refine j_il dL_law_500 rfl ?_
    refine j_ifneN (tgt := 517) dL_law_502 (by decide) (by omega) (fun h502 => ?_) (fun h502 => ?_)
    · refine j_goto (tgt := 2120) dL_law_517 (by decide) ?_
      exact TL _ _ _ _ _ _ _ hI2 (by omega) (by omega)
    · refine j_aln dL_law_505 rfl rfl ?_
      refine j_icN 0 dL_law_506 rfl ?_
      refine j_aldO dL_law_507 rfl ?_
      refine j_il dL_law_508 rfl ?_
      refine j_i2l dL_law_510 ?_
      refine j_eq rfl (show [Value.long w.toInt64, Value.long (mW M2 2)] = [Value.long w.toInt64, Value.long w.toInt64] from by rw [hout h502]) rfl ?_
      refine j_lcmp dL_law_511 ?_
      refine j_ifeq (tgt := 517) dL_law_512 (by decide) (fun h512 => ?_) (fun h512 => ?_)
      · refine j_goto (tgt := 2120) dL_law_517 (by decide) ?_
        exact TL _ _ _ _ _ _ _ hI2 (by omega) (by omega)
      · exact absurd (cmp_self _) h512
  · exact absurd rfl h495
set_option maxRecDepth 100000 in
set_option maxHeartbeats 4000000 in
theorem lb_remove {l : Launch} {E : Ev} {b L : Nat} {xs : Nat → Int32} {Inv : Mm → Prop} {M : Mm} {K N t : Nat} {o6 o7 o8 o9 : Option Value} (hL : L ≤ 2560) (ht : 5 * t + 5 ≤ L) (hK : K + 512 ≤ 603072) (hN : N + 3072 ≤ 7207018) (hs : Sp_remove l E Inv) (hI : Inv M) (TL : ∀ (M' : Mm) (k' n' : Nat) (o6 o7 o8 o9 : Option Value), Inv M' → k' ≤ K + (t + 1) → n' ≤ N + 6 * (t + 1) → JL l E b L xs k' n' 2120 [some (.ref b), some (.ref (eA E 0 0)), some (.ref (eA E 12 0)), some (.ref (eA E 14 0)), some (.ref (eA E 15 0)), some (.int (nI (5 * t))), o6, o7, o8, o9] [] M') : JL l E b L xs (K + t) (N + 6 * t) 520 [some (.ref b), some (.ref (eA E 0 0)), some (.ref (eA E 12 0)), some (.ref (eA E 14 0)), some (.ref (eA E 15 0)), some (.int (nI (5 * t))), o6, o7, o8, o9] [] M := by
  refine j_aln dL_law_520 rfl rfl ?_
  refine j_aln dL_law_521 rfl rfl ?_
  refine j_il dL_law_522 rfl ?_
  refine j_icN 1 dL_law_524 rfl ?_
  refine j_iaddN dL_law_525 ?_
  refine j_sld dL_law_526 (by omega) (by omega) ?_
  refine j_aln dL_law_527 rfl rfl ?_
  obtain ⟨K1, hC1, hK1⟩ := hs M (xs (5 * t + 1)) hI
  refine j_lW (rest := []) mw_remove ml_L_128 ⟨(Nat.le_of_ble_eq_true rfl), (Nat.le_of_ble_eq_true rfl)⟩ hC1 rfl rfl (Nat.le_of_ble_eq_true rfl) dL_law_528 ⟨by omega, by omega⟩ (fun v M1 hv => ?_)
  obtain ⟨k, hk8, hve, lv2, P2, hlv2, hC2, hP2⟩ := hK1 v M1 hv
  subst hve
  refine j_ist_6 dL_law_531 (by decide) rfl ?_
  refine j_aln dL_law_533 rfl rfl ?_
  refine j_aln dL_law_534 rfl rfl ?_
  refine j_il dL_law_535 rfl ?_
  refine j_icN 1 dL_law_537 rfl ?_
  refine j_iaddN dL_law_538 ?_
  refine j_sld dL_law_539 (by omega) (by omega) ?_
  refine j_lV (rest := []) mf_X10_remove ml_L_130 ⟨by omega, by omega⟩ hC2 (by decide) rfl rfl rfl rfl (Nat.le_of_ble_eq_true rfl) dL_law_540 ⟨by omega, by omega⟩ (fun v2 M2 hv2 => ?_)
  obtain ⟨w, hw, hth, hout, hI2⟩ := hP2 v2 M2 hv2
  subst hw
  refine j_ist_7 dL_law_543 (by decide) rfl ?_
  refine j_aln dL_law_545 rfl rfl ?_
  refine j_lV (rest := []) mf_X10_thrown ml_L_112 ⟨(Nat.le_of_ble_eq_true rfl), (Nat.le_of_ble_eq_true rfl)⟩ c_X10_thrown (by decide) rfl rfl rfl rfl (Nat.le_of_ble_eq_true rfl) dL_law_546 ⟨by omega, by omega⟩ (fun v3 M3 hv3 => ?_)
  obtain ⟨hv4, hm4⟩ := hv3
  subst hv4
  subst M3
  refine j_topi hth ?_
  refine j_il dL_law_549 rfl ?_
  refine j_iceqN (tgt := 556) dL_law_551 (by decide) (by omega) (by omega) (fun h551 => ?_) (fun h551 => ?_)
  · refine j_il dL_law_556 rfl ?_
    refine j_ifneN (tgt := 573) dL_law_558 (by decide) (by omega) (fun h558 => ?_) (fun h558 => ?_)
    · refine j_goto (tgt := 2120) dL_law_573 (by decide) ?_
      exact TL _ _ _ _ _ _ _ hI2 (by omega) (by omega)
    · refine j_aln dL_law_561 rfl rfl ?_
      refine j_icN 0 dL_law_562 rfl ?_
      refine j_aldO dL_law_563 rfl ?_
      refine j_il dL_law_564 rfl ?_
      refine j_i2l dL_law_566 ?_
      refine j_eq rfl (show [Value.long w.toInt64, Value.long (mW M2 2)] = [Value.long w.toInt64, Value.long w.toInt64] from by rw [hout h558]) rfl ?_
      refine j_lcmp dL_law_567 ?_
      refine j_ifeq (tgt := 573) dL_law_568 (by decide) (fun h568 => ?_) (fun h568 => ?_)
      · refine j_goto (tgt := 2120) dL_law_573 (by decide) ?_
        exact TL _ _ _ _ _ _ _ hI2 (by omega) (by omega)
      · exact absurd (cmp_self _) h568
  · exact absurd rfl h551
set_option maxRecDepth 100000 in
set_option maxHeartbeats 4000000 in
theorem lb_move {l : Launch} {E : Ev} {b L : Nat} {xs : Nat → Int32} {Inv : Mm → Prop} {M : Mm} {K N t : Nat} {o6 o7 o8 o9 : Option Value} (hL : L ≤ 2560) (ht : 5 * t + 5 ≤ L) (hK : K + 512 ≤ 603072) (hN : N + 3072 ≤ 7207018) (hs : Sp_move l E Inv) (hI : Inv M) (TL : ∀ (M' : Mm) (k' n' : Nat) (o6 o7 o8 o9 : Option Value), Inv M' → k' ≤ K + (t + 1) → n' ≤ N + 6 * (t + 1) → JL l E b L xs k' n' 2120 [some (.ref b), some (.ref (eA E 0 0)), some (.ref (eA E 12 0)), some (.ref (eA E 14 0)), some (.ref (eA E 15 0)), some (.int (nI (5 * t))), o6, o7, o8, o9] [] M') : JL l E b L xs (K + t) (N + 6 * t) 576 [some (.ref b), some (.ref (eA E 0 0)), some (.ref (eA E 12 0)), some (.ref (eA E 14 0)), some (.ref (eA E 15 0)), some (.int (nI (5 * t))), o6, o7, o8, o9] [] M := by
  refine j_aln dL_law_576 rfl rfl ?_
  refine j_aln dL_law_577 rfl rfl ?_
  refine j_il dL_law_578 rfl ?_
  refine j_icN 1 dL_law_580 rfl ?_
  refine j_iaddN dL_law_581 ?_
  refine j_sld dL_law_582 (by omega) (by omega) ?_
  refine j_aln dL_law_583 rfl rfl ?_
  refine j_il dL_law_584 rfl ?_
  refine j_icN 2 dL_law_586 rfl ?_
  refine j_iaddN dL_law_587 ?_
  refine j_sld dL_law_588 (by omega) (by omega) ?_
  refine j_aln dL_law_589 rfl rfl ?_
  obtain ⟨K1, hC1, hK1⟩ := hs M (xs (5 * t + 1)) (xs (5 * t + 2)) hI
  refine j_lW (rest := []) mw_move ml_L_131 ⟨(Nat.le_of_ble_eq_true rfl), (Nat.le_of_ble_eq_true rfl)⟩ hC1 rfl rfl (Nat.le_of_ble_eq_true rfl) dL_law_590 ⟨by omega, by omega⟩ (fun v M1 hv => ?_)
  obtain ⟨k, hk8, hve, lv2, P2, hlv2, hC2, hP2⟩ := hK1 v M1 hv
  subst hve
  refine j_ist_6 dL_law_593 (by decide) rfl ?_
  refine j_aln dL_law_595 rfl rfl ?_
  refine j_aln dL_law_596 rfl rfl ?_
  refine j_il dL_law_597 rfl ?_
  refine j_icN 1 dL_law_599 rfl ?_
  refine j_iaddN dL_law_600 ?_
  refine j_sld dL_law_601 (by omega) (by omega) ?_
  refine j_aln dL_law_602 rfl rfl ?_
  refine j_il dL_law_603 rfl ?_
  refine j_icN 2 dL_law_605 rfl ?_
  refine j_iaddN dL_law_606 ?_
  refine j_sld dL_law_607 (by omega) (by omega) ?_
  refine j_lV (rest := []) mf_X10_move ml_L_134 ⟨by omega, by omega⟩ hC2 (by decide) rfl rfl rfl rfl (Nat.le_of_ble_eq_true rfl) dL_law_608 ⟨by omega, by omega⟩ (fun v2 M2 hv2 => ?_)
  obtain ⟨w, hw, hth, hout, hI2⟩ := hP2 v2 M2 hv2
  subst hw
  refine j_ist_7 dL_law_611 (by decide) rfl ?_
  refine j_aln dL_law_613 rfl rfl ?_
  refine j_lV (rest := []) mf_X10_thrown ml_L_112 ⟨(Nat.le_of_ble_eq_true rfl), (Nat.le_of_ble_eq_true rfl)⟩ c_X10_thrown (by decide) rfl rfl rfl rfl (Nat.le_of_ble_eq_true rfl) dL_law_614 ⟨by omega, by omega⟩ (fun v3 M3 hv3 => ?_)
  obtain ⟨hv4, hm4⟩ := hv3
  subst hv4
  subst M3
  refine j_topi hth ?_
  refine j_il dL_law_617 rfl ?_
  refine j_iceqN (tgt := 624) dL_law_619 (by decide) (by omega) (by omega) (fun h619 => ?_) (fun h619 => ?_)
  · refine j_il dL_law_624 rfl ?_
    refine j_ifneN (tgt := 641) dL_law_626 (by decide) (by omega) (fun h626 => ?_) (fun h626 => ?_)
    · refine j_goto (tgt := 2120) dL_law_641 (by decide) ?_
      exact TL _ _ _ _ _ _ _ hI2 (by omega) (by omega)
    · refine j_aln dL_law_629 rfl rfl ?_
      refine j_icN 0 dL_law_630 rfl ?_
      refine j_aldO dL_law_631 rfl ?_
      refine j_il dL_law_632 rfl ?_
      refine j_i2l dL_law_634 ?_
      refine j_eq rfl (show [Value.long w.toInt64, Value.long (mW M2 2)] = [Value.long w.toInt64, Value.long w.toInt64] from by rw [hout h626]) rfl ?_
      refine j_lcmp dL_law_635 ?_
      refine j_ifeq (tgt := 641) dL_law_636 (by decide) (fun h636 => ?_) (fun h636 => ?_)
      · refine j_goto (tgt := 2120) dL_law_641 (by decide) ?_
        exact TL _ _ _ _ _ _ _ hI2 (by omega) (by omega)
      · exact absurd (cmp_self _) h636
  · exact absurd rfl h619
set_option maxRecDepth 100000 in
set_option maxHeartbeats 4000000 in
theorem lb_putOff {l : Launch} {E : Ev} {b L : Nat} {xs : Nat → Int32} {Inv : Mm → Prop} {M : Mm} {K N t : Nat} {o6 o7 o8 o9 : Option Value} (hL : L ≤ 2560) (ht : 5 * t + 5 ≤ L) (hK : K + 512 ≤ 603072) (hN : N + 3072 ≤ 7207018) (hs : Sp_putOff l E Inv) (hI : Inv M) (TL : ∀ (M' : Mm) (k' n' : Nat) (o6 o7 o8 o9 : Option Value), Inv M' → k' ≤ K + (t + 1) → n' ≤ N + 6 * (t + 1) → JL l E b L xs k' n' 2120 [some (.ref b), some (.ref (eA E 0 0)), some (.ref (eA E 12 0)), some (.ref (eA E 14 0)), some (.ref (eA E 15 0)), some (.int (nI (5 * t))), o6, o7, o8, o9] [] M') : JL l E b L xs (K + t) (N + 6 * t) 644 [some (.ref b), some (.ref (eA E 0 0)), some (.ref (eA E 12 0)), some (.ref (eA E 14 0)), some (.ref (eA E 15 0)), some (.int (nI (5 * t))), o6, o7, o8, o9] [] M := by
  refine j_aln dL_law_644 rfl rfl ?_
  refine j_aln dL_law_645 rfl rfl ?_
  refine j_il dL_law_646 rfl ?_
  refine j_icN 1 dL_law_648 rfl ?_
  refine j_iaddN dL_law_649 ?_
  refine j_sld dL_law_650 (by omega) (by omega) ?_
  refine j_aln dL_law_651 rfl rfl ?_
  refine j_il dL_law_652 rfl ?_
  refine j_icN 2 dL_law_654 rfl ?_
  refine j_iaddN dL_law_655 ?_
  refine j_sld dL_law_656 (by omega) (by omega) ?_
  refine j_ifeq (tgt := 664) dL_law_657 (by decide) (fun h657 => ?_) (fun h657 => ?_)
  · refine j_icN 0 dL_law_664 rfl ?_
    refine j_aln dL_law_665 rfl rfl ?_
    obtain ⟨K1, hC1, hK1⟩ := hs M (xs (5 * t + 1)) false hI
    refine j_lW (rest := []) mw_putOff ml_L_135 ⟨(Nat.le_of_ble_eq_true rfl), (Nat.le_of_ble_eq_true rfl)⟩ hC1 rfl rfl (Nat.le_of_ble_eq_true rfl) dL_law_666 ⟨by omega, by omega⟩ (fun v M1 hv => ?_)
    obtain ⟨k, hk8, hve, lv2, P2, hlv2, hC2, hP2⟩ := hK1 v M1 hv
    subst hve
    refine j_ist_6 dL_law_669 (by decide) rfl ?_
    refine j_aln dL_law_671 rfl rfl ?_
    refine j_aln dL_law_672 rfl rfl ?_
    refine j_il dL_law_673 rfl ?_
    refine j_icN 1 dL_law_675 rfl ?_
    refine j_iaddN dL_law_676 ?_
    refine j_sld dL_law_677 (by omega) (by omega) ?_
    refine j_aln dL_law_678 rfl rfl ?_
    refine j_il dL_law_679 rfl ?_
    refine j_icN 2 dL_law_681 rfl ?_
    refine j_iaddN dL_law_682 ?_
    refine j_sld dL_law_683 (by omega) (by omega) ?_
    refine j_ifeq (tgt := 691) dL_law_684 (by decide) (fun h684 => ?_) (fun h684 => ?_)
    · refine j_icN 0 dL_law_691 rfl ?_
      refine j_lV (rest := []) mf_X10_putOff ml_L_138 ⟨by omega, by omega⟩ hC2 (by decide) rfl rfl rfl rfl (Nat.le_of_ble_eq_true rfl) dL_law_692 ⟨by omega, by omega⟩ (fun v2 M2 hv2 => ?_)
      obtain ⟨w, hw, hth, hout, hI2⟩ := hP2 v2 M2 hv2
      subst hw
      refine j_ist_7 dL_law_695 (by decide) rfl ?_
      refine j_aln dL_law_697 rfl rfl ?_
      refine j_lV (rest := []) mf_X10_thrown ml_L_112 ⟨(Nat.le_of_ble_eq_true rfl), (Nat.le_of_ble_eq_true rfl)⟩ c_X10_thrown (by decide) rfl rfl rfl rfl (Nat.le_of_ble_eq_true rfl) dL_law_698 ⟨by omega, by omega⟩ (fun v3 M3 hv3 => ?_)
      obtain ⟨hv4, hm4⟩ := hv3
      subst hv4
      subst M3
      refine j_topi hth ?_
      refine j_il dL_law_701 rfl ?_
      refine j_iceqN (tgt := 708) dL_law_703 (by decide) (by omega) (by omega) (fun h703 => ?_) (fun h703 => ?_)
      · refine j_il dL_law_708 rfl ?_
        refine j_ifneN (tgt := 732) dL_law_710 (by decide) (by omega) (fun h710 => ?_) (fun h710 => ?_)
        · refine j_goto (tgt := 2120) dL_law_732 (by decide) ?_
          exact TL _ _ _ _ _ _ _ hI2 (by omega) (by omega)
        · refine j_aln dL_law_713 rfl rfl ?_
          refine j_icN 0 dL_law_714 rfl ?_
          refine j_aldO dL_law_715 rfl ?_
          refine j_il dL_law_716 rfl ?_
          refine j_ifeq (tgt := 725) dL_law_718 (by decide) (fun h718 => ?_) (fun h718 => ?_)
          · have ho : mW M2 2 = 0 := (hout h710).trans (if_pos h718)
            refine j_lc (v := 0) dL_law_725 (by decide) ?_
            first | refine j_eq rfl (congrArg (fun q => [Value.long 0, Value.long q]) ho) rfl ?_ | refine j_eq rfl (congrArg (fun q => [Value.long 1, Value.long q]) ho) rfl ?_
            refine j_lcmp dL_law_726 ?_
            refine j_ifeq (tgt := 732) dL_law_727 (by decide) (fun h727 => ?_) (fun h727 => ?_)
            · refine j_goto (tgt := 2120) dL_law_732 (by decide) ?_
              exact TL _ _ _ _ _ _ _ hI2 (by omega) (by omega)
            · exact absurd (cmp_self _) h727
          · have ho : mW M2 2 = 1 := (hout h710).trans (if_neg h718)
            refine j_lc (v := 1) dL_law_721 (by decide) ?_
            refine j_goto (tgt := 726) dL_law_722 (by decide) ?_
            first | refine j_eq rfl (congrArg (fun q => [Value.long 0, Value.long q]) ho) rfl ?_ | refine j_eq rfl (congrArg (fun q => [Value.long 1, Value.long q]) ho) rfl ?_
            refine j_lcmp dL_law_726 ?_
            refine j_ifeq (tgt := 732) dL_law_727 (by decide) (fun h727 => ?_) (fun h727 => ?_)
            · refine j_goto (tgt := 2120) dL_law_732 (by decide) ?_
              exact TL _ _ _ _ _ _ _ hI2 (by omega) (by omega)
            · exact absurd (cmp_self _) h727
      · exact absurd rfl h703
    · exact absurd h657 h684
  · refine j_icN 1 dL_law_660 rfl ?_
    refine j_goto (tgt := 665) dL_law_661 (by decide) ?_
    refine j_aln dL_law_665 rfl rfl ?_
    obtain ⟨K1, hC1, hK1⟩ := hs M (xs (5 * t + 1)) true hI
    refine j_lW (rest := []) mw_putOff ml_L_135 ⟨(Nat.le_of_ble_eq_true rfl), (Nat.le_of_ble_eq_true rfl)⟩ hC1 rfl rfl (Nat.le_of_ble_eq_true rfl) dL_law_666 ⟨by omega, by omega⟩ (fun v M1 hv => ?_)
    obtain ⟨k, hk8, hve, lv2, P2, hlv2, hC2, hP2⟩ := hK1 v M1 hv
    subst hve
    refine j_ist_6 dL_law_669 (by decide) rfl ?_
    refine j_aln dL_law_671 rfl rfl ?_
    refine j_aln dL_law_672 rfl rfl ?_
    refine j_il dL_law_673 rfl ?_
    refine j_icN 1 dL_law_675 rfl ?_
    refine j_iaddN dL_law_676 ?_
    refine j_sld dL_law_677 (by omega) (by omega) ?_
    refine j_aln dL_law_678 rfl rfl ?_
    refine j_il dL_law_679 rfl ?_
    refine j_icN 2 dL_law_681 rfl ?_
    refine j_iaddN dL_law_682 ?_
    refine j_sld dL_law_683 (by omega) (by omega) ?_
    refine j_ifeq (tgt := 691) dL_law_684 (by decide) (fun h684 => ?_) (fun h684 => ?_)
    · exact absurd h684 h657
    · refine j_icN 1 dL_law_687 rfl ?_
      refine j_goto (tgt := 692) dL_law_688 (by decide) ?_
      refine j_lV (rest := []) mf_X10_putOff ml_L_138 ⟨by omega, by omega⟩ hC2 (by decide) rfl rfl rfl rfl (Nat.le_of_ble_eq_true rfl) dL_law_692 ⟨by omega, by omega⟩ (fun v2 M2 hv2 => ?_)
      obtain ⟨w, hw, hth, hout, hI2⟩ := hP2 v2 M2 hv2
      subst hw
      refine j_ist_7 dL_law_695 (by decide) rfl ?_
      refine j_aln dL_law_697 rfl rfl ?_
      refine j_lV (rest := []) mf_X10_thrown ml_L_112 ⟨(Nat.le_of_ble_eq_true rfl), (Nat.le_of_ble_eq_true rfl)⟩ c_X10_thrown (by decide) rfl rfl rfl rfl (Nat.le_of_ble_eq_true rfl) dL_law_698 ⟨by omega, by omega⟩ (fun v3 M3 hv3 => ?_)
      obtain ⟨hv4, hm4⟩ := hv3
      subst hv4
      subst M3
      refine j_topi hth ?_
      refine j_il dL_law_701 rfl ?_
      refine j_iceqN (tgt := 708) dL_law_703 (by decide) (by omega) (by omega) (fun h703 => ?_) (fun h703 => ?_)
      · refine j_il dL_law_708 rfl ?_
        refine j_ifneN (tgt := 732) dL_law_710 (by decide) (by omega) (fun h710 => ?_) (fun h710 => ?_)
        · refine j_goto (tgt := 2120) dL_law_732 (by decide) ?_
          exact TL _ _ _ _ _ _ _ hI2 (by omega) (by omega)
        · refine j_aln dL_law_713 rfl rfl ?_
          refine j_icN 0 dL_law_714 rfl ?_
          refine j_aldO dL_law_715 rfl ?_
          refine j_il dL_law_716 rfl ?_
          refine j_ifeq (tgt := 725) dL_law_718 (by decide) (fun h718 => ?_) (fun h718 => ?_)
          · have ho : mW M2 2 = 0 := (hout h710).trans (if_pos h718)
            refine j_lc (v := 0) dL_law_725 (by decide) ?_
            first | refine j_eq rfl (congrArg (fun q => [Value.long 0, Value.long q]) ho) rfl ?_ | refine j_eq rfl (congrArg (fun q => [Value.long 1, Value.long q]) ho) rfl ?_
            refine j_lcmp dL_law_726 ?_
            refine j_ifeq (tgt := 732) dL_law_727 (by decide) (fun h727 => ?_) (fun h727 => ?_)
            · refine j_goto (tgt := 2120) dL_law_732 (by decide) ?_
              exact TL _ _ _ _ _ _ _ hI2 (by omega) (by omega)
            · exact absurd (cmp_self _) h727
          · have ho : mW M2 2 = 1 := (hout h710).trans (if_neg h718)
            refine j_lc (v := 1) dL_law_721 (by decide) ?_
            refine j_goto (tgt := 726) dL_law_722 (by decide) ?_
            first | refine j_eq rfl (congrArg (fun q => [Value.long 0, Value.long q]) ho) rfl ?_ | refine j_eq rfl (congrArg (fun q => [Value.long 1, Value.long q]) ho) rfl ?_
            refine j_lcmp dL_law_726 ?_
            refine j_ifeq (tgt := 732) dL_law_727 (by decide) (fun h727 => ?_) (fun h727 => ?_)
            · refine j_goto (tgt := 2120) dL_law_732 (by decide) ?_
              exact TL _ _ _ _ _ _ _ hI2 (by omega) (by omega)
            · exact absurd (cmp_self _) h727
      · exact absurd rfl h703
set_option maxRecDepth 100000 in
set_option maxHeartbeats 4000000 in
theorem lb_setBar {l : Launch} {E : Ev} {b L : Nat} {xs : Nat → Int32} {Inv : Mm → Prop} {M : Mm} {K N t : Nat} {o6 o7 o8 o9 : Option Value} (hL : L ≤ 2560) (ht : 5 * t + 5 ≤ L) (hK : K + 512 ≤ 603072) (hN : N + 3072 ≤ 7207018) (hs : Sp_setBar l E Inv) (hI : Inv M) (TL : ∀ (M' : Mm) (k' n' : Nat) (o6 o7 o8 o9 : Option Value), Inv M' → k' ≤ K + (t + 1) → n' ≤ N + 6 * (t + 1) → JL l E b L xs k' n' 2120 [some (.ref b), some (.ref (eA E 0 0)), some (.ref (eA E 12 0)), some (.ref (eA E 14 0)), some (.ref (eA E 15 0)), some (.int (nI (5 * t))), o6, o7, o8, o9] [] M') : JL l E b L xs (K + t) (N + 6 * t) 735 [some (.ref b), some (.ref (eA E 0 0)), some (.ref (eA E 12 0)), some (.ref (eA E 14 0)), some (.ref (eA E 15 0)), some (.int (nI (5 * t))), o6, o7, o8, o9] [] M := by
  refine j_aln dL_law_735 rfl rfl ?_
  refine j_aln dL_law_736 rfl rfl ?_
  refine j_il dL_law_737 rfl ?_
  refine j_icN 1 dL_law_739 rfl ?_
  refine j_iaddN dL_law_740 ?_
  refine j_sld dL_law_741 (by omega) (by omega) ?_
  refine j_aln dL_law_742 rfl rfl ?_
  obtain ⟨K1, hC1, hK1⟩ := hs M (xs (5 * t + 1)) hI
  refine j_lW (rest := []) mw_setBar ml_L_139 ⟨(Nat.le_of_ble_eq_true rfl), (Nat.le_of_ble_eq_true rfl)⟩ hC1 rfl rfl (Nat.le_of_ble_eq_true rfl) dL_law_743 ⟨by omega, by omega⟩ (fun v M1 hv => ?_)
  obtain ⟨k, hk8, hve, lv2, P2, hlv2, hC2, hP2⟩ := hK1 v M1 hv
  subst hve
  refine j_ist_6 dL_law_746 (by decide) rfl ?_
  refine j_aln dL_law_748 rfl rfl ?_
  refine j_aln dL_law_749 rfl rfl ?_
  refine j_il dL_law_750 rfl ?_
  refine j_icN 1 dL_law_752 rfl ?_
  refine j_iaddN dL_law_753 ?_
  refine j_sld dL_law_754 (by omega) (by omega) ?_
  refine j_lV (rest := []) mf_X10_setBar ml_L_141 ⟨by omega, by omega⟩ hC2 (by decide) rfl rfl rfl rfl (Nat.le_of_ble_eq_true rfl) dL_law_755 ⟨by omega, by omega⟩ (fun v2 M2 hv2 => ?_)
  obtain ⟨w, hw, hth, hout, hI2⟩ := hP2 v2 M2 hv2
  subst hw
  refine j_ist_7 dL_law_758 (by decide) rfl ?_
  refine j_aln dL_law_760 rfl rfl ?_
  refine j_lV (rest := []) mf_X10_thrown ml_L_112 ⟨(Nat.le_of_ble_eq_true rfl), (Nat.le_of_ble_eq_true rfl)⟩ c_X10_thrown (by decide) rfl rfl rfl rfl (Nat.le_of_ble_eq_true rfl) dL_law_761 ⟨by omega, by omega⟩ (fun v3 M3 hv3 => ?_)
  obtain ⟨hv4, hm4⟩ := hv3
  subst hv4
  subst M3
  refine j_topi hth ?_
  refine j_il dL_law_764 rfl ?_
  refine j_iceqN (tgt := 771) dL_law_766 (by decide) (by omega) (by omega) (fun h766 => ?_) (fun h766 => ?_)
  · refine j_il dL_law_771 rfl ?_
    refine j_ifneN (tgt := 788) dL_law_773 (by decide) (by omega) (fun h773 => ?_) (fun h773 => ?_)
    · refine j_goto (tgt := 2120) dL_law_788 (by decide) ?_
      exact TL _ _ _ _ _ _ _ hI2 (by omega) (by omega)
    · refine j_aln dL_law_776 rfl rfl ?_
      refine j_icN 0 dL_law_777 rfl ?_
      refine j_aldO dL_law_778 rfl ?_
      refine j_il dL_law_779 rfl ?_
      refine j_i2l dL_law_781 ?_
      refine j_eq rfl (show [Value.long w.toInt64, Value.long (mW M2 2)] = [Value.long w.toInt64, Value.long w.toInt64] from by rw [hout h773]) rfl ?_
      refine j_lcmp dL_law_782 ?_
      refine j_ifeq (tgt := 788) dL_law_783 (by decide) (fun h783 => ?_) (fun h783 => ?_)
      · refine j_goto (tgt := 2120) dL_law_788 (by decide) ?_
        exact TL _ _ _ _ _ _ _ hI2 (by omega) (by omega)
      · exact absurd (cmp_self _) h783
  · exact absurd rfl h766
set_option maxRecDepth 100000 in
set_option maxHeartbeats 4000000 in
theorem lb_place {l : Launch} {E : Ev} {b L : Nat} {xs : Nat → Int32} {Inv : Mm → Prop} {M : Mm} {K N t : Nat} {o6 o7 o8 o9 : Option Value} (hL : L ≤ 2560) (ht : 5 * t + 5 ≤ L) (hK : K + 512 ≤ 603072) (hN : N + 3072 ≤ 7207018) (hs : Sp_place l E Inv) (hI : Inv M) (TL : ∀ (M' : Mm) (k' n' : Nat) (o6 o7 o8 o9 : Option Value), Inv M' → k' ≤ K + (t + 1) → n' ≤ N + 6 * (t + 1) → JL l E b L xs k' n' 2120 [some (.ref b), some (.ref (eA E 0 0)), some (.ref (eA E 12 0)), some (.ref (eA E 14 0)), some (.ref (eA E 15 0)), some (.int (nI (5 * t))), o6, o7, o8, o9] [] M') : JL l E b L xs (K + t) (N + 6 * t) 791 [some (.ref b), some (.ref (eA E 0 0)), some (.ref (eA E 12 0)), some (.ref (eA E 14 0)), some (.ref (eA E 15 0)), some (.int (nI (5 * t))), o6, o7, o8, o9] [] M := by
  refine j_aln dL_law_791 rfl rfl ?_
  refine j_aln dL_law_792 rfl rfl ?_
  refine j_il dL_law_793 rfl ?_
  refine j_icN 1 dL_law_795 rfl ?_
  refine j_iaddN dL_law_796 ?_
  refine j_sld dL_law_797 (by omega) (by omega) ?_
  refine j_aln dL_law_798 rfl rfl ?_
  obtain ⟨K1, hC1, hK1⟩ := hs M (xs (5 * t + 1)) hI
  refine j_lW (rest := []) mw_place ml_L_142 ⟨(Nat.le_of_ble_eq_true rfl), (Nat.le_of_ble_eq_true rfl)⟩ hC1 rfl rfl (Nat.le_of_ble_eq_true rfl) dL_law_799 ⟨by omega, by omega⟩ (fun v M1 hv => ?_)
  obtain ⟨k, hk8, hve, lv2, P2, hlv2, hC2, hP2⟩ := hK1 v M1 hv
  subst hve
  refine j_ist_6 dL_law_802 (by decide) rfl ?_
  refine j_aln dL_law_804 rfl rfl ?_
  refine j_aln dL_law_805 rfl rfl ?_
  refine j_il dL_law_806 rfl ?_
  refine j_icN 1 dL_law_808 rfl ?_
  refine j_iaddN dL_law_809 ?_
  refine j_sld dL_law_810 (by omega) (by omega) ?_
  refine j_lV (rest := []) mf_X10_place ml_L_144 ⟨by omega, by omega⟩ hC2 (by decide) rfl rfl rfl rfl (Nat.le_of_ble_eq_true rfl) dL_law_811 ⟨by omega, by omega⟩ (fun v2 M2 hv2 => ?_)
  obtain ⟨w, hw, hth, hout, hI2⟩ := hP2 v2 M2 hv2
  subst hw
  refine j_ist_7 dL_law_814 (by decide) rfl ?_
  refine j_aln dL_law_816 rfl rfl ?_
  refine j_lV (rest := []) mf_X10_thrown ml_L_112 ⟨(Nat.le_of_ble_eq_true rfl), (Nat.le_of_ble_eq_true rfl)⟩ c_X10_thrown (by decide) rfl rfl rfl rfl (Nat.le_of_ble_eq_true rfl) dL_law_817 ⟨by omega, by omega⟩ (fun v3 M3 hv3 => ?_)
  obtain ⟨hv4, hm4⟩ := hv3
  subst hv4
  subst M3
  refine j_topi hth ?_
  refine j_il dL_law_820 rfl ?_
  refine j_iceqN (tgt := 827) dL_law_822 (by decide) (by omega) (by omega) (fun h822 => ?_) (fun h822 => ?_)
  · refine j_il dL_law_827 rfl ?_
    refine j_ifneN (tgt := 844) dL_law_829 (by decide) (by omega) (fun h829 => ?_) (fun h829 => ?_)
    · refine j_goto (tgt := 2120) dL_law_844 (by decide) ?_
      exact TL _ _ _ _ _ _ _ hI2 (by omega) (by omega)
    · refine j_aln dL_law_832 rfl rfl ?_
      refine j_icN 0 dL_law_833 rfl ?_
      refine j_aldO dL_law_834 rfl ?_
      refine j_il dL_law_835 rfl ?_
      refine j_i2l dL_law_837 ?_
      refine j_eq rfl (show [Value.long w.toInt64, Value.long (mW M2 2)] = [Value.long w.toInt64, Value.long w.toInt64] from by rw [hout h829]) rfl ?_
      refine j_lcmp dL_law_838 ?_
      refine j_ifeq (tgt := 844) dL_law_839 (by decide) (fun h839 => ?_) (fun h839 => ?_)
      · refine j_goto (tgt := 2120) dL_law_844 (by decide) ?_
        exact TL _ _ _ _ _ _ _ hI2 (by omega) (by omega)
      · exact absurd (cmp_self _) h839
  · exact absurd rfl h822
set_option maxRecDepth 100000 in
set_option maxHeartbeats 4000000 in
theorem lb_state {l : Launch} {E : Ev} {b L : Nat} {xs : Nat → Int32} {Inv : Mm → Prop} {M : Mm} {K N t : Nat} {o6 o7 o8 o9 : Option Value} (hL : L ≤ 2560) (ht : 5 * t + 5 ≤ L) (hK : K + 512 ≤ 603072) (hN : N + 3072 ≤ 7207018) (hs : Sp_state l E Inv) (hI : Inv M) (TL : ∀ (M' : Mm) (k' n' : Nat) (o6 o7 o8 o9 : Option Value), Inv M' → k' ≤ K + (t + 1) → n' ≤ N + 6 * (t + 1) → JL l E b L xs k' n' 2120 [some (.ref b), some (.ref (eA E 0 0)), some (.ref (eA E 12 0)), some (.ref (eA E 14 0)), some (.ref (eA E 15 0)), some (.int (nI (5 * t))), o6, o7, o8, o9] [] M') : JL l E b L xs (K + t) (N + 6 * t) 847 [some (.ref b), some (.ref (eA E 0 0)), some (.ref (eA E 12 0)), some (.ref (eA E 14 0)), some (.ref (eA E 15 0)), some (.int (nI (5 * t))), o6, o7, o8, o9] [] M := by
  refine j_aln dL_law_847 rfl rfl ?_
  refine j_aln dL_law_848 rfl rfl ?_
  refine j_il dL_law_849 rfl ?_
  refine j_icN 1 dL_law_851 rfl ?_
  refine j_iaddN dL_law_852 ?_
  refine j_sld dL_law_853 (by omega) (by omega) ?_
  refine j_aln dL_law_854 rfl rfl ?_
  obtain ⟨K1, hC1, hK1⟩ := hs M (xs (5 * t + 1)) hI
  refine j_lW (rest := []) mw_state ml_L_145 ⟨(Nat.le_of_ble_eq_true rfl), (Nat.le_of_ble_eq_true rfl)⟩ hC1 rfl rfl (Nat.le_of_ble_eq_true rfl) dL_law_855 ⟨by omega, by omega⟩ (fun v M1 hv => ?_)
  obtain ⟨k, hk8, hve, lv2, P2, hlv2, hC2, hP2⟩ := hK1 v M1 hv
  subst hve
  refine j_ist_6 dL_law_858 (by decide) rfl ?_
  refine j_aln dL_law_860 rfl rfl ?_
  refine j_aln dL_law_861 rfl rfl ?_
  refine j_il dL_law_862 rfl ?_
  refine j_icN 1 dL_law_864 rfl ?_
  refine j_iaddN dL_law_865 ?_
  refine j_sld dL_law_866 (by omega) (by omega) ?_
  refine j_lV (rest := []) mf_X10_state ml_L_147 ⟨by omega, by omega⟩ hC2 (by decide) rfl rfl rfl rfl (Nat.le_of_ble_eq_true rfl) dL_law_867 ⟨by omega, by omega⟩ (fun v2 M2 hv2 => ?_)
  obtain ⟨w, hw, hth, hout, hI2⟩ := hP2 v2 M2 hv2
  subst hw
  refine j_ist_7 dL_law_870 (by decide) rfl ?_
  refine j_aln dL_law_872 rfl rfl ?_
  refine j_lV (rest := []) mf_X10_thrown ml_L_112 ⟨(Nat.le_of_ble_eq_true rfl), (Nat.le_of_ble_eq_true rfl)⟩ c_X10_thrown (by decide) rfl rfl rfl rfl (Nat.le_of_ble_eq_true rfl) dL_law_873 ⟨by omega, by omega⟩ (fun v3 M3 hv3 => ?_)
  obtain ⟨hv4, hm4⟩ := hv3
  subst hv4
  subst M3
  refine j_topi hth ?_
  refine j_il dL_law_876 rfl ?_
  refine j_iceqN (tgt := 883) dL_law_878 (by decide) (by omega) (by omega) (fun h878 => ?_) (fun h878 => ?_)
  · refine j_il dL_law_883 rfl ?_
    refine j_ifneN (tgt := 900) dL_law_885 (by decide) (by omega) (fun h885 => ?_) (fun h885 => ?_)
    · refine j_goto (tgt := 2120) dL_law_900 (by decide) ?_
      exact TL _ _ _ _ _ _ _ hI2 (by omega) (by omega)
    · refine j_aln dL_law_888 rfl rfl ?_
      refine j_icN 0 dL_law_889 rfl ?_
      refine j_aldO dL_law_890 rfl ?_
      refine j_il dL_law_891 rfl ?_
      refine j_i2l dL_law_893 ?_
      refine j_eq rfl (show [Value.long w.toInt64, Value.long (mW M2 2)] = [Value.long w.toInt64, Value.long w.toInt64] from by rw [hout h885]) rfl ?_
      refine j_lcmp dL_law_894 ?_
      refine j_ifeq (tgt := 900) dL_law_895 (by decide) (fun h895 => ?_) (fun h895 => ?_)
      · refine j_goto (tgt := 2120) dL_law_900 (by decide) ?_
        exact TL _ _ _ _ _ _ _ hI2 (by omega) (by omega)
      · exact absurd (cmp_self _) h895
  · exact absurd rfl h878
set_option maxRecDepth 100000 in
set_option maxHeartbeats 4000000 in
theorem lb_worked {l : Launch} {E : Ev} {b L : Nat} {xs : Nat → Int32} {Inv : Mm → Prop} {M : Mm} {K N t : Nat} {o6 o7 o8 o9 : Option Value} (hL : L ≤ 2560) (ht : 5 * t + 5 ≤ L) (hK : K + 512 ≤ 603072) (hN : N + 3072 ≤ 7207018) (hs : Sp_worked l E Inv) (hI : Inv M) (TL : ∀ (M' : Mm) (k' n' : Nat) (o6 o7 o8 o9 : Option Value), Inv M' → k' ≤ K + (t + 1) → n' ≤ N + 6 * (t + 1) → JL l E b L xs k' n' 2120 [some (.ref b), some (.ref (eA E 0 0)), some (.ref (eA E 12 0)), some (.ref (eA E 14 0)), some (.ref (eA E 15 0)), some (.int (nI (5 * t))), o6, o7, o8, o9] [] M') : JL l E b L xs (K + t) (N + 6 * t) 903 [some (.ref b), some (.ref (eA E 0 0)), some (.ref (eA E 12 0)), some (.ref (eA E 14 0)), some (.ref (eA E 15 0)), some (.int (nI (5 * t))), o6, o7, o8, o9] [] M := by
  refine j_aln dL_law_903 rfl rfl ?_
  obtain ⟨lv1, P1, hlv1, hC1, hP1⟩ := hs M hI
  refine j_lV (rest := []) mf_X9_worked ml_L_148 ⟨by omega, by omega⟩ hC1 (by decide) rfl rfl rfl rfl (Nat.le_of_ble_eq_true rfl) dL_law_904 ⟨by omega, by omega⟩ (fun v M1 hv => ?_)
  obtain ⟨a, hve, lv2, P2, hlv2, hC2, hP2⟩ := hP1 v M1 hv
  subst hve
  refine j_aln dL_law_907 rfl rfl ?_
  refine j_lV (rest := [.long a]) mf_X10_worked ml_L_152 ⟨by omega, by omega⟩ hC2 (by decide) rfl rfl rfl rfl (Nat.le_of_ble_eq_true rfl) dL_law_908 ⟨by omega, by omega⟩ (fun v2 M2 hv2 => ?_)
  obtain ⟨hw, hI2⟩ := hP2 v2 M2 hv2
  subst hw
  refine j_lcmp dL_law_911 ?_
  refine j_ifeq (tgt := 2120) dL_law_912 (by decide) (fun h912 => ?_) (fun h912 => ?_)
  · exact TL _ _ _ _ _ _ _ hI2 (by omega) (by omega)
  · exact absurd (cmp_self _) h912
set_option maxRecDepth 100000 in
set_option maxHeartbeats 4000000 in
theorem lb_has {l : Launch} {E : Ev} {b L : Nat} {xs : Nat → Int32} {Inv : Mm → Prop} {M : Mm} {K N t : Nat} {o6 o7 o8 o9 : Option Value} (hL : L ≤ 2560) (ht : 5 * t + 5 ≤ L) (hK : K + 512 ≤ 603072) (hN : N + 3072 ≤ 7207018) (hs : Sp_has l E Inv) (hI : Inv M) (TL : ∀ (M' : Mm) (k' n' : Nat) (o6 o7 o8 o9 : Option Value), Inv M' → k' ≤ K + (t + 1) → n' ≤ N + 6 * (t + 1) → JL l E b L xs k' n' 2120 [some (.ref b), some (.ref (eA E 0 0)), some (.ref (eA E 12 0)), some (.ref (eA E 14 0)), some (.ref (eA E 15 0)), some (.int (nI (5 * t))), o6, o7, o8, o9] [] M') : JL l E b L xs (K + t) (N + 6 * t) 917 [some (.ref b), some (.ref (eA E 0 0)), some (.ref (eA E 12 0)), some (.ref (eA E 14 0)), some (.ref (eA E 15 0)), some (.int (nI (5 * t))), o6, o7, o8, o9] [] M := by
  refine j_aln dL_law_917 rfl rfl ?_
  refine j_aln dL_law_918 rfl rfl ?_
  refine j_il dL_law_919 rfl ?_
  refine j_icN 1 dL_law_921 rfl ?_
  refine j_iaddN dL_law_922 ?_
  refine j_sld dL_law_923 (by omega) (by omega) ?_
  refine j_aln dL_law_924 rfl rfl ?_
  refine j_il dL_law_925 rfl ?_
  refine j_icN 2 dL_law_927 rfl ?_
  refine j_iaddN dL_law_928 ?_
  refine j_sld dL_law_929 (by omega) (by omega) ?_
  refine j_aln dL_law_930 rfl rfl ?_
  refine j_il dL_law_931 rfl ?_
  refine j_icN 3 dL_law_933 rfl ?_
  refine j_iaddN dL_law_934 ?_
  refine j_sld dL_law_935 (by omega) (by omega) ?_
  refine j_aln dL_law_936 rfl rfl ?_
  obtain ⟨K1, hC1, hK1⟩ := hs M (xs (5 * t + 1)) (xs (5 * t + 2)) (xs (5 * t + 3)) hI
  refine j_lW (rest := []) mw_has ml_L_153 ⟨(Nat.le_of_ble_eq_true rfl), (Nat.le_of_ble_eq_true rfl)⟩ hC1 rfl rfl (Nat.le_of_ble_eq_true rfl) dL_law_937 ⟨by omega, by omega⟩ (fun v M1 hv => ?_)
  obtain ⟨k, hk8, hve, lv2, P2, hlv2, hC2, hP2⟩ := hK1 v M1 hv
  subst hve
  refine j_ist_6 dL_law_940 (by decide) rfl ?_
  refine j_aln dL_law_942 rfl rfl ?_
  refine j_aln dL_law_943 rfl rfl ?_
  refine j_il dL_law_944 rfl ?_
  refine j_icN 1 dL_law_946 rfl ?_
  refine j_iaddN dL_law_947 ?_
  refine j_sld dL_law_948 (by omega) (by omega) ?_
  refine j_aln dL_law_949 rfl rfl ?_
  refine j_il dL_law_950 rfl ?_
  refine j_icN 2 dL_law_952 rfl ?_
  refine j_iaddN dL_law_953 ?_
  refine j_sld dL_law_954 (by omega) (by omega) ?_
  refine j_aln dL_law_955 rfl rfl ?_
  refine j_il dL_law_956 rfl ?_
  refine j_icN 3 dL_law_958 rfl ?_
  refine j_iaddN dL_law_959 ?_
  refine j_sld dL_law_960 (by omega) (by omega) ?_
  refine j_lV (rest := []) mf_X10_has ml_L_156 ⟨by omega, by omega⟩ hC2 (by decide) rfl rfl rfl rfl (Nat.le_of_ble_eq_true rfl) dL_law_961 ⟨by omega, by omega⟩ (fun v2 M2 hv2 => ?_)
  obtain ⟨w, hw, hth, hout, hI2⟩ := hP2 v2 M2 hv2
  subst hw
  refine j_ist_7 dL_law_964 (by decide) rfl ?_
  refine j_aln dL_law_966 rfl rfl ?_
  refine j_lV (rest := []) mf_X10_thrown ml_L_112 ⟨(Nat.le_of_ble_eq_true rfl), (Nat.le_of_ble_eq_true rfl)⟩ c_X10_thrown (by decide) rfl rfl rfl rfl (Nat.le_of_ble_eq_true rfl) dL_law_967 ⟨by omega, by omega⟩ (fun v3 M3 hv3 => ?_)
  obtain ⟨hv4, hm4⟩ := hv3
  subst hv4
  subst M3
  refine j_topi hth ?_
  refine j_il dL_law_970 rfl ?_
  refine j_iceqN (tgt := 977) dL_law_972 (by decide) (by omega) (by omega) (fun h972 => ?_) (fun h972 => ?_)
  · refine j_il dL_law_977 rfl ?_
    refine j_ifneN (tgt := 1001) dL_law_979 (by decide) (by omega) (fun h979 => ?_) (fun h979 => ?_)
    · refine j_goto (tgt := 2120) dL_law_1001 (by decide) ?_
      exact TL _ _ _ _ _ _ _ hI2 (by omega) (by omega)
    · refine j_aln dL_law_982 rfl rfl ?_
      refine j_icN 0 dL_law_983 rfl ?_
      refine j_aldO dL_law_984 rfl ?_
      refine j_il dL_law_985 rfl ?_
      refine j_ifeq (tgt := 994) dL_law_987 (by decide) (fun h987 => ?_) (fun h987 => ?_)
      · have ho : mW M2 2 = 0 := (hout h979).trans (if_pos h987)
        refine j_lc (v := 0) dL_law_994 (by decide) ?_
        first | refine j_eq rfl (congrArg (fun q => [Value.long 0, Value.long q]) ho) rfl ?_ | refine j_eq rfl (congrArg (fun q => [Value.long 1, Value.long q]) ho) rfl ?_
        refine j_lcmp dL_law_995 ?_
        refine j_ifeq (tgt := 1001) dL_law_996 (by decide) (fun h996 => ?_) (fun h996 => ?_)
        · refine j_goto (tgt := 2120) dL_law_1001 (by decide) ?_
          exact TL _ _ _ _ _ _ _ hI2 (by omega) (by omega)
        · exact absurd (cmp_self _) h996
      · have ho : mW M2 2 = 1 := (hout h979).trans (if_neg h987)
        refine j_lc (v := 1) dL_law_990 (by decide) ?_
        refine j_goto (tgt := 995) dL_law_991 (by decide) ?_
        first | refine j_eq rfl (congrArg (fun q => [Value.long 0, Value.long q]) ho) rfl ?_ | refine j_eq rfl (congrArg (fun q => [Value.long 1, Value.long q]) ho) rfl ?_
        refine j_lcmp dL_law_995 ?_
        refine j_ifeq (tgt := 1001) dL_law_996 (by decide) (fun h996 => ?_) (fun h996 => ?_)
        · refine j_goto (tgt := 2120) dL_law_1001 (by decide) ?_
          exact TL _ _ _ _ _ _ _ hI2 (by omega) (by omega)
        · exact absurd (cmp_self _) h996
  · exact absurd rfl h972
set_option maxRecDepth 100000 in
set_option maxHeartbeats 4000000 in
theorem lb_hasAnew {l : Launch} {E : Ev} {b L : Nat} {xs : Nat → Int32} {Inv : Mm → Prop} {M : Mm} {K N t : Nat} {o6 o7 o8 o9 : Option Value} (hL : L ≤ 2560) (ht : 5 * t + 5 ≤ L) (hK : K + 512 ≤ 603072) (hN : N + 3072 ≤ 7207018) (hs : Sp_hasAnew l E Inv) (hI : Inv M) (TL : ∀ (M' : Mm) (k' n' : Nat) (o6 o7 o8 o9 : Option Value), Inv M' → k' ≤ K + (t + 1) → n' ≤ N + 6 * (t + 1) → JL l E b L xs k' n' 2120 [some (.ref b), some (.ref (eA E 0 0)), some (.ref (eA E 12 0)), some (.ref (eA E 14 0)), some (.ref (eA E 15 0)), some (.int (nI (5 * t))), o6, o7, o8, o9] [] M') : JL l E b L xs (K + t) (N + 6 * t) 1004 [some (.ref b), some (.ref (eA E 0 0)), some (.ref (eA E 12 0)), some (.ref (eA E 14 0)), some (.ref (eA E 15 0)), some (.int (nI (5 * t))), o6, o7, o8, o9] [] M := by
  refine j_aln dL_law_1004 rfl rfl ?_
  refine j_aln dL_law_1005 rfl rfl ?_
  refine j_il dL_law_1006 rfl ?_
  refine j_icN 1 dL_law_1008 rfl ?_
  refine j_iaddN dL_law_1009 ?_
  refine j_sld dL_law_1010 (by omega) (by omega) ?_
  refine j_aln dL_law_1011 rfl rfl ?_
  refine j_il dL_law_1012 rfl ?_
  refine j_icN 2 dL_law_1014 rfl ?_
  refine j_iaddN dL_law_1015 ?_
  refine j_sld dL_law_1016 (by omega) (by omega) ?_
  refine j_aln dL_law_1017 rfl rfl ?_
  refine j_il dL_law_1018 rfl ?_
  refine j_icN 3 dL_law_1020 rfl ?_
  refine j_iaddN dL_law_1021 ?_
  refine j_sld dL_law_1022 (by omega) (by omega) ?_
  refine j_aln dL_law_1023 rfl rfl ?_
  obtain ⟨K1, hC1, hK1⟩ := hs M (xs (5 * t + 1)) (xs (5 * t + 2)) (xs (5 * t + 3)) hI
  refine j_lW (rest := []) mw_hasAnew ml_L_157 ⟨(Nat.le_of_ble_eq_true rfl), (Nat.le_of_ble_eq_true rfl)⟩ hC1 rfl rfl (Nat.le_of_ble_eq_true rfl) dL_law_1024 ⟨by omega, by omega⟩ (fun v M1 hv => ?_)
  obtain ⟨k, hk8, hve, lv2, P2, hlv2, hC2, hP2⟩ := hK1 v M1 hv
  subst hve
  refine j_ist_6 dL_law_1027 (by decide) rfl ?_
  refine j_aln dL_law_1029 rfl rfl ?_
  refine j_aln dL_law_1030 rfl rfl ?_
  refine j_il dL_law_1031 rfl ?_
  refine j_icN 1 dL_law_1033 rfl ?_
  refine j_iaddN dL_law_1034 ?_
  refine j_sld dL_law_1035 (by omega) (by omega) ?_
  refine j_aln dL_law_1036 rfl rfl ?_
  refine j_il dL_law_1037 rfl ?_
  refine j_icN 2 dL_law_1039 rfl ?_
  refine j_iaddN dL_law_1040 ?_
  refine j_sld dL_law_1041 (by omega) (by omega) ?_
  refine j_aln dL_law_1042 rfl rfl ?_
  refine j_il dL_law_1043 rfl ?_
  refine j_icN 3 dL_law_1045 rfl ?_
  refine j_iaddN dL_law_1046 ?_
  refine j_sld dL_law_1047 (by omega) (by omega) ?_
  refine j_lV (rest := []) mf_X10_hasAnew ml_L_159 ⟨by omega, by omega⟩ hC2 (by decide) rfl rfl rfl rfl (Nat.le_of_ble_eq_true rfl) dL_law_1048 ⟨by omega, by omega⟩ (fun v2 M2 hv2 => ?_)
  obtain ⟨w, hw, hth, hout, hI2⟩ := hP2 v2 M2 hv2
  subst hw
  refine j_ist_7 dL_law_1051 (by decide) rfl ?_
  refine j_aln dL_law_1053 rfl rfl ?_
  refine j_lV (rest := []) mf_X10_thrown ml_L_112 ⟨(Nat.le_of_ble_eq_true rfl), (Nat.le_of_ble_eq_true rfl)⟩ c_X10_thrown (by decide) rfl rfl rfl rfl (Nat.le_of_ble_eq_true rfl) dL_law_1054 ⟨by omega, by omega⟩ (fun v3 M3 hv3 => ?_)
  obtain ⟨hv4, hm4⟩ := hv3
  subst hv4
  subst M3
  refine j_topi hth ?_
  refine j_il dL_law_1057 rfl ?_
  refine j_iceqN (tgt := 1064) dL_law_1059 (by decide) (by omega) (by omega) (fun h1059 => ?_) (fun h1059 => ?_)
  · refine j_il dL_law_1064 rfl ?_
    refine j_ifneN (tgt := 1088) dL_law_1066 (by decide) (by omega) (fun h1066 => ?_) (fun h1066 => ?_)
    · refine j_goto (tgt := 2120) dL_law_1088 (by decide) ?_
      exact TL _ _ _ _ _ _ _ hI2 (by omega) (by omega)
    · refine j_aln dL_law_1069 rfl rfl ?_
      refine j_icN 0 dL_law_1070 rfl ?_
      refine j_aldO dL_law_1071 rfl ?_
      refine j_il dL_law_1072 rfl ?_
      refine j_ifeq (tgt := 1081) dL_law_1074 (by decide) (fun h1074 => ?_) (fun h1074 => ?_)
      · have ho : mW M2 2 = 0 := (hout h1066).trans (if_pos h1074)
        refine j_lc (v := 0) dL_law_1081 (by decide) ?_
        first | refine j_eq rfl (congrArg (fun q => [Value.long 0, Value.long q]) ho) rfl ?_ | refine j_eq rfl (congrArg (fun q => [Value.long 1, Value.long q]) ho) rfl ?_
        refine j_lcmp dL_law_1082 ?_
        refine j_ifeq (tgt := 1088) dL_law_1083 (by decide) (fun h1083 => ?_) (fun h1083 => ?_)
        · refine j_goto (tgt := 2120) dL_law_1088 (by decide) ?_
          exact TL _ _ _ _ _ _ _ hI2 (by omega) (by omega)
        · exact absurd (cmp_self _) h1083
      · have ho : mW M2 2 = 1 := (hout h1066).trans (if_neg h1074)
        refine j_lc (v := 1) dL_law_1077 (by decide) ?_
        refine j_goto (tgt := 1082) dL_law_1078 (by decide) ?_
        first | refine j_eq rfl (congrArg (fun q => [Value.long 0, Value.long q]) ho) rfl ?_ | refine j_eq rfl (congrArg (fun q => [Value.long 1, Value.long q]) ho) rfl ?_
        refine j_lcmp dL_law_1082 ?_
        refine j_ifeq (tgt := 1088) dL_law_1083 (by decide) (fun h1083 => ?_) (fun h1083 => ?_)
        · refine j_goto (tgt := 2120) dL_law_1088 (by decide) ?_
          exact TL _ _ _ _ _ _ _ hI2 (by omega) (by omega)
        · exact absurd (cmp_self _) h1083
  · exact absurd rfl h1059
set_option maxRecDepth 100000 in
set_option maxHeartbeats 4000000 in
theorem lb_nameOf {l : Launch} {E : Ev} {b L : Nat} {xs : Nat → Int32} {Inv : Mm → Prop} {M : Mm} {K N t : Nat} {o6 o7 o8 o9 : Option Value} (hL : L ≤ 2560) (ht : 5 * t + 5 ≤ L) (hK : K + 512 ≤ 603072) (hN : N + 3072 ≤ 7207018) (hs : Sp_nameOf l E Inv) (hI : Inv M) (TL : ∀ (M' : Mm) (k' n' : Nat) (o6 o7 o8 o9 : Option Value), Inv M' → k' ≤ K + (t + 1) → n' ≤ N + 6 * (t + 1) → JL l E b L xs k' n' 2120 [some (.ref b), some (.ref (eA E 0 0)), some (.ref (eA E 12 0)), some (.ref (eA E 14 0)), some (.ref (eA E 15 0)), some (.int (nI (5 * t))), o6, o7, o8, o9] [] M') : JL l E b L xs (K + t) (N + 6 * t) 1091 [some (.ref b), some (.ref (eA E 0 0)), some (.ref (eA E 12 0)), some (.ref (eA E 14 0)), some (.ref (eA E 15 0)), some (.int (nI (5 * t))), o6, o7, o8, o9] [] M := by
  refine j_aln dL_law_1091 rfl rfl ?_
  refine j_aln dL_law_1092 rfl rfl ?_
  refine j_il dL_law_1093 rfl ?_
  refine j_icN 1 dL_law_1095 rfl ?_
  refine j_iaddN dL_law_1096 ?_
  refine j_sld dL_law_1097 (by omega) (by omega) ?_
  refine j_aln dL_law_1098 rfl rfl ?_
  refine j_il dL_law_1099 rfl ?_
  refine j_icN 2 dL_law_1101 rfl ?_
  refine j_iaddN dL_law_1102 ?_
  refine j_sld dL_law_1103 (by omega) (by omega) ?_
  refine j_aln dL_law_1104 rfl rfl ?_
  refine j_il dL_law_1105 rfl ?_
  refine j_icN 3 dL_law_1107 rfl ?_
  refine j_iaddN dL_law_1108 ?_
  refine j_sld dL_law_1109 (by omega) (by omega) ?_
  refine j_aln dL_law_1110 rfl rfl ?_
  refine j_il dL_law_1111 rfl ?_
  refine j_icN 4 dL_law_1113 rfl ?_
  refine j_iaddN dL_law_1114 ?_
  refine j_sld dL_law_1115 (by omega) (by omega) ?_
  refine j_aln dL_law_1116 rfl rfl ?_
  obtain ⟨K1, hC1, hK1⟩ := hs M (xs (5 * t + 1)) (xs (5 * t + 2)) (xs (5 * t + 3)) (xs (5 * t + 4)) hI
  refine j_lW (rest := []) mw_nameOf ml_L_160 ⟨(Nat.le_of_ble_eq_true rfl), (Nat.le_of_ble_eq_true rfl)⟩ hC1 rfl rfl (Nat.le_of_ble_eq_true rfl) dL_law_1117 ⟨by omega, by omega⟩ (fun v M1 hv => ?_)
  obtain ⟨k, hk8, hve, lv2, P2, hlv2, hC2, hP2⟩ := hK1 v M1 hv
  subst hve
  refine j_ist_6 dL_law_1120 (by decide) rfl ?_
  refine j_aln dL_law_1122 rfl rfl ?_
  refine j_aln dL_law_1123 rfl rfl ?_
  refine j_il dL_law_1124 rfl ?_
  refine j_icN 1 dL_law_1126 rfl ?_
  refine j_iaddN dL_law_1127 ?_
  refine j_sld dL_law_1128 (by omega) (by omega) ?_
  refine j_aln dL_law_1129 rfl rfl ?_
  refine j_il dL_law_1130 rfl ?_
  refine j_icN 2 dL_law_1132 rfl ?_
  refine j_iaddN dL_law_1133 ?_
  refine j_sld dL_law_1134 (by omega) (by omega) ?_
  refine j_aln dL_law_1135 rfl rfl ?_
  refine j_il dL_law_1136 rfl ?_
  refine j_icN 3 dL_law_1138 rfl ?_
  refine j_iaddN dL_law_1139 ?_
  refine j_sld dL_law_1140 (by omega) (by omega) ?_
  refine j_aln dL_law_1141 rfl rfl ?_
  refine j_il dL_law_1142 rfl ?_
  refine j_icN 4 dL_law_1144 rfl ?_
  refine j_iaddN dL_law_1145 ?_
  refine j_sld dL_law_1146 (by omega) (by omega) ?_
  refine j_lV (rest := []) mf_X10_nameOf ml_L_162 ⟨by omega, by omega⟩ hC2 (by decide) rfl rfl rfl rfl (Nat.le_of_ble_eq_true rfl) dL_law_1147 ⟨by omega, by omega⟩ (fun v2 M2 hv2 => ?_)
  obtain ⟨w, hw, hth, hout, hI2⟩ := hP2 v2 M2 hv2
  subst hw
  refine j_ist_7 dL_law_1150 (by decide) rfl ?_
  refine j_aln dL_law_1152 rfl rfl ?_
  refine j_lV (rest := []) mf_X10_thrown ml_L_112 ⟨(Nat.le_of_ble_eq_true rfl), (Nat.le_of_ble_eq_true rfl)⟩ c_X10_thrown (by decide) rfl rfl rfl rfl (Nat.le_of_ble_eq_true rfl) dL_law_1153 ⟨by omega, by omega⟩ (fun v3 M3 hv3 => ?_)
  obtain ⟨hv4, hm4⟩ := hv3
  subst hv4
  subst M3
  refine j_topi hth ?_
  refine j_il dL_law_1156 rfl ?_
  refine j_iceqN (tgt := 1163) dL_law_1158 (by decide) (by omega) (by omega) (fun h1158 => ?_) (fun h1158 => ?_)
  · refine j_il dL_law_1163 rfl ?_
    refine j_ifneN (tgt := 1180) dL_law_1165 (by decide) (by omega) (fun h1165 => ?_) (fun h1165 => ?_)
    · refine j_goto (tgt := 2120) dL_law_1180 (by decide) ?_
      exact TL _ _ _ _ _ _ _ hI2 (by omega) (by omega)
    · refine j_aln dL_law_1168 rfl rfl ?_
      refine j_icN 0 dL_law_1169 rfl ?_
      refine j_aldO dL_law_1170 rfl ?_
      refine j_il dL_law_1171 rfl ?_
      refine j_i2l dL_law_1173 ?_
      refine j_eq rfl (show [Value.long w.toInt64, Value.long (mW M2 2)] = [Value.long w.toInt64, Value.long w.toInt64] from by rw [hout h1165]) rfl ?_
      refine j_lcmp dL_law_1174 ?_
      refine j_ifeq (tgt := 1180) dL_law_1175 (by decide) (fun h1175 => ?_) (fun h1175 => ?_)
      · refine j_goto (tgt := 2120) dL_law_1180 (by decide) ?_
        exact TL _ _ _ _ _ _ _ hI2 (by omega) (by omega)
      · exact absurd (cmp_self _) h1175
  · exact absurd rfl h1158
set_option maxRecDepth 100000 in
set_option maxHeartbeats 4000000 in
theorem lb_squares {l : Launch} {E : Ev} {b L : Nat} {xs : Nat → Int32} {Inv : Mm → Prop} {M : Mm} {K N t : Nat} {o6 o7 o8 o9 : Option Value} (hL : L ≤ 2560) (ht : 5 * t + 5 ≤ L) (hK : K + 512 ≤ 603072) (hN : N + 3072 ≤ 7207018) (hs : Sp_squares l E Inv) (hI : Inv M) (TL : ∀ (M' : Mm) (k' n' : Nat) (o6 o7 o8 o9 : Option Value), Inv M' → k' ≤ K + (t + 1) → n' ≤ N + 6 * (t + 1) → JL l E b L xs k' n' 2120 [some (.ref b), some (.ref (eA E 0 0)), some (.ref (eA E 12 0)), some (.ref (eA E 14 0)), some (.ref (eA E 15 0)), some (.int (nI (5 * t))), o6, o7, o8, o9] [] M') : JL l E b L xs (K + t) (N + 6 * t) 1183 [some (.ref b), some (.ref (eA E 0 0)), some (.ref (eA E 12 0)), some (.ref (eA E 14 0)), some (.ref (eA E 15 0)), some (.int (nI (5 * t))), o6, o7, o8, o9] [] M := by
  refine j_aln dL_law_1183 rfl rfl ?_
  refine j_aln dL_law_1184 rfl rfl ?_
  refine j_il dL_law_1185 rfl ?_
  refine j_icN 1 dL_law_1187 rfl ?_
  refine j_iaddN dL_law_1188 ?_
  refine j_sld dL_law_1189 (by omega) (by omega) ?_
  refine j_aln dL_law_1190 rfl rfl ?_
  refine j_il dL_law_1191 rfl ?_
  refine j_icN 2 dL_law_1193 rfl ?_
  refine j_iaddN dL_law_1194 ?_
  refine j_sld dL_law_1195 (by omega) (by omega) ?_
  refine j_aln dL_law_1196 rfl rfl ?_
  obtain ⟨K1, hC1, hK1⟩ := hs M (xs (5 * t + 1)) (xs (5 * t + 2)) hI
  refine j_lW (rest := []) mw_squares ml_L_163 ⟨(Nat.le_of_ble_eq_true rfl), (Nat.le_of_ble_eq_true rfl)⟩ hC1 rfl rfl (Nat.le_of_ble_eq_true rfl) dL_law_1197 ⟨by omega, by omega⟩ (fun v M1 hv => ?_)
  obtain ⟨k, hk8, hve, lv2, P2, hlv2, hC2, hP2⟩ := hK1 v M1 hv
  subst hve
  refine j_ist_6 dL_law_1200 (by decide) rfl ?_
  refine j_aln dL_law_1202 rfl rfl ?_
  refine j_aln dL_law_1203 rfl rfl ?_
  refine j_il dL_law_1204 rfl ?_
  refine j_icN 1 dL_law_1206 rfl ?_
  refine j_iaddN dL_law_1207 ?_
  refine j_sld dL_law_1208 (by omega) (by omega) ?_
  refine j_aln dL_law_1209 rfl rfl ?_
  refine j_il dL_law_1210 rfl ?_
  refine j_icN 2 dL_law_1212 rfl ?_
  refine j_iaddN dL_law_1213 ?_
  refine j_sld dL_law_1214 (by omega) (by omega) ?_
  refine j_lV (rest := []) mf_X10_squares ml_L_165 ⟨by omega, by omega⟩ hC2 (by decide) rfl rfl rfl rfl (Nat.le_of_ble_eq_true rfl) dL_law_1215 ⟨by omega, by omega⟩ (fun v2 M2 hv2 => ?_)
  obtain ⟨w, hw, hth, hout, hI2⟩ := hP2 v2 M2 hv2
  subst hw
  refine j_ist_7 dL_law_1218 (by decide) rfl ?_
  refine j_aln dL_law_1220 rfl rfl ?_
  refine j_lV (rest := []) mf_X10_thrown ml_L_112 ⟨(Nat.le_of_ble_eq_true rfl), (Nat.le_of_ble_eq_true rfl)⟩ c_X10_thrown (by decide) rfl rfl rfl rfl (Nat.le_of_ble_eq_true rfl) dL_law_1221 ⟨by omega, by omega⟩ (fun v3 M3 hv3 => ?_)
  obtain ⟨hv4, hm4⟩ := hv3
  subst hv4
  subst M3
  refine j_topi hth ?_
  refine j_il dL_law_1224 rfl ?_
  refine j_iceqN (tgt := 1231) dL_law_1226 (by decide) (by omega) (by omega) (fun h1226 => ?_) (fun h1226 => ?_)
  · refine j_il dL_law_1231 rfl ?_
    refine j_ifneN (tgt := 1248) dL_law_1233 (by decide) (by omega) (fun h1233 => ?_) (fun h1233 => ?_)
    · refine j_goto (tgt := 2120) dL_law_1248 (by decide) ?_
      exact TL _ _ _ _ _ _ _ hI2 (by omega) (by omega)
    · refine j_aln dL_law_1236 rfl rfl ?_
      refine j_icN 0 dL_law_1237 rfl ?_
      refine j_aldO dL_law_1238 rfl ?_
      refine j_il dL_law_1239 rfl ?_
      refine j_i2l dL_law_1241 ?_
      refine j_eq rfl (show [Value.long w.toInt64, Value.long (mW M2 2)] = [Value.long w.toInt64, Value.long w.toInt64] from by rw [hout h1233]) rfl ?_
      refine j_lcmp dL_law_1242 ?_
      refine j_ifeq (tgt := 1248) dL_law_1243 (by decide) (fun h1243 => ?_) (fun h1243 => ?_)
      · refine j_goto (tgt := 2120) dL_law_1248 (by decide) ?_
        exact TL _ _ _ _ _ _ _ hI2 (by omega) (by omega)
      · exact absurd (cmp_self _) h1243
  · exact absurd rfl h1226
set_option maxRecDepth 100000 in
set_option maxHeartbeats 4000000 in
theorem lb_volume {l : Launch} {E : Ev} {b L : Nat} {xs : Nat → Int32} {Inv : Mm → Prop} {M : Mm} {K N t : Nat} {o6 o7 o8 o9 : Option Value} (hL : L ≤ 2560) (ht : 5 * t + 5 ≤ L) (hK : K + 512 ≤ 603072) (hN : N + 3072 ≤ 7207018) (hs : Sp_volume l E Inv) (hI : Inv M) (TL : ∀ (M' : Mm) (k' n' : Nat) (o6 o7 o8 o9 : Option Value), Inv M' → k' ≤ K + (t + 1) → n' ≤ N + 6 * (t + 1) → JL l E b L xs k' n' 2120 [some (.ref b), some (.ref (eA E 0 0)), some (.ref (eA E 12 0)), some (.ref (eA E 14 0)), some (.ref (eA E 15 0)), some (.int (nI (5 * t))), o6, o7, o8, o9] [] M') : JL l E b L xs (K + t) (N + 6 * t) 1251 [some (.ref b), some (.ref (eA E 0 0)), some (.ref (eA E 12 0)), some (.ref (eA E 14 0)), some (.ref (eA E 15 0)), some (.int (nI (5 * t))), o6, o7, o8, o9] [] M := by
  refine j_aln dL_law_1251 rfl rfl ?_
  obtain ⟨lv1, P1, hlv1, hC1, hP1⟩ := hs M hI
  refine j_lV (rest := []) mf_X9_volume ml_L_166 ⟨by omega, by omega⟩ hC1 (by decide) rfl rfl rfl rfl (Nat.le_of_ble_eq_true rfl) dL_law_1252 ⟨by omega, by omega⟩ (fun v M1 hv => ?_)
  obtain ⟨a, hve, lv2, P2, hlv2, hC2, hP2⟩ := hP1 v M1 hv
  subst hve
  refine j_aln dL_law_1255 rfl rfl ?_
  refine j_lV (rest := [.int a]) mf_X10_volume ml_L_169 ⟨by omega, by omega⟩ hC2 (by decide) rfl rfl rfl rfl (Nat.le_of_ble_eq_true rfl) dL_law_1256 ⟨by omega, by omega⟩ (fun v2 M2 hv2 => ?_)
  obtain ⟨hw, hI2⟩ := hP2 v2 M2 hv2
  subst hw
  refine j_iceq (tgt := 2120) dL_law_1259 (by decide) (fun h1259 => ?_) (fun h1259 => ?_)
  · exact TL _ _ _ _ _ _ _ hI2 (by omega) (by omega)
  · exact absurd rfl h1259
set_option maxRecDepth 100000 in
set_option maxHeartbeats 4000000 in
theorem lb_area {l : Launch} {E : Ev} {b L : Nat} {xs : Nat → Int32} {Inv : Mm → Prop} {M : Mm} {K N t : Nat} {o6 o7 o8 o9 : Option Value} (hL : L ≤ 2560) (ht : 5 * t + 5 ≤ L) (hK : K + 512 ≤ 603072) (hN : N + 3072 ≤ 7207018) (hs : Sp_area l E Inv) (hI : Inv M) (TL : ∀ (M' : Mm) (k' n' : Nat) (o6 o7 o8 o9 : Option Value), Inv M' → k' ≤ K + (t + 1) → n' ≤ N + 6 * (t + 1) → JL l E b L xs k' n' 2120 [some (.ref b), some (.ref (eA E 0 0)), some (.ref (eA E 12 0)), some (.ref (eA E 14 0)), some (.ref (eA E 15 0)), some (.int (nI (5 * t))), o6, o7, o8, o9] [] M') : JL l E b L xs (K + t) (N + 6 * t) 1264 [some (.ref b), some (.ref (eA E 0 0)), some (.ref (eA E 12 0)), some (.ref (eA E 14 0)), some (.ref (eA E 15 0)), some (.int (nI (5 * t))), o6, o7, o8, o9] [] M := by
  refine j_aln dL_law_1264 rfl rfl ?_
  obtain ⟨lv1, P1, hlv1, hC1, hP1⟩ := hs M hI
  refine j_lV (rest := []) mf_X9_area ml_L_170 ⟨by omega, by omega⟩ hC1 (by decide) rfl rfl rfl rfl (Nat.le_of_ble_eq_true rfl) dL_law_1265 ⟨by omega, by omega⟩ (fun v M1 hv => ?_)
  obtain ⟨a, hve, lv2, P2, hlv2, hC2, hP2⟩ := hP1 v M1 hv
  subst hve
  refine j_aln dL_law_1268 rfl rfl ?_
  refine j_lV (rest := [.int a]) mf_X10_area ml_L_173 ⟨by omega, by omega⟩ hC2 (by decide) rfl rfl rfl rfl (Nat.le_of_ble_eq_true rfl) dL_law_1269 ⟨by omega, by omega⟩ (fun v2 M2 hv2 => ?_)
  obtain ⟨hw, hI2⟩ := hP2 v2 M2 hv2
  subst hw
  refine j_iceq (tgt := 2120) dL_law_1272 (by decide) (fun h1272 => ?_) (fun h1272 => ?_)
  · exact TL _ _ _ _ _ _ _ hI2 (by omega) (by omega)
  · exact absurd rfl h1272
set_option maxRecDepth 100000 in
set_option maxHeartbeats 4000000 in
theorem lb_bodies {l : Launch} {E : Ev} {b L : Nat} {xs : Nat → Int32} {Inv : Mm → Prop} {M : Mm} {K N t : Nat} {o6 o7 o8 o9 : Option Value} (hL : L ≤ 2560) (ht : 5 * t + 5 ≤ L) (hK : K + 512 ≤ 603072) (hN : N + 3072 ≤ 7207018) (hs : Sp_bodies l E Inv) (hI : Inv M) (TL : ∀ (M' : Mm) (k' n' : Nat) (o6 o7 o8 o9 : Option Value), Inv M' → k' ≤ K + (t + 1) → n' ≤ N + 6 * (t + 1) → JL l E b L xs k' n' 2120 [some (.ref b), some (.ref (eA E 0 0)), some (.ref (eA E 12 0)), some (.ref (eA E 14 0)), some (.ref (eA E 15 0)), some (.int (nI (5 * t))), o6, o7, o8, o9] [] M') : JL l E b L xs (K + t) (N + 6 * t) 1277 [some (.ref b), some (.ref (eA E 0 0)), some (.ref (eA E 12 0)), some (.ref (eA E 14 0)), some (.ref (eA E 15 0)), some (.int (nI (5 * t))), o6, o7, o8, o9] [] M := by
  refine j_aln dL_law_1277 rfl rfl ?_
  obtain ⟨lv1, P1, hlv1, hC1, hP1⟩ := hs M hI
  refine j_lV (rest := []) mf_X9_bodies ml_L_174 ⟨by omega, by omega⟩ hC1 (by decide) rfl rfl rfl rfl (Nat.le_of_ble_eq_true rfl) dL_law_1278 ⟨by omega, by omega⟩ (fun v M1 hv => ?_)
  obtain ⟨a, hve, lv2, P2, hlv2, hC2, hP2⟩ := hP1 v M1 hv
  subst hve
  refine j_aln dL_law_1281 rfl rfl ?_
  refine j_lV (rest := [.int a]) mf_X10_bodies ml_L_177 ⟨by omega, by omega⟩ hC2 (by decide) rfl rfl rfl rfl (Nat.le_of_ble_eq_true rfl) dL_law_1282 ⟨by omega, by omega⟩ (fun v2 M2 hv2 => ?_)
  obtain ⟨hw, hI2⟩ := hP2 v2 M2 hv2
  subst hw
  refine j_iceq (tgt := 2120) dL_law_1285 (by decide) (fun h1285 => ?_) (fun h1285 => ?_)
  · exact TL _ _ _ _ _ _ _ hI2 (by omega) (by omega)
  · exact absurd rfl h1285
set_option maxRecDepth 100000 in
set_option maxHeartbeats 4000000 in
theorem lb_euler {l : Launch} {E : Ev} {b L : Nat} {xs : Nat → Int32} {Inv : Mm → Prop} {M : Mm} {K N t : Nat} {o6 o7 o8 o9 : Option Value} (hL : L ≤ 2560) (ht : 5 * t + 5 ≤ L) (hK : K + 512 ≤ 603072) (hN : N + 3072 ≤ 7207018) (hs : Sp_euler l E Inv) (hI : Inv M) (TL : ∀ (M' : Mm) (k' n' : Nat) (o6 o7 o8 o9 : Option Value), Inv M' → k' ≤ K + (t + 1) → n' ≤ N + 6 * (t + 1) → JL l E b L xs k' n' 2120 [some (.ref b), some (.ref (eA E 0 0)), some (.ref (eA E 12 0)), some (.ref (eA E 14 0)), some (.ref (eA E 15 0)), some (.int (nI (5 * t))), o6, o7, o8, o9] [] M') : JL l E b L xs (K + t) (N + 6 * t) 1290 [some (.ref b), some (.ref (eA E 0 0)), some (.ref (eA E 12 0)), some (.ref (eA E 14 0)), some (.ref (eA E 15 0)), some (.int (nI (5 * t))), o6, o7, o8, o9] [] M := by
  refine j_aln dL_law_1290 rfl rfl ?_
  obtain ⟨lv1, P1, hlv1, hC1, hP1⟩ := hs M hI
  refine j_lV (rest := []) mf_X9_euler ml_L_178 ⟨by omega, by omega⟩ hC1 (by decide) rfl rfl rfl rfl (Nat.le_of_ble_eq_true rfl) dL_law_1291 ⟨by omega, by omega⟩ (fun v M1 hv => ?_)
  obtain ⟨a, hve, lv2, P2, hlv2, hC2, hP2⟩ := hP1 v M1 hv
  subst hve
  refine j_aln dL_law_1294 rfl rfl ?_
  refine j_lV (rest := [.int a]) mf_X10_euler ml_L_181 ⟨by omega, by omega⟩ hC2 (by decide) rfl rfl rfl rfl (Nat.le_of_ble_eq_true rfl) dL_law_1295 ⟨by omega, by omega⟩ (fun v2 M2 hv2 => ?_)
  obtain ⟨hw, hI2⟩ := hP2 v2 M2 hv2
  subst hw
  refine j_iceq (tgt := 2120) dL_law_1298 (by decide) (fun h1298 => ?_) (fun h1298 => ?_)
  · exact TL _ _ _ _ _ _ _ hI2 (by omega) (by omega)
  · exact absurd rfl h1298
set_option maxRecDepth 100000 in
set_option maxHeartbeats 4000000 in
theorem lb_centre {l : Launch} {E : Ev} {b L : Nat} {xs : Nat → Int32} {Inv : Mm → Prop} {M : Mm} {K N t : Nat} {o6 o7 o8 o9 : Option Value} (hL : L ≤ 2560) (ht : 5 * t + 5 ≤ L) (hK : K + 512 ≤ 603072) (hN : N + 3072 ≤ 7207018) (hs : Sp_centre l E Inv) (hI : Inv M) (TL : ∀ (M' : Mm) (k' n' : Nat) (o6 o7 o8 o9 : Option Value), Inv M' → k' ≤ K + (t + 1) → n' ≤ N + 6 * (t + 1) → JL l E b L xs k' n' 2120 [some (.ref b), some (.ref (eA E 0 0)), some (.ref (eA E 12 0)), some (.ref (eA E 14 0)), some (.ref (eA E 15 0)), some (.int (nI (5 * t))), o6, o7, o8, o9] [] M') : JL l E b L xs (K + t) (N + 6 * t) 1303 [some (.ref b), some (.ref (eA E 0 0)), some (.ref (eA E 12 0)), some (.ref (eA E 14 0)), some (.ref (eA E 15 0)), some (.int (nI (5 * t))), o6, o7, o8, o9] [] M := by
  refine j_aln dL_law_1303 rfl rfl ?_
  refine j_aln dL_law_1304 rfl rfl ?_
  refine j_il dL_law_1305 rfl ?_
  refine j_icN 1 dL_law_1307 rfl ?_
  refine j_iaddN dL_law_1308 ?_
  refine j_sld dL_law_1309 (by omega) (by omega) ?_
  refine j_al dL_law_1310 rfl ?_
  obtain ⟨K1, hC1, hK1⟩ := hs M (xs (5 * t + 1)) hI
  refine j_lW (rest := []) mw_centre ml_L_182 ⟨(Nat.le_of_ble_eq_true rfl), (Nat.le_of_ble_eq_true rfl)⟩ hC1 rfl rfl (Nat.le_of_ble_eq_true rfl) dL_law_1312 ⟨by omega, by omega⟩ (fun v M1 hv => ?_)
  obtain ⟨k, hk8, hve, lv2, P2, hlv2, hC2, hP2⟩ := hK1 v M1 hv
  subst hve
  refine j_ist_6 dL_law_1315 (by decide) rfl ?_
  refine j_aln dL_law_1317 rfl rfl ?_
  refine j_aln dL_law_1318 rfl rfl ?_
  refine j_il dL_law_1319 rfl ?_
  refine j_icN 1 dL_law_1321 rfl ?_
  refine j_iaddN dL_law_1322 ?_
  refine j_sld dL_law_1323 (by omega) (by omega) ?_
  refine j_lV (rest := []) mf_X10_centre ml_L_185 ⟨by omega, by omega⟩ hC2 (by decide) rfl rfl rfl rfl (Nat.le_of_ble_eq_true rfl) dL_law_1324 ⟨by omega, by omega⟩ (fun v2 M2 hv2 => ?_)
  obtain ⟨w, hw, hth, hout, hI2⟩ := hP2 v2 M2 hv2
  subst hw
  refine j_dst_7 dL_law_1327 (by decide) rfl ?_
  refine j_aln dL_law_1329 rfl rfl ?_
  refine j_lV (rest := []) mf_X10_thrown ml_L_112 ⟨(Nat.le_of_ble_eq_true rfl), (Nat.le_of_ble_eq_true rfl)⟩ c_X10_thrown (by decide) rfl rfl rfl rfl (Nat.le_of_ble_eq_true rfl) dL_law_1330 ⟨by omega, by omega⟩ (fun v3 M3 hv3 => ?_)
  obtain ⟨hv4, hm4⟩ := hv3
  subst hv4
  subst M3
  refine j_topi hth ?_
  refine j_il dL_law_1333 rfl ?_
  refine j_iceqN (tgt := 1340) dL_law_1335 (by decide) (by omega) (by omega) (fun h1335 => ?_) (fun h1335 => ?_)
  · refine j_il dL_law_1340 rfl ?_
    refine j_ifneN (tgt := 1377) dL_law_1342 (by decide) (by omega) (fun h1342 => ?_) (fun h1342 => ?_)
    · refine j_goto (tgt := 2120) dL_law_1377 (by decide) ?_
      exact TL _ _ _ _ _ _ _ hI2 (by omega) (by omega)
    · refine j_al dL_law_1345 rfl ?_
      refine j_icN 0 dL_law_1347 rfl ?_
      refine j_aldD dL_law_1348 rfl ?_
      refine j_dl dL_law_1349 rfl ?_
      refine j_dcmp dL_law_1351 ?_
      refine j_ifeq (tgt := 1377) dL_law_1352 (by decide) (fun h1352 => ?_) (fun h1352 => ?_)
      · refine j_goto (tgt := 2120) dL_law_1377 (by decide) ?_
        exact TL _ _ _ _ _ _ _ hI2 (by omega) (by omega)
      · have hmd : mD M2 = w := hout h1342
        refine j_al dL_law_1355 rfl ?_
        refine j_icN 0 dL_law_1357 rfl ?_
        refine j_aldD dL_law_1358 rfl ?_
        refine j_al dL_law_1359 rfl ?_
        refine j_icN 0 dL_law_1361 rfl ?_
        refine j_aldD dL_law_1362 rfl ?_
        refine j_dcmp dL_law_1363 ?_
        refine j_ifeq (tgt := 1375) dL_law_1364 (by decide) (fun h1364 => ?_) (fun h1364 => ?_)
        · exact absurd (by rw [hmd] at h1364 ⊢; exact h1364) h1352
        · refine j_dl dL_law_1367 rfl ?_
          refine j_dl dL_law_1369 rfl ?_
          refine j_dcmp dL_law_1371 ?_
          refine j_ifne (tgt := 1377) dL_law_1372 (by decide) (fun h1372 => ?_) (fun h1372 => ?_)
          · refine j_goto (tgt := 2120) dL_law_1377 (by decide) ?_
            exact TL _ _ _ _ _ _ _ hI2 (by omega) (by omega)
          · exact absurd (by rw [hmd]; exact h1372) h1352
  · exact absurd rfl h1335
set_option maxRecDepth 100000 in
set_option maxHeartbeats 4000000 in
theorem lb_filled {l : Launch} {E : Ev} {b L : Nat} {xs : Nat → Int32} {Inv : Mm → Prop} {M : Mm} {K N t : Nat} {o6 o7 o8 o9 : Option Value} (hL : L ≤ 2560) (ht : 5 * t + 5 ≤ L) (hK : K + 512 ≤ 603072) (hN : N + 3072 ≤ 7207018) (hs : Sp_filled l E Inv) (hI : Inv M) (TL : ∀ (M' : Mm) (k' n' : Nat) (o6 o7 o8 o9 : Option Value), Inv M' → k' ≤ K + (t + 1) → n' ≤ N + 6 * (t + 1) → JL l E b L xs k' n' 2120 [some (.ref b), some (.ref (eA E 0 0)), some (.ref (eA E 12 0)), some (.ref (eA E 14 0)), some (.ref (eA E 15 0)), some (.int (nI (5 * t))), o6, o7, o8, o9] [] M') : JL l E b L xs (K + t) (N + 6 * t) 1380 [some (.ref b), some (.ref (eA E 0 0)), some (.ref (eA E 12 0)), some (.ref (eA E 14 0)), some (.ref (eA E 15 0)), some (.int (nI (5 * t))), o6, o7, o8, o9] [] M := by
  refine j_aln dL_law_1380 rfl rfl ?_
  obtain ⟨lv1, P1, hlv1, hC1, hP1⟩ := hs M hI
  refine j_lV (rest := []) mf_X9_filled ml_L_186 ⟨by omega, by omega⟩ hC1 (by decide) rfl rfl rfl rfl (Nat.le_of_ble_eq_true rfl) dL_law_1381 ⟨by omega, by omega⟩ (fun v M1 hv => ?_)
  obtain ⟨a, hve, hna, lv2, P2, hlv2, hC2, hP2⟩ := hP1 v M1 hv
  subst hve
  refine j_f2d dL_law_1384 hna ?_
  refine j_dst_6 dL_law_1385 (by decide) rfl ?_
  refine j_aln dL_law_1387 rfl rfl ?_
  refine j_lV (rest := []) mf_X10_filled ml_L_190 ⟨by omega, by omega⟩ hC2 (by decide) rfl rfl rfl rfl (Nat.le_of_ble_eq_true rfl) dL_law_1388 ⟨by omega, by omega⟩ (fun v2 M2 hv2 => ?_)
  obtain ⟨hw, hI2⟩ := hP2 v2 M2 hv2
  subst hw
  refine j_f2d dL_law_1391 hna ?_
  refine j_dst_8 dL_law_1392 (by decide) rfl ?_
  refine j_dl dL_law_1394 rfl ?_
  refine j_dl dL_law_1396 rfl ?_
  refine j_dcmp dL_law_1398 ?_
  refine j_ifeq (tgt := 1420) dL_law_1399 (by decide) (fun h1399 => ?_) (fun h1399 => ?_)
  · refine j_goto (tgt := 2120) dL_law_1420 (by decide) ?_
    exact TL _ _ _ _ _ _ _ hI2 (by omega) (by omega)
  · refine j_dl dL_law_1402 rfl ?_
    refine j_dl dL_law_1404 rfl ?_
    refine j_dcmp dL_law_1406 ?_
    refine j_ifeq (tgt := 1418) dL_law_1407 (by decide) (fun h1407 => ?_) (fun h1407 => ?_)
    · exact absurd h1407 h1399
    · refine j_dl dL_law_1410 rfl ?_
      refine j_dl dL_law_1412 rfl ?_
      refine j_dcmp dL_law_1414 ?_
      refine j_ifne (tgt := 1420) dL_law_1415 (by decide) (fun h1415 => ?_) (fun h1415 => ?_)
      · refine j_goto (tgt := 2120) dL_law_1420 (by decide) ?_
        exact TL _ _ _ _ _ _ _ hI2 (by omega) (by omega)
      · exact absurd h1415 h1399
set_option maxRecDepth 100000 in
set_option maxHeartbeats 4000000 in
theorem lb_addPart {l : Launch} {E : Ev} {b L : Nat} {xs : Nat → Int32} {Inv : Mm → Prop} {M : Mm} {K N t : Nat} {o6 o7 o8 o9 : Option Value} (hL : L ≤ 2560) (ht : 5 * t + 5 ≤ L) (hK : K + 512 ≤ 603072) (hN : N + 3072 ≤ 7207018) (hs : Sp_addPart l E Inv) (hI : Inv M) (TL : ∀ (M' : Mm) (k' n' : Nat) (o6 o7 o8 o9 : Option Value), Inv M' → k' ≤ K + (t + 1) → n' ≤ N + 6 * (t + 1) → JL l E b L xs k' n' 2120 [some (.ref b), some (.ref (eA E 0 0)), some (.ref (eA E 12 0)), some (.ref (eA E 14 0)), some (.ref (eA E 15 0)), some (.int (nI (5 * t))), o6, o7, o8, o9] [] M') : JL l E b L xs (K + t) (N + 6 * t) 1423 [some (.ref b), some (.ref (eA E 0 0)), some (.ref (eA E 12 0)), some (.ref (eA E 14 0)), some (.ref (eA E 15 0)), some (.int (nI (5 * t))), o6, o7, o8, o9] [] M := by
  refine j_aln dL_law_1423 rfl rfl ?_
  refine j_aln dL_law_1424 rfl rfl ?_
  refine j_il dL_law_1425 rfl ?_
  refine j_icN 1 dL_law_1427 rfl ?_
  refine j_iaddN dL_law_1428 ?_
  refine j_sld dL_law_1429 (by omega) (by omega) ?_
  refine j_aln dL_law_1430 rfl rfl ?_
  refine j_il dL_law_1431 rfl ?_
  refine j_icN 2 dL_law_1433 rfl ?_
  refine j_iaddN dL_law_1434 ?_
  refine j_sld dL_law_1435 (by omega) (by omega) ?_
  refine j_aln dL_law_1436 rfl rfl ?_
  refine j_il dL_law_1437 rfl ?_
  refine j_icN 3 dL_law_1439 rfl ?_
  refine j_iaddN dL_law_1440 ?_
  refine j_sld dL_law_1441 (by omega) (by omega) ?_
  refine j_aln dL_law_1442 rfl rfl ?_
  obtain ⟨K1, hC1, hK1⟩ := hs M (xs (5 * t + 1)) (xs (5 * t + 2)) (xs (5 * t + 3)) hI
  refine j_lW (rest := []) mw_addPart ml_L_191 ⟨(Nat.le_of_ble_eq_true rfl), (Nat.le_of_ble_eq_true rfl)⟩ hC1 rfl rfl (Nat.le_of_ble_eq_true rfl) dL_law_1443 ⟨by omega, by omega⟩ (fun v M1 hv => ?_)
  obtain ⟨k, hk8, hve, lv2, P2, hlv2, hC2, hP2⟩ := hK1 v M1 hv
  subst hve
  refine j_ist_6 dL_law_1446 (by decide) rfl ?_
  refine j_aln dL_law_1448 rfl rfl ?_
  refine j_aln dL_law_1449 rfl rfl ?_
  refine j_il dL_law_1450 rfl ?_
  refine j_icN 1 dL_law_1452 rfl ?_
  refine j_iaddN dL_law_1453 ?_
  refine j_sld dL_law_1454 (by omega) (by omega) ?_
  refine j_aln dL_law_1455 rfl rfl ?_
  refine j_il dL_law_1456 rfl ?_
  refine j_icN 2 dL_law_1458 rfl ?_
  refine j_iaddN dL_law_1459 ?_
  refine j_sld dL_law_1460 (by omega) (by omega) ?_
  refine j_aln dL_law_1461 rfl rfl ?_
  refine j_il dL_law_1462 rfl ?_
  refine j_icN 3 dL_law_1464 rfl ?_
  refine j_iaddN dL_law_1465 ?_
  refine j_sld dL_law_1466 (by omega) (by omega) ?_
  refine j_lV (rest := []) mf_X10_addPart ml_L_193 ⟨by omega, by omega⟩ hC2 (by decide) rfl rfl rfl rfl (Nat.le_of_ble_eq_true rfl) dL_law_1467 ⟨by omega, by omega⟩ (fun v2 M2 hv2 => ?_)
  obtain ⟨w, hw, hth, hout, hI2⟩ := hP2 v2 M2 hv2
  subst hw
  refine j_ist_7 dL_law_1470 (by decide) rfl ?_
  refine j_aln dL_law_1472 rfl rfl ?_
  refine j_lV (rest := []) mf_X10_thrown ml_L_112 ⟨(Nat.le_of_ble_eq_true rfl), (Nat.le_of_ble_eq_true rfl)⟩ c_X10_thrown (by decide) rfl rfl rfl rfl (Nat.le_of_ble_eq_true rfl) dL_law_1473 ⟨by omega, by omega⟩ (fun v3 M3 hv3 => ?_)
  obtain ⟨hv4, hm4⟩ := hv3
  subst hv4
  subst M3
  refine j_topi hth ?_
  refine j_il dL_law_1476 rfl ?_
  refine j_iceqN (tgt := 1483) dL_law_1478 (by decide) (by omega) (by omega) (fun h1478 => ?_) (fun h1478 => ?_)
  · refine j_il dL_law_1483 rfl ?_
    refine j_ifneN (tgt := 1500) dL_law_1485 (by decide) (by omega) (fun h1485 => ?_) (fun h1485 => ?_)
    · refine j_goto (tgt := 2120) dL_law_1500 (by decide) ?_
      exact TL _ _ _ _ _ _ _ hI2 (by omega) (by omega)
    · refine j_aln dL_law_1488 rfl rfl ?_
      refine j_icN 0 dL_law_1489 rfl ?_
      refine j_aldO dL_law_1490 rfl ?_
      refine j_il dL_law_1491 rfl ?_
      refine j_i2l dL_law_1493 ?_
      refine j_eq rfl (show [Value.long w.toInt64, Value.long (mW M2 2)] = [Value.long w.toInt64, Value.long w.toInt64] from by rw [hout h1485]) rfl ?_
      refine j_lcmp dL_law_1494 ?_
      refine j_ifeq (tgt := 1500) dL_law_1495 (by decide) (fun h1495 => ?_) (fun h1495 => ?_)
      · refine j_goto (tgt := 2120) dL_law_1500 (by decide) ?_
        exact TL _ _ _ _ _ _ _ hI2 (by omega) (by omega)
      · exact absurd (cmp_self _) h1495
  · exact absurd rfl h1478
set_option maxRecDepth 100000 in
set_option maxHeartbeats 4000000 in
theorem lb_freeze {l : Launch} {E : Ev} {b L : Nat} {xs : Nat → Int32} {Inv : Mm → Prop} {M : Mm} {K N t : Nat} {o6 o7 o8 o9 : Option Value} (hL : L ≤ 2560) (ht : 5 * t + 5 ≤ L) (hK : K + 512 ≤ 603072) (hN : N + 3072 ≤ 7207018) (hs : Sp_freeze l E Inv) (hI : Inv M) (TL : ∀ (M' : Mm) (k' n' : Nat) (o6 o7 o8 o9 : Option Value), Inv M' → k' ≤ K + (t + 1) → n' ≤ N + 6 * (t + 1) → JL l E b L xs k' n' 2120 [some (.ref b), some (.ref (eA E 0 0)), some (.ref (eA E 12 0)), some (.ref (eA E 14 0)), some (.ref (eA E 15 0)), some (.int (nI (5 * t))), o6, o7, o8, o9] [] M') : JL l E b L xs (K + t) (N + 6 * t) 1503 [some (.ref b), some (.ref (eA E 0 0)), some (.ref (eA E 12 0)), some (.ref (eA E 14 0)), some (.ref (eA E 15 0)), some (.int (nI (5 * t))), o6, o7, o8, o9] [] M := by
  refine j_aln dL_law_1503 rfl rfl ?_
  refine j_aln dL_law_1504 rfl rfl ?_
  refine j_il dL_law_1505 rfl ?_
  refine j_icN 1 dL_law_1507 rfl ?_
  refine j_iaddN dL_law_1508 ?_
  refine j_sld dL_law_1509 (by omega) (by omega) ?_
  refine j_aln dL_law_1510 rfl rfl ?_
  refine j_il dL_law_1511 rfl ?_
  refine j_icN 2 dL_law_1513 rfl ?_
  refine j_iaddN dL_law_1514 ?_
  refine j_sld dL_law_1515 (by omega) (by omega) ?_
  refine j_ifeq (tgt := 1523) dL_law_1516 (by decide) (fun h1516 => ?_) (fun h1516 => ?_)
  · refine j_icN 0 dL_law_1523 rfl ?_
    refine j_aln dL_law_1524 rfl rfl ?_
    obtain ⟨K1, hC1, hK1⟩ := hs M (xs (5 * t + 1)) false hI
    refine j_lW (rest := []) mw_freeze ml_L_194 ⟨(Nat.le_of_ble_eq_true rfl), (Nat.le_of_ble_eq_true rfl)⟩ hC1 rfl rfl (Nat.le_of_ble_eq_true rfl) dL_law_1525 ⟨by omega, by omega⟩ (fun v M1 hv => ?_)
    obtain ⟨k, hk8, hve, lv2, P2, hlv2, hC2, hP2⟩ := hK1 v M1 hv
    subst hve
    refine j_ist_6 dL_law_1528 (by decide) rfl ?_
    refine j_aln dL_law_1530 rfl rfl ?_
    refine j_aln dL_law_1531 rfl rfl ?_
    refine j_il dL_law_1532 rfl ?_
    refine j_icN 1 dL_law_1534 rfl ?_
    refine j_iaddN dL_law_1535 ?_
    refine j_sld dL_law_1536 (by omega) (by omega) ?_
    refine j_aln dL_law_1537 rfl rfl ?_
    refine j_il dL_law_1538 rfl ?_
    refine j_icN 2 dL_law_1540 rfl ?_
    refine j_iaddN dL_law_1541 ?_
    refine j_sld dL_law_1542 (by omega) (by omega) ?_
    refine j_ifeq (tgt := 1550) dL_law_1543 (by decide) (fun h1543 => ?_) (fun h1543 => ?_)
    · refine j_icN 0 dL_law_1550 rfl ?_
      refine j_lV (rest := []) mf_X10_freeze ml_L_196 ⟨by omega, by omega⟩ hC2 (by decide) rfl rfl rfl rfl (Nat.le_of_ble_eq_true rfl) dL_law_1551 ⟨by omega, by omega⟩ (fun v2 M2 hv2 => ?_)
      obtain ⟨w, hw, hth, hout, hI2⟩ := hP2 v2 M2 hv2
      subst hw
      refine j_ist_7 dL_law_1554 (by decide) rfl ?_
      refine j_aln dL_law_1556 rfl rfl ?_
      refine j_lV (rest := []) mf_X10_thrown ml_L_112 ⟨(Nat.le_of_ble_eq_true rfl), (Nat.le_of_ble_eq_true rfl)⟩ c_X10_thrown (by decide) rfl rfl rfl rfl (Nat.le_of_ble_eq_true rfl) dL_law_1557 ⟨by omega, by omega⟩ (fun v3 M3 hv3 => ?_)
      obtain ⟨hv4, hm4⟩ := hv3
      subst hv4
      subst M3
      refine j_topi hth ?_
      refine j_il dL_law_1560 rfl ?_
      refine j_iceqN (tgt := 1567) dL_law_1562 (by decide) (by omega) (by omega) (fun h1562 => ?_) (fun h1562 => ?_)
      · refine j_il dL_law_1567 rfl ?_
        refine j_ifneN (tgt := 1591) dL_law_1569 (by decide) (by omega) (fun h1569 => ?_) (fun h1569 => ?_)
        · refine j_goto (tgt := 2120) dL_law_1591 (by decide) ?_
          exact TL _ _ _ _ _ _ _ hI2 (by omega) (by omega)
        · refine j_aln dL_law_1572 rfl rfl ?_
          refine j_icN 0 dL_law_1573 rfl ?_
          refine j_aldO dL_law_1574 rfl ?_
          refine j_il dL_law_1575 rfl ?_
          refine j_ifeq (tgt := 1584) dL_law_1577 (by decide) (fun h1577 => ?_) (fun h1577 => ?_)
          · have ho : mW M2 2 = 0 := (hout h1569).trans (if_pos h1577)
            refine j_lc (v := 0) dL_law_1584 (by decide) ?_
            first | refine j_eq rfl (congrArg (fun q => [Value.long 0, Value.long q]) ho) rfl ?_ | refine j_eq rfl (congrArg (fun q => [Value.long 1, Value.long q]) ho) rfl ?_
            refine j_lcmp dL_law_1585 ?_
            refine j_ifeq (tgt := 1591) dL_law_1586 (by decide) (fun h1586 => ?_) (fun h1586 => ?_)
            · refine j_goto (tgt := 2120) dL_law_1591 (by decide) ?_
              exact TL _ _ _ _ _ _ _ hI2 (by omega) (by omega)
            · exact absurd (cmp_self _) h1586
          · have ho : mW M2 2 = 1 := (hout h1569).trans (if_neg h1577)
            refine j_lc (v := 1) dL_law_1580 (by decide) ?_
            refine j_goto (tgt := 1585) dL_law_1581 (by decide) ?_
            first | refine j_eq rfl (congrArg (fun q => [Value.long 0, Value.long q]) ho) rfl ?_ | refine j_eq rfl (congrArg (fun q => [Value.long 1, Value.long q]) ho) rfl ?_
            refine j_lcmp dL_law_1585 ?_
            refine j_ifeq (tgt := 1591) dL_law_1586 (by decide) (fun h1586 => ?_) (fun h1586 => ?_)
            · refine j_goto (tgt := 2120) dL_law_1591 (by decide) ?_
              exact TL _ _ _ _ _ _ _ hI2 (by omega) (by omega)
            · exact absurd (cmp_self _) h1586
      · exact absurd rfl h1562
    · exact absurd h1516 h1543
  · refine j_icN 1 dL_law_1519 rfl ?_
    refine j_goto (tgt := 1524) dL_law_1520 (by decide) ?_
    refine j_aln dL_law_1524 rfl rfl ?_
    obtain ⟨K1, hC1, hK1⟩ := hs M (xs (5 * t + 1)) true hI
    refine j_lW (rest := []) mw_freeze ml_L_194 ⟨(Nat.le_of_ble_eq_true rfl), (Nat.le_of_ble_eq_true rfl)⟩ hC1 rfl rfl (Nat.le_of_ble_eq_true rfl) dL_law_1525 ⟨by omega, by omega⟩ (fun v M1 hv => ?_)
    obtain ⟨k, hk8, hve, lv2, P2, hlv2, hC2, hP2⟩ := hK1 v M1 hv
    subst hve
    refine j_ist_6 dL_law_1528 (by decide) rfl ?_
    refine j_aln dL_law_1530 rfl rfl ?_
    refine j_aln dL_law_1531 rfl rfl ?_
    refine j_il dL_law_1532 rfl ?_
    refine j_icN 1 dL_law_1534 rfl ?_
    refine j_iaddN dL_law_1535 ?_
    refine j_sld dL_law_1536 (by omega) (by omega) ?_
    refine j_aln dL_law_1537 rfl rfl ?_
    refine j_il dL_law_1538 rfl ?_
    refine j_icN 2 dL_law_1540 rfl ?_
    refine j_iaddN dL_law_1541 ?_
    refine j_sld dL_law_1542 (by omega) (by omega) ?_
    refine j_ifeq (tgt := 1550) dL_law_1543 (by decide) (fun h1543 => ?_) (fun h1543 => ?_)
    · exact absurd h1543 h1516
    · refine j_icN 1 dL_law_1546 rfl ?_
      refine j_goto (tgt := 1551) dL_law_1547 (by decide) ?_
      refine j_lV (rest := []) mf_X10_freeze ml_L_196 ⟨by omega, by omega⟩ hC2 (by decide) rfl rfl rfl rfl (Nat.le_of_ble_eq_true rfl) dL_law_1551 ⟨by omega, by omega⟩ (fun v2 M2 hv2 => ?_)
      obtain ⟨w, hw, hth, hout, hI2⟩ := hP2 v2 M2 hv2
      subst hw
      refine j_ist_7 dL_law_1554 (by decide) rfl ?_
      refine j_aln dL_law_1556 rfl rfl ?_
      refine j_lV (rest := []) mf_X10_thrown ml_L_112 ⟨(Nat.le_of_ble_eq_true rfl), (Nat.le_of_ble_eq_true rfl)⟩ c_X10_thrown (by decide) rfl rfl rfl rfl (Nat.le_of_ble_eq_true rfl) dL_law_1557 ⟨by omega, by omega⟩ (fun v3 M3 hv3 => ?_)
      obtain ⟨hv4, hm4⟩ := hv3
      subst hv4
      subst M3
      refine j_topi hth ?_
      refine j_il dL_law_1560 rfl ?_
      refine j_iceqN (tgt := 1567) dL_law_1562 (by decide) (by omega) (by omega) (fun h1562 => ?_) (fun h1562 => ?_)
      · refine j_il dL_law_1567 rfl ?_
        refine j_ifneN (tgt := 1591) dL_law_1569 (by decide) (by omega) (fun h1569 => ?_) (fun h1569 => ?_)
        · refine j_goto (tgt := 2120) dL_law_1591 (by decide) ?_
          exact TL _ _ _ _ _ _ _ hI2 (by omega) (by omega)
        · refine j_aln dL_law_1572 rfl rfl ?_
          refine j_icN 0 dL_law_1573 rfl ?_
          refine j_aldO dL_law_1574 rfl ?_
          refine j_il dL_law_1575 rfl ?_
          refine j_ifeq (tgt := 1584) dL_law_1577 (by decide) (fun h1577 => ?_) (fun h1577 => ?_)
          · have ho : mW M2 2 = 0 := (hout h1569).trans (if_pos h1577)
            refine j_lc (v := 0) dL_law_1584 (by decide) ?_
            first | refine j_eq rfl (congrArg (fun q => [Value.long 0, Value.long q]) ho) rfl ?_ | refine j_eq rfl (congrArg (fun q => [Value.long 1, Value.long q]) ho) rfl ?_
            refine j_lcmp dL_law_1585 ?_
            refine j_ifeq (tgt := 1591) dL_law_1586 (by decide) (fun h1586 => ?_) (fun h1586 => ?_)
            · refine j_goto (tgt := 2120) dL_law_1591 (by decide) ?_
              exact TL _ _ _ _ _ _ _ hI2 (by omega) (by omega)
            · exact absurd (cmp_self _) h1586
          · have ho : mW M2 2 = 1 := (hout h1569).trans (if_neg h1577)
            refine j_lc (v := 1) dL_law_1580 (by decide) ?_
            refine j_goto (tgt := 1585) dL_law_1581 (by decide) ?_
            first | refine j_eq rfl (congrArg (fun q => [Value.long 0, Value.long q]) ho) rfl ?_ | refine j_eq rfl (congrArg (fun q => [Value.long 1, Value.long q]) ho) rfl ?_
            refine j_lcmp dL_law_1585 ?_
            refine j_ifeq (tgt := 1591) dL_law_1586 (by decide) (fun h1586 => ?_) (fun h1586 => ?_)
            · refine j_goto (tgt := 2120) dL_law_1591 (by decide) ?_
              exact TL _ _ _ _ _ _ _ hI2 (by omega) (by omega)
            · exact absurd (cmp_self _) h1586
      · exact absurd rfl h1562
set_option maxRecDepth 100000 in
set_option maxHeartbeats 4000000 in
theorem lb_mate {l : Launch} {E : Ev} {b L : Nat} {xs : Nat → Int32} {Inv : Mm → Prop} {M : Mm} {K N t : Nat} {o6 o7 o8 o9 : Option Value} (hL : L ≤ 2560) (ht : 5 * t + 5 ≤ L) (hK : K + 512 ≤ 603072) (hN : N + 3072 ≤ 7207018) (hs : Sp_mate l E Inv) (hI : Inv M) (TL : ∀ (M' : Mm) (k' n' : Nat) (o6 o7 o8 o9 : Option Value), Inv M' → k' ≤ K + (t + 1) → n' ≤ N + 6 * (t + 1) → JL l E b L xs k' n' 2120 [some (.ref b), some (.ref (eA E 0 0)), some (.ref (eA E 12 0)), some (.ref (eA E 14 0)), some (.ref (eA E 15 0)), some (.int (nI (5 * t))), o6, o7, o8, o9] [] M') : JL l E b L xs (K + t) (N + 6 * t) 1594 [some (.ref b), some (.ref (eA E 0 0)), some (.ref (eA E 12 0)), some (.ref (eA E 14 0)), some (.ref (eA E 15 0)), some (.int (nI (5 * t))), o6, o7, o8, o9] [] M := by
  refine j_aln dL_law_1594 rfl rfl ?_
  refine j_aln dL_law_1595 rfl rfl ?_
  refine j_il dL_law_1596 rfl ?_
  refine j_icN 1 dL_law_1598 rfl ?_
  refine j_iaddN dL_law_1599 ?_
  refine j_sld dL_law_1600 (by omega) (by omega) ?_
  refine j_aln dL_law_1601 rfl rfl ?_
  refine j_il dL_law_1602 rfl ?_
  refine j_icN 2 dL_law_1604 rfl ?_
  refine j_iaddN dL_law_1605 ?_
  refine j_sld dL_law_1606 (by omega) (by omega) ?_
  refine j_aln dL_law_1607 rfl rfl ?_
  refine j_il dL_law_1608 rfl ?_
  refine j_icN 3 dL_law_1610 rfl ?_
  refine j_iaddN dL_law_1611 ?_
  refine j_sld dL_law_1612 (by omega) (by omega) ?_
  refine j_aln dL_law_1613 rfl rfl ?_
  refine j_il dL_law_1614 rfl ?_
  refine j_icN 4 dL_law_1616 rfl ?_
  refine j_iaddN dL_law_1617 ?_
  refine j_sld dL_law_1618 (by omega) (by omega) ?_
  refine j_aln dL_law_1619 rfl rfl ?_
  obtain ⟨K1, hC1, hK1⟩ := hs M (xs (5 * t + 1)) (xs (5 * t + 2)) (xs (5 * t + 3)) (xs (5 * t + 4)) hI
  refine j_lW (rest := []) mw_mate ml_L_197 ⟨(Nat.le_of_ble_eq_true rfl), (Nat.le_of_ble_eq_true rfl)⟩ hC1 rfl rfl (Nat.le_of_ble_eq_true rfl) dL_law_1620 ⟨by omega, by omega⟩ (fun v M1 hv => ?_)
  obtain ⟨k, hk8, hve, lv2, P2, hlv2, hC2, hP2⟩ := hK1 v M1 hv
  subst hve
  refine j_ist_6 dL_law_1623 (by decide) rfl ?_
  refine j_aln dL_law_1625 rfl rfl ?_
  refine j_aln dL_law_1626 rfl rfl ?_
  refine j_il dL_law_1627 rfl ?_
  refine j_icN 1 dL_law_1629 rfl ?_
  refine j_iaddN dL_law_1630 ?_
  refine j_sld dL_law_1631 (by omega) (by omega) ?_
  refine j_aln dL_law_1632 rfl rfl ?_
  refine j_il dL_law_1633 rfl ?_
  refine j_icN 2 dL_law_1635 rfl ?_
  refine j_iaddN dL_law_1636 ?_
  refine j_sld dL_law_1637 (by omega) (by omega) ?_
  refine j_aln dL_law_1638 rfl rfl ?_
  refine j_il dL_law_1639 rfl ?_
  refine j_icN 3 dL_law_1641 rfl ?_
  refine j_iaddN dL_law_1642 ?_
  refine j_sld dL_law_1643 (by omega) (by omega) ?_
  refine j_aln dL_law_1644 rfl rfl ?_
  refine j_il dL_law_1645 rfl ?_
  refine j_icN 4 dL_law_1647 rfl ?_
  refine j_iaddN dL_law_1648 ?_
  refine j_sld dL_law_1649 (by omega) (by omega) ?_
  refine j_lV (rest := []) mf_X10_mate ml_L_199 ⟨by omega, by omega⟩ hC2 (by decide) rfl rfl rfl rfl (Nat.le_of_ble_eq_true rfl) dL_law_1650 ⟨by omega, by omega⟩ (fun v2 M2 hv2 => ?_)
  obtain ⟨w, hw, hth, hout, hI2⟩ := hP2 v2 M2 hv2
  subst hw
  refine j_ist_7 dL_law_1653 (by decide) rfl ?_
  refine j_aln dL_law_1655 rfl rfl ?_
  refine j_lV (rest := []) mf_X10_thrown ml_L_112 ⟨(Nat.le_of_ble_eq_true rfl), (Nat.le_of_ble_eq_true rfl)⟩ c_X10_thrown (by decide) rfl rfl rfl rfl (Nat.le_of_ble_eq_true rfl) dL_law_1656 ⟨by omega, by omega⟩ (fun v3 M3 hv3 => ?_)
  obtain ⟨hv4, hm4⟩ := hv3
  subst hv4
  subst M3
  refine j_topi hth ?_
  refine j_il dL_law_1659 rfl ?_
  refine j_iceqN (tgt := 1666) dL_law_1661 (by decide) (by omega) (by omega) (fun h1661 => ?_) (fun h1661 => ?_)
  · refine j_il dL_law_1666 rfl ?_
    refine j_ifneN (tgt := 1683) dL_law_1668 (by decide) (by omega) (fun h1668 => ?_) (fun h1668 => ?_)
    · refine j_goto (tgt := 2120) dL_law_1683 (by decide) ?_
      exact TL _ _ _ _ _ _ _ hI2 (by omega) (by omega)
    · refine j_aln dL_law_1671 rfl rfl ?_
      refine j_icN 0 dL_law_1672 rfl ?_
      refine j_aldO dL_law_1673 rfl ?_
      refine j_il dL_law_1674 rfl ?_
      refine j_i2l dL_law_1676 ?_
      refine j_eq rfl (show [Value.long w.toInt64, Value.long (mW M2 2)] = [Value.long w.toInt64, Value.long w.toInt64] from by rw [hout h1668]) rfl ?_
      refine j_lcmp dL_law_1677 ?_
      refine j_ifeq (tgt := 1683) dL_law_1678 (by decide) (fun h1678 => ?_) (fun h1678 => ?_)
      · refine j_goto (tgt := 2120) dL_law_1683 (by decide) ?_
        exact TL _ _ _ _ _ _ _ hI2 (by omega) (by omega)
      · exact absurd (cmp_self _) h1678
  · exact absurd rfl h1661
set_option maxRecDepth 100000 in
set_option maxHeartbeats 4000000 in
theorem lb_drag {l : Launch} {E : Ev} {b L : Nat} {xs : Nat → Int32} {Inv : Mm → Prop} {M : Mm} {K N t : Nat} {o6 o7 o8 o9 : Option Value} (hL : L ≤ 2560) (ht : 5 * t + 5 ≤ L) (hK : K + 512 ≤ 603072) (hN : N + 3072 ≤ 7207018) (hs : Sp_drag l E Inv) (hI : Inv M) (TL : ∀ (M' : Mm) (k' n' : Nat) (o6 o7 o8 o9 : Option Value), Inv M' → k' ≤ K + (t + 1) → n' ≤ N + 6 * (t + 1) → JL l E b L xs k' n' 2120 [some (.ref b), some (.ref (eA E 0 0)), some (.ref (eA E 12 0)), some (.ref (eA E 14 0)), some (.ref (eA E 15 0)), some (.int (nI (5 * t))), o6, o7, o8, o9] [] M') : JL l E b L xs (K + t) (N + 6 * t) 1686 [some (.ref b), some (.ref (eA E 0 0)), some (.ref (eA E 12 0)), some (.ref (eA E 14 0)), some (.ref (eA E 15 0)), some (.int (nI (5 * t))), o6, o7, o8, o9] [] M := by
  refine j_aln dL_law_1686 rfl rfl ?_
  refine j_aln dL_law_1687 rfl rfl ?_
  refine j_il dL_law_1688 rfl ?_
  refine j_icN 1 dL_law_1690 rfl ?_
  refine j_iaddN dL_law_1691 ?_
  refine j_sld dL_law_1692 (by omega) (by omega) ?_
  refine j_aln dL_law_1693 rfl rfl ?_
  refine j_il dL_law_1694 rfl ?_
  refine j_icN 2 dL_law_1696 rfl ?_
  refine j_iaddN dL_law_1697 ?_
  refine j_sld dL_law_1698 (by omega) (by omega) ?_
  refine j_aln dL_law_1699 rfl rfl ?_
  refine j_il dL_law_1700 rfl ?_
  refine j_icN 3 dL_law_1702 rfl ?_
  refine j_iaddN dL_law_1703 ?_
  refine j_sld dL_law_1704 (by omega) (by omega) ?_
  refine j_aln dL_law_1705 rfl rfl ?_
  obtain ⟨K1, hC1, hK1⟩ := hs M (xs (5 * t + 1)) (xs (5 * t + 2)) (xs (5 * t + 3)) hI
  refine j_lW (rest := []) mw_drag ml_L_200 ⟨(Nat.le_of_ble_eq_true rfl), (Nat.le_of_ble_eq_true rfl)⟩ hC1 rfl rfl (Nat.le_of_ble_eq_true rfl) dL_law_1706 ⟨by omega, by omega⟩ (fun v M1 hv => ?_)
  obtain ⟨k, hk8, hve, lv2, P2, hlv2, hC2, hP2⟩ := hK1 v M1 hv
  subst hve
  refine j_ist_6 dL_law_1709 (by decide) rfl ?_
  refine j_aln dL_law_1711 rfl rfl ?_
  refine j_aln dL_law_1712 rfl rfl ?_
  refine j_il dL_law_1713 rfl ?_
  refine j_icN 1 dL_law_1715 rfl ?_
  refine j_iaddN dL_law_1716 ?_
  refine j_sld dL_law_1717 (by omega) (by omega) ?_
  refine j_aln dL_law_1718 rfl rfl ?_
  refine j_il dL_law_1719 rfl ?_
  refine j_icN 2 dL_law_1721 rfl ?_
  refine j_iaddN dL_law_1722 ?_
  refine j_sld dL_law_1723 (by omega) (by omega) ?_
  refine j_aln dL_law_1724 rfl rfl ?_
  refine j_il dL_law_1725 rfl ?_
  refine j_icN 3 dL_law_1727 rfl ?_
  refine j_iaddN dL_law_1728 ?_
  refine j_sld dL_law_1729 (by omega) (by omega) ?_
  refine j_lV (rest := []) mf_X10_drag ml_L_202 ⟨by omega, by omega⟩ hC2 (by decide) rfl rfl rfl rfl (Nat.le_of_ble_eq_true rfl) dL_law_1730 ⟨by omega, by omega⟩ (fun v2 M2 hv2 => ?_)
  obtain ⟨w, hw, hth, hout, hI2⟩ := hP2 v2 M2 hv2
  subst hw
  refine j_ist_7 dL_law_1733 (by decide) rfl ?_
  refine j_aln dL_law_1735 rfl rfl ?_
  refine j_lV (rest := []) mf_X10_thrown ml_L_112 ⟨(Nat.le_of_ble_eq_true rfl), (Nat.le_of_ble_eq_true rfl)⟩ c_X10_thrown (by decide) rfl rfl rfl rfl (Nat.le_of_ble_eq_true rfl) dL_law_1736 ⟨by omega, by omega⟩ (fun v3 M3 hv3 => ?_)
  obtain ⟨hv4, hm4⟩ := hv3
  subst hv4
  subst M3
  refine j_topi hth ?_
  refine j_il dL_law_1739 rfl ?_
  refine j_iceqN (tgt := 1746) dL_law_1741 (by decide) (by omega) (by omega) (fun h1741 => ?_) (fun h1741 => ?_)
  · refine j_il dL_law_1746 rfl ?_
    refine j_ifneN (tgt := 1763) dL_law_1748 (by decide) (by omega) (fun h1748 => ?_) (fun h1748 => ?_)
    · refine j_goto (tgt := 2120) dL_law_1763 (by decide) ?_
      exact TL _ _ _ _ _ _ _ hI2 (by omega) (by omega)
    · refine j_aln dL_law_1751 rfl rfl ?_
      refine j_icN 0 dL_law_1752 rfl ?_
      refine j_aldO dL_law_1753 rfl ?_
      refine j_il dL_law_1754 rfl ?_
      refine j_i2l dL_law_1756 ?_
      refine j_eq rfl (show [Value.long w.toInt64, Value.long (mW M2 2)] = [Value.long w.toInt64, Value.long w.toInt64] from by rw [hout h1748]) rfl ?_
      refine j_lcmp dL_law_1757 ?_
      refine j_ifeq (tgt := 1763) dL_law_1758 (by decide) (fun h1758 => ?_) (fun h1758 => ?_)
      · refine j_goto (tgt := 2120) dL_law_1763 (by decide) ?_
        exact TL _ _ _ _ _ _ _ hI2 (by omega) (by omega)
      · exact absurd (cmp_self _) h1758
  · exact absurd rfl h1741
set_option maxRecDepth 100000 in
set_option maxHeartbeats 4000000 in
theorem lb_moved {l : Launch} {E : Ev} {b L : Nat} {xs : Nat → Int32} {Inv : Mm → Prop} {M : Mm} {K N t : Nat} {o6 o7 o8 o9 : Option Value} (hL : L ≤ 2560) (ht : 5 * t + 5 ≤ L) (hK : K + 512 ≤ 603072) (hN : N + 3072 ≤ 7207018) (hs : Sp_moved l E Inv) (hI : Inv M) (TL : ∀ (M' : Mm) (k' n' : Nat) (o6 o7 o8 o9 : Option Value), Inv M' → k' ≤ K + (t + 1) → n' ≤ N + 6 * (t + 1) → JL l E b L xs k' n' 2120 [some (.ref b), some (.ref (eA E 0 0)), some (.ref (eA E 12 0)), some (.ref (eA E 14 0)), some (.ref (eA E 15 0)), some (.int (nI (5 * t))), o6, o7, o8, o9] [] M') : JL l E b L xs (K + t) (N + 6 * t) 1766 [some (.ref b), some (.ref (eA E 0 0)), some (.ref (eA E 12 0)), some (.ref (eA E 14 0)), some (.ref (eA E 15 0)), some (.int (nI (5 * t))), o6, o7, o8, o9] [] M := by
  refine j_aln dL_law_1766 rfl rfl ?_
  refine j_aln dL_law_1767 rfl rfl ?_
  refine j_il dL_law_1768 rfl ?_
  refine j_icN 1 dL_law_1770 rfl ?_
  refine j_iaddN dL_law_1771 ?_
  refine j_sld dL_law_1772 (by omega) (by omega) ?_
  refine j_aln dL_law_1773 rfl rfl ?_
  refine j_il dL_law_1774 rfl ?_
  refine j_icN 2 dL_law_1776 rfl ?_
  refine j_iaddN dL_law_1777 ?_
  refine j_sld dL_law_1778 (by omega) (by omega) ?_
  refine j_aln dL_law_1779 rfl rfl ?_
  obtain ⟨K1, hC1, hK1⟩ := hs M (xs (5 * t + 1)) (xs (5 * t + 2)) hI
  refine j_lW (rest := []) mw_moved ml_L_203 ⟨(Nat.le_of_ble_eq_true rfl), (Nat.le_of_ble_eq_true rfl)⟩ hC1 rfl rfl (Nat.le_of_ble_eq_true rfl) dL_law_1780 ⟨by omega, by omega⟩ (fun v M1 hv => ?_)
  obtain ⟨k, hk8, hve, lv2, P2, hlv2, hC2, hP2⟩ := hK1 v M1 hv
  subst hve
  refine j_ist_6 dL_law_1783 (by decide) rfl ?_
  refine j_aln dL_law_1785 rfl rfl ?_
  refine j_aln dL_law_1786 rfl rfl ?_
  refine j_il dL_law_1787 rfl ?_
  refine j_icN 1 dL_law_1789 rfl ?_
  refine j_iaddN dL_law_1790 ?_
  refine j_sld dL_law_1791 (by omega) (by omega) ?_
  refine j_aln dL_law_1792 rfl rfl ?_
  refine j_il dL_law_1793 rfl ?_
  refine j_icN 2 dL_law_1795 rfl ?_
  refine j_iaddN dL_law_1796 ?_
  refine j_sld dL_law_1797 (by omega) (by omega) ?_
  refine j_lV (rest := []) mf_X10_moved ml_L_205 ⟨by omega, by omega⟩ hC2 (by decide) rfl rfl rfl rfl (Nat.le_of_ble_eq_true rfl) dL_law_1798 ⟨by omega, by omega⟩ (fun v2 M2 hv2 => ?_)
  obtain ⟨w, hw, hth, hout, hI2⟩ := hP2 v2 M2 hv2
  subst hw
  refine j_ist_7 dL_law_1801 (by decide) rfl ?_
  refine j_aln dL_law_1803 rfl rfl ?_
  refine j_lV (rest := []) mf_X10_thrown ml_L_112 ⟨(Nat.le_of_ble_eq_true rfl), (Nat.le_of_ble_eq_true rfl)⟩ c_X10_thrown (by decide) rfl rfl rfl rfl (Nat.le_of_ble_eq_true rfl) dL_law_1804 ⟨by omega, by omega⟩ (fun v3 M3 hv3 => ?_)
  obtain ⟨hv4, hm4⟩ := hv3
  subst hv4
  subst M3
  refine j_topi hth ?_
  refine j_il dL_law_1807 rfl ?_
  refine j_iceqN (tgt := 1814) dL_law_1809 (by decide) (by omega) (by omega) (fun h1809 => ?_) (fun h1809 => ?_)
  · refine j_il dL_law_1814 rfl ?_
    refine j_ifneN (tgt := 1831) dL_law_1816 (by decide) (by omega) (fun h1816 => ?_) (fun h1816 => ?_)
    · refine j_goto (tgt := 2120) dL_law_1831 (by decide) ?_
      exact TL _ _ _ _ _ _ _ hI2 (by omega) (by omega)
    · refine j_aln dL_law_1819 rfl rfl ?_
      refine j_icN 0 dL_law_1820 rfl ?_
      refine j_aldO dL_law_1821 rfl ?_
      refine j_il dL_law_1822 rfl ?_
      refine j_i2l dL_law_1824 ?_
      refine j_eq rfl (show [Value.long w.toInt64, Value.long (mW M2 2)] = [Value.long w.toInt64, Value.long w.toInt64] from by rw [hout h1816]) rfl ?_
      refine j_lcmp dL_law_1825 ?_
      refine j_ifeq (tgt := 1831) dL_law_1826 (by decide) (fun h1826 => ?_) (fun h1826 => ?_)
      · refine j_goto (tgt := 2120) dL_law_1831 (by decide) ?_
        exact TL _ _ _ _ _ _ _ hI2 (by omega) (by omega)
      · exact absurd (cmp_self _) h1826
  · exact absurd rfl h1809
set_option maxRecDepth 100000 in
set_option maxHeartbeats 4000000 in
theorem lb_freedoms {l : Launch} {E : Ev} {b L : Nat} {xs : Nat → Int32} {Inv : Mm → Prop} {M : Mm} {K N t : Nat} {o6 o7 o8 o9 : Option Value} (hL : L ≤ 2560) (ht : 5 * t + 5 ≤ L) (hK : K + 512 ≤ 603072) (hN : N + 3072 ≤ 7207018) (hs : Sp_freedoms l E Inv) (hI : Inv M) (TL : ∀ (M' : Mm) (k' n' : Nat) (o6 o7 o8 o9 : Option Value), Inv M' → k' ≤ K + (t + 1) → n' ≤ N + 6 * (t + 1) → JL l E b L xs k' n' 2120 [some (.ref b), some (.ref (eA E 0 0)), some (.ref (eA E 12 0)), some (.ref (eA E 14 0)), some (.ref (eA E 15 0)), some (.int (nI (5 * t))), o6, o7, o8, o9] [] M') : JL l E b L xs (K + t) (N + 6 * t) 1834 [some (.ref b), some (.ref (eA E 0 0)), some (.ref (eA E 12 0)), some (.ref (eA E 14 0)), some (.ref (eA E 15 0)), some (.int (nI (5 * t))), o6, o7, o8, o9] [] M := by
  refine j_aln dL_law_1834 rfl rfl ?_
  obtain ⟨lv1, P1, hlv1, hC1, hP1⟩ := hs M hI
  refine j_lV (rest := []) mf_X9_freedoms ml_L_206 ⟨by omega, by omega⟩ hC1 (by decide) rfl rfl rfl rfl (Nat.le_of_ble_eq_true rfl) dL_law_1835 ⟨by omega, by omega⟩ (fun v M1 hv => ?_)
  obtain ⟨a, hve, lv2, P2, hlv2, hC2, hP2⟩ := hP1 v M1 hv
  subst hve
  refine j_aln dL_law_1838 rfl rfl ?_
  refine j_lV (rest := [.int a]) mf_X10_freedoms ml_L_209 ⟨by omega, by omega⟩ hC2 (by decide) rfl rfl rfl rfl (Nat.le_of_ble_eq_true rfl) dL_law_1839 ⟨by omega, by omega⟩ (fun v2 M2 hv2 => ?_)
  obtain ⟨hw, hI2⟩ := hP2 v2 M2 hv2
  subst hw
  refine j_iceq (tgt := 2120) dL_law_1842 (by decide) (fun h1842 => ?_) (fun h1842 => ?_)
  · exact TL _ _ _ _ _ _ _ hI2 (by omega) (by omega)
  · exact absurd rfl h1842
set_option maxRecDepth 100000 in
set_option maxHeartbeats 4000000 in
theorem lb_clashes {l : Launch} {E : Ev} {b L : Nat} {xs : Nat → Int32} {Inv : Mm → Prop} {M : Mm} {K N t : Nat} {o6 o7 o8 o9 : Option Value} (hL : L ≤ 2560) (ht : 5 * t + 5 ≤ L) (hK : K + 512 ≤ 603072) (hN : N + 3072 ≤ 7207018) (hs : Sp_clashes l E Inv) (hI : Inv M) (TL : ∀ (M' : Mm) (k' n' : Nat) (o6 o7 o8 o9 : Option Value), Inv M' → k' ≤ K + (t + 1) → n' ≤ N + 6 * (t + 1) → JL l E b L xs k' n' 2120 [some (.ref b), some (.ref (eA E 0 0)), some (.ref (eA E 12 0)), some (.ref (eA E 14 0)), some (.ref (eA E 15 0)), some (.int (nI (5 * t))), o6, o7, o8, o9] [] M') : JL l E b L xs (K + t) (N + 6 * t) 1847 [some (.ref b), some (.ref (eA E 0 0)), some (.ref (eA E 12 0)), some (.ref (eA E 14 0)), some (.ref (eA E 15 0)), some (.int (nI (5 * t))), o6, o7, o8, o9] [] M := by
  refine j_aln dL_law_1847 rfl rfl ?_
  refine j_aln dL_law_1848 rfl rfl ?_
  refine j_il dL_law_1849 rfl ?_
  refine j_icN 1 dL_law_1851 rfl ?_
  refine j_iaddN dL_law_1852 ?_
  refine j_sld dL_law_1853 (by omega) (by omega) ?_
  refine j_aln dL_law_1854 rfl rfl ?_
  refine j_il dL_law_1855 rfl ?_
  refine j_icN 2 dL_law_1857 rfl ?_
  refine j_iaddN dL_law_1858 ?_
  refine j_sld dL_law_1859 (by omega) (by omega) ?_
  refine j_aln dL_law_1860 rfl rfl ?_
  obtain ⟨K1, hC1, hK1⟩ := hs M (xs (5 * t + 1)) (xs (5 * t + 2)) hI
  refine j_lW (rest := []) mw_clashes ml_L_210 ⟨(Nat.le_of_ble_eq_true rfl), (Nat.le_of_ble_eq_true rfl)⟩ hC1 rfl rfl (Nat.le_of_ble_eq_true rfl) dL_law_1861 ⟨by omega, by omega⟩ (fun v M1 hv => ?_)
  obtain ⟨k, hk8, hve, lv2, P2, hlv2, hC2, hP2⟩ := hK1 v M1 hv
  subst hve
  refine j_ist_6 dL_law_1864 (by decide) rfl ?_
  refine j_aln dL_law_1866 rfl rfl ?_
  refine j_aln dL_law_1867 rfl rfl ?_
  refine j_il dL_law_1868 rfl ?_
  refine j_icN 1 dL_law_1870 rfl ?_
  refine j_iaddN dL_law_1871 ?_
  refine j_sld dL_law_1872 (by omega) (by omega) ?_
  refine j_aln dL_law_1873 rfl rfl ?_
  refine j_il dL_law_1874 rfl ?_
  refine j_icN 2 dL_law_1876 rfl ?_
  refine j_iaddN dL_law_1877 ?_
  refine j_sld dL_law_1878 (by omega) (by omega) ?_
  refine j_lV (rest := []) mf_X10_clashes ml_L_212 ⟨by omega, by omega⟩ hC2 (by decide) rfl rfl rfl rfl (Nat.le_of_ble_eq_true rfl) dL_law_1879 ⟨by omega, by omega⟩ (fun v2 M2 hv2 => ?_)
  obtain ⟨w, hw, hth, hout, hI2⟩ := hP2 v2 M2 hv2
  subst hw
  refine j_ist_7 dL_law_1882 (by decide) rfl ?_
  refine j_aln dL_law_1884 rfl rfl ?_
  refine j_lV (rest := []) mf_X10_thrown ml_L_112 ⟨(Nat.le_of_ble_eq_true rfl), (Nat.le_of_ble_eq_true rfl)⟩ c_X10_thrown (by decide) rfl rfl rfl rfl (Nat.le_of_ble_eq_true rfl) dL_law_1885 ⟨by omega, by omega⟩ (fun v3 M3 hv3 => ?_)
  obtain ⟨hv4, hm4⟩ := hv3
  subst hv4
  subst M3
  refine j_topi hth ?_
  refine j_il dL_law_1888 rfl ?_
  refine j_iceqN (tgt := 1895) dL_law_1890 (by decide) (by omega) (by omega) (fun h1890 => ?_) (fun h1890 => ?_)
  · refine j_il dL_law_1895 rfl ?_
    refine j_ifneN (tgt := 1912) dL_law_1897 (by decide) (by omega) (fun h1897 => ?_) (fun h1897 => ?_)
    · refine j_goto (tgt := 2120) dL_law_1912 (by decide) ?_
      exact TL _ _ _ _ _ _ _ hI2 (by omega) (by omega)
    · refine j_aln dL_law_1900 rfl rfl ?_
      refine j_icN 0 dL_law_1901 rfl ?_
      refine j_aldO dL_law_1902 rfl ?_
      refine j_il dL_law_1903 rfl ?_
      refine j_i2l dL_law_1905 ?_
      refine j_eq rfl (show [Value.long w.toInt64, Value.long (mW M2 2)] = [Value.long w.toInt64, Value.long w.toInt64] from by rw [hout h1897]) rfl ?_
      refine j_lcmp dL_law_1906 ?_
      refine j_ifeq (tgt := 1912) dL_law_1907 (by decide) (fun h1907 => ?_) (fun h1907 => ?_)
      · refine j_goto (tgt := 2120) dL_law_1912 (by decide) ?_
        exact TL _ _ _ _ _ _ _ hI2 (by omega) (by omega)
      · exact absurd (cmp_self _) h1907
  · exact absurd rfl h1890
set_option maxRecDepth 100000 in
set_option maxHeartbeats 4000000 in
theorem lb_depth {l : Launch} {E : Ev} {b L : Nat} {xs : Nat → Int32} {Inv : Mm → Prop} {M : Mm} {K N t : Nat} {o6 o7 o8 o9 : Option Value} (hL : L ≤ 2560) (ht : 5 * t + 5 ≤ L) (hK : K + 512 ≤ 603072) (hN : N + 3072 ≤ 7207018) (hs : Sp_depth l E Inv) (hI : Inv M) (TL : ∀ (M' : Mm) (k' n' : Nat) (o6 o7 o8 o9 : Option Value), Inv M' → k' ≤ K + (t + 1) → n' ≤ N + 6 * (t + 1) → JL l E b L xs k' n' 2120 [some (.ref b), some (.ref (eA E 0 0)), some (.ref (eA E 12 0)), some (.ref (eA E 14 0)), some (.ref (eA E 15 0)), some (.int (nI (5 * t))), o6, o7, o8, o9] [] M') : JL l E b L xs (K + t) (N + 6 * t) 1915 [some (.ref b), some (.ref (eA E 0 0)), some (.ref (eA E 12 0)), some (.ref (eA E 14 0)), some (.ref (eA E 15 0)), some (.int (nI (5 * t))), o6, o7, o8, o9] [] M := by
  refine j_aln dL_law_1915 rfl rfl ?_
  refine j_aln dL_law_1916 rfl rfl ?_
  refine j_il dL_law_1917 rfl ?_
  refine j_icN 1 dL_law_1919 rfl ?_
  refine j_iaddN dL_law_1920 ?_
  refine j_sld dL_law_1921 (by omega) (by omega) ?_
  refine j_aln dL_law_1922 rfl rfl ?_
  refine j_il dL_law_1923 rfl ?_
  refine j_icN 2 dL_law_1925 rfl ?_
  refine j_iaddN dL_law_1926 ?_
  refine j_sld dL_law_1927 (by omega) (by omega) ?_
  refine j_ifeq (tgt := 1935) dL_law_1928 (by decide) (fun h1928 => ?_) (fun h1928 => ?_)
  · refine j_icN 0 dL_law_1935 rfl ?_
    refine j_aln dL_law_1936 rfl rfl ?_
    refine j_il dL_law_1937 rfl ?_
    refine j_icN 3 dL_law_1939 rfl ?_
    refine j_iaddN dL_law_1940 ?_
    refine j_sld dL_law_1941 (by omega) (by omega) ?_
    refine j_aln dL_law_1942 rfl rfl ?_
    refine j_il dL_law_1943 rfl ?_
    refine j_icN 4 dL_law_1945 rfl ?_
    refine j_iaddN dL_law_1946 ?_
    refine j_sld dL_law_1947 (by omega) (by omega) ?_
    refine j_aln dL_law_1948 rfl rfl ?_
    obtain ⟨K1, hC1, hK1⟩ := hs M (xs (5 * t + 1)) false (xs (5 * t + 3)) (xs (5 * t + 4)) hI
    refine j_lW (rest := []) mw_depth ml_L_213 ⟨(Nat.le_of_ble_eq_true rfl), (Nat.le_of_ble_eq_true rfl)⟩ hC1 rfl rfl (Nat.le_of_ble_eq_true rfl) dL_law_1949 ⟨by omega, by omega⟩ (fun v M1 hv => ?_)
    obtain ⟨k, hk8, hve, lv2, P2, hlv2, hC2, hP2⟩ := hK1 v M1 hv
    subst hve
    refine j_ist_6 dL_law_1952 (by decide) rfl ?_
    refine j_aln dL_law_1954 rfl rfl ?_
    refine j_aln dL_law_1955 rfl rfl ?_
    refine j_il dL_law_1956 rfl ?_
    refine j_icN 1 dL_law_1958 rfl ?_
    refine j_iaddN dL_law_1959 ?_
    refine j_sld dL_law_1960 (by omega) (by omega) ?_
    refine j_aln dL_law_1961 rfl rfl ?_
    refine j_il dL_law_1962 rfl ?_
    refine j_icN 2 dL_law_1964 rfl ?_
    refine j_iaddN dL_law_1965 ?_
    refine j_sld dL_law_1966 (by omega) (by omega) ?_
    refine j_ifeq (tgt := 1974) dL_law_1967 (by decide) (fun h1967 => ?_) (fun h1967 => ?_)
    · refine j_icN 0 dL_law_1974 rfl ?_
      refine j_aln dL_law_1975 rfl rfl ?_
      refine j_il dL_law_1976 rfl ?_
      refine j_icN 3 dL_law_1978 rfl ?_
      refine j_iaddN dL_law_1979 ?_
      refine j_sld dL_law_1980 (by omega) (by omega) ?_
      refine j_aln dL_law_1981 rfl rfl ?_
      refine j_il dL_law_1982 rfl ?_
      refine j_icN 4 dL_law_1984 rfl ?_
      refine j_iaddN dL_law_1985 ?_
      refine j_sld dL_law_1986 (by omega) (by omega) ?_
      refine j_lV (rest := []) mf_X10_depth ml_L_216 ⟨by omega, by omega⟩ hC2 (by decide) rfl rfl rfl rfl (Nat.le_of_ble_eq_true rfl) dL_law_1987 ⟨by omega, by omega⟩ (fun v2 M2 hv2 => ?_)
      obtain ⟨w, hw, hth, hout, hI2⟩ := hP2 v2 M2 hv2
      subst hw
      refine j_ist_7 dL_law_1990 (by decide) rfl ?_
      refine j_aln dL_law_1992 rfl rfl ?_
      refine j_lV (rest := []) mf_X10_thrown ml_L_112 ⟨(Nat.le_of_ble_eq_true rfl), (Nat.le_of_ble_eq_true rfl)⟩ c_X10_thrown (by decide) rfl rfl rfl rfl (Nat.le_of_ble_eq_true rfl) dL_law_1993 ⟨by omega, by omega⟩ (fun v3 M3 hv3 => ?_)
      obtain ⟨hv4, hm4⟩ := hv3
      subst hv4
      subst M3
      refine j_topi hth ?_
      refine j_il dL_law_1996 rfl ?_
      refine j_iceqN (tgt := 2003) dL_law_1998 (by decide) (by omega) (by omega) (fun h1998 => ?_) (fun h1998 => ?_)
      · refine j_il dL_law_2003 rfl ?_
        refine j_ifneN (tgt := 2020) dL_law_2005 (by decide) (by omega) (fun h2005 => ?_) (fun h2005 => ?_)
        · refine j_goto (tgt := 2120) dL_law_2020 (by decide) ?_
          exact TL _ _ _ _ _ _ _ hI2 (by omega) (by omega)
        · refine j_aln dL_law_2008 rfl rfl ?_
          refine j_icN 0 dL_law_2009 rfl ?_
          refine j_aldO dL_law_2010 rfl ?_
          refine j_il dL_law_2011 rfl ?_
          refine j_i2l dL_law_2013 ?_
          refine j_eq rfl (show [Value.long w.toInt64, Value.long (mW M2 2)] = [Value.long w.toInt64, Value.long w.toInt64] from by rw [hout h2005]) rfl ?_
          refine j_lcmp dL_law_2014 ?_
          refine j_ifeq (tgt := 2020) dL_law_2015 (by decide) (fun h2015 => ?_) (fun h2015 => ?_)
          · refine j_goto (tgt := 2120) dL_law_2020 (by decide) ?_
            exact TL _ _ _ _ _ _ _ hI2 (by omega) (by omega)
          · exact absurd (cmp_self _) h2015
      · exact absurd rfl h1998
    · exact absurd h1928 h1967
  · refine j_icN 1 dL_law_1931 rfl ?_
    refine j_goto (tgt := 1936) dL_law_1932 (by decide) ?_
    refine j_aln dL_law_1936 rfl rfl ?_
    refine j_il dL_law_1937 rfl ?_
    refine j_icN 3 dL_law_1939 rfl ?_
    refine j_iaddN dL_law_1940 ?_
    refine j_sld dL_law_1941 (by omega) (by omega) ?_
    refine j_aln dL_law_1942 rfl rfl ?_
    refine j_il dL_law_1943 rfl ?_
    refine j_icN 4 dL_law_1945 rfl ?_
    refine j_iaddN dL_law_1946 ?_
    refine j_sld dL_law_1947 (by omega) (by omega) ?_
    refine j_aln dL_law_1948 rfl rfl ?_
    obtain ⟨K1, hC1, hK1⟩ := hs M (xs (5 * t + 1)) true (xs (5 * t + 3)) (xs (5 * t + 4)) hI
    refine j_lW (rest := []) mw_depth ml_L_213 ⟨(Nat.le_of_ble_eq_true rfl), (Nat.le_of_ble_eq_true rfl)⟩ hC1 rfl rfl (Nat.le_of_ble_eq_true rfl) dL_law_1949 ⟨by omega, by omega⟩ (fun v M1 hv => ?_)
    obtain ⟨k, hk8, hve, lv2, P2, hlv2, hC2, hP2⟩ := hK1 v M1 hv
    subst hve
    refine j_ist_6 dL_law_1952 (by decide) rfl ?_
    refine j_aln dL_law_1954 rfl rfl ?_
    refine j_aln dL_law_1955 rfl rfl ?_
    refine j_il dL_law_1956 rfl ?_
    refine j_icN 1 dL_law_1958 rfl ?_
    refine j_iaddN dL_law_1959 ?_
    refine j_sld dL_law_1960 (by omega) (by omega) ?_
    refine j_aln dL_law_1961 rfl rfl ?_
    refine j_il dL_law_1962 rfl ?_
    refine j_icN 2 dL_law_1964 rfl ?_
    refine j_iaddN dL_law_1965 ?_
    refine j_sld dL_law_1966 (by omega) (by omega) ?_
    refine j_ifeq (tgt := 1974) dL_law_1967 (by decide) (fun h1967 => ?_) (fun h1967 => ?_)
    · exact absurd h1967 h1928
    · refine j_icN 1 dL_law_1970 rfl ?_
      refine j_goto (tgt := 1975) dL_law_1971 (by decide) ?_
      refine j_aln dL_law_1975 rfl rfl ?_
      refine j_il dL_law_1976 rfl ?_
      refine j_icN 3 dL_law_1978 rfl ?_
      refine j_iaddN dL_law_1979 ?_
      refine j_sld dL_law_1980 (by omega) (by omega) ?_
      refine j_aln dL_law_1981 rfl rfl ?_
      refine j_il dL_law_1982 rfl ?_
      refine j_icN 4 dL_law_1984 rfl ?_
      refine j_iaddN dL_law_1985 ?_
      refine j_sld dL_law_1986 (by omega) (by omega) ?_
      refine j_lV (rest := []) mf_X10_depth ml_L_216 ⟨by omega, by omega⟩ hC2 (by decide) rfl rfl rfl rfl (Nat.le_of_ble_eq_true rfl) dL_law_1987 ⟨by omega, by omega⟩ (fun v2 M2 hv2 => ?_)
      obtain ⟨w, hw, hth, hout, hI2⟩ := hP2 v2 M2 hv2
      subst hw
      refine j_ist_7 dL_law_1990 (by decide) rfl ?_
      refine j_aln dL_law_1992 rfl rfl ?_
      refine j_lV (rest := []) mf_X10_thrown ml_L_112 ⟨(Nat.le_of_ble_eq_true rfl), (Nat.le_of_ble_eq_true rfl)⟩ c_X10_thrown (by decide) rfl rfl rfl rfl (Nat.le_of_ble_eq_true rfl) dL_law_1993 ⟨by omega, by omega⟩ (fun v3 M3 hv3 => ?_)
      obtain ⟨hv4, hm4⟩ := hv3
      subst hv4
      subst M3
      refine j_topi hth ?_
      refine j_il dL_law_1996 rfl ?_
      refine j_iceqN (tgt := 2003) dL_law_1998 (by decide) (by omega) (by omega) (fun h1998 => ?_) (fun h1998 => ?_)
      · refine j_il dL_law_2003 rfl ?_
        refine j_ifneN (tgt := 2020) dL_law_2005 (by decide) (by omega) (fun h2005 => ?_) (fun h2005 => ?_)
        · refine j_goto (tgt := 2120) dL_law_2020 (by decide) ?_
          exact TL _ _ _ _ _ _ _ hI2 (by omega) (by omega)
        · refine j_aln dL_law_2008 rfl rfl ?_
          refine j_icN 0 dL_law_2009 rfl ?_
          refine j_aldO dL_law_2010 rfl ?_
          refine j_il dL_law_2011 rfl ?_
          refine j_i2l dL_law_2013 ?_
          refine j_eq rfl (show [Value.long w.toInt64, Value.long (mW M2 2)] = [Value.long w.toInt64, Value.long w.toInt64] from by rw [hout h2005]) rfl ?_
          refine j_lcmp dL_law_2014 ?_
          refine j_ifeq (tgt := 2020) dL_law_2015 (by decide) (fun h2015 => ?_) (fun h2015 => ?_)
          · refine j_goto (tgt := 2120) dL_law_2020 (by decide) ?_
            exact TL _ _ _ _ _ _ _ hI2 (by omega) (by omega)
          · exact absurd (cmp_self _) h2015
      · exact absurd rfl h1998
set_option maxRecDepth 100000 in
set_option maxHeartbeats 4000000 in
theorem lb_lines {l : Launch} {E : Ev} {b L : Nat} {xs : Nat → Int32} {Inv : Mm → Prop} {M : Mm} {K N t : Nat} {o6 o7 o8 o9 : Option Value} (hL : L ≤ 2560) (ht : 5 * t + 5 ≤ L) (hK : K + 512 ≤ 603072) (hN : N + 3072 ≤ 7207018) (hs : Sp_lines l E Inv) (hI : Inv M) (TL : ∀ (M' : Mm) (k' n' : Nat) (o6 o7 o8 o9 : Option Value), Inv M' → k' ≤ K + (t + 1) → n' ≤ N + 6 * (t + 1) → JL l E b L xs k' n' 2120 [some (.ref b), some (.ref (eA E 0 0)), some (.ref (eA E 12 0)), some (.ref (eA E 14 0)), some (.ref (eA E 15 0)), some (.int (nI (5 * t))), o6, o7, o8, o9] [] M') : JL l E b L xs (K + t) (N + 6 * t) 2023 [some (.ref b), some (.ref (eA E 0 0)), some (.ref (eA E 12 0)), some (.ref (eA E 14 0)), some (.ref (eA E 15 0)), some (.int (nI (5 * t))), o6, o7, o8, o9] [] M := by
  refine j_aln dL_law_2023 rfl rfl ?_
  refine j_aln dL_law_2024 rfl rfl ?_
  refine j_il dL_law_2025 rfl ?_
  refine j_icN 1 dL_law_2027 rfl ?_
  refine j_iaddN dL_law_2028 ?_
  refine j_sld dL_law_2029 (by omega) (by omega) ?_
  refine j_aln dL_law_2030 rfl rfl ?_
  refine j_il dL_law_2031 rfl ?_
  refine j_icN 2 dL_law_2033 rfl ?_
  refine j_iaddN dL_law_2034 ?_
  refine j_sld dL_law_2035 (by omega) (by omega) ?_
  refine j_ifeq (tgt := 2043) dL_law_2036 (by decide) (fun h2036 => ?_) (fun h2036 => ?_)
  · refine j_icN 0 dL_law_2043 rfl ?_
    refine j_aln dL_law_2044 rfl rfl ?_
    obtain ⟨K1, hC1, hK1⟩ := hs M (xs (5 * t + 1)) false hI
    refine j_lW (rest := []) mw_lines ml_L_217 ⟨(Nat.le_of_ble_eq_true rfl), (Nat.le_of_ble_eq_true rfl)⟩ hC1 rfl rfl (Nat.le_of_ble_eq_true rfl) dL_law_2045 ⟨by omega, by omega⟩ (fun v M1 hv => ?_)
    obtain ⟨k, hk8, hve, lv2, P2, hlv2, hC2, hP2⟩ := hK1 v M1 hv
    subst hve
    refine j_ist_6 dL_law_2048 (by decide) rfl ?_
    refine j_aln dL_law_2050 rfl rfl ?_
    refine j_aln dL_law_2051 rfl rfl ?_
    refine j_il dL_law_2052 rfl ?_
    refine j_icN 1 dL_law_2054 rfl ?_
    refine j_iaddN dL_law_2055 ?_
    refine j_sld dL_law_2056 (by omega) (by omega) ?_
    refine j_aln dL_law_2057 rfl rfl ?_
    refine j_il dL_law_2058 rfl ?_
    refine j_icN 2 dL_law_2060 rfl ?_
    refine j_iaddN dL_law_2061 ?_
    refine j_sld dL_law_2062 (by omega) (by omega) ?_
    refine j_ifeq (tgt := 2070) dL_law_2063 (by decide) (fun h2063 => ?_) (fun h2063 => ?_)
    · refine j_icN 0 dL_law_2070 rfl ?_
      refine j_lV (rest := []) mf_X10_lines ml_L_219 ⟨by omega, by omega⟩ hC2 (by decide) rfl rfl rfl rfl (Nat.le_of_ble_eq_true rfl) dL_law_2071 ⟨by omega, by omega⟩ (fun v2 M2 hv2 => ?_)
      obtain ⟨w, hw, hth, hout, hI2⟩ := hP2 v2 M2 hv2
      subst hw
      refine j_ist_7 dL_law_2074 (by decide) rfl ?_
      refine j_aln dL_law_2076 rfl rfl ?_
      refine j_lV (rest := []) mf_X10_thrown ml_L_112 ⟨(Nat.le_of_ble_eq_true rfl), (Nat.le_of_ble_eq_true rfl)⟩ c_X10_thrown (by decide) rfl rfl rfl rfl (Nat.le_of_ble_eq_true rfl) dL_law_2077 ⟨by omega, by omega⟩ (fun v3 M3 hv3 => ?_)
      obtain ⟨hv4, hm4⟩ := hv3
      subst hv4
      subst M3
      refine j_topi hth ?_
      refine j_il dL_law_2080 rfl ?_
      refine j_iceqN (tgt := 2087) dL_law_2082 (by decide) (by omega) (by omega) (fun h2082 => ?_) (fun h2082 => ?_)
      · refine j_il dL_law_2087 rfl ?_
        refine j_ifneN (tgt := 2104) dL_law_2089 (by decide) (by omega) (fun h2089 => ?_) (fun h2089 => ?_)
        · refine j_goto (tgt := 2120) dL_law_2104 (by decide) ?_
          exact TL _ _ _ _ _ _ _ hI2 (by omega) (by omega)
        · refine j_aln dL_law_2092 rfl rfl ?_
          refine j_icN 0 dL_law_2093 rfl ?_
          refine j_aldO dL_law_2094 rfl ?_
          refine j_il dL_law_2095 rfl ?_
          refine j_i2l dL_law_2097 ?_
          refine j_eq rfl (show [Value.long w.toInt64, Value.long (mW M2 2)] = [Value.long w.toInt64, Value.long w.toInt64] from by rw [hout h2089]) rfl ?_
          refine j_lcmp dL_law_2098 ?_
          refine j_ifeq (tgt := 2104) dL_law_2099 (by decide) (fun h2099 => ?_) (fun h2099 => ?_)
          · refine j_goto (tgt := 2120) dL_law_2104 (by decide) ?_
            exact TL _ _ _ _ _ _ _ hI2 (by omega) (by omega)
          · exact absurd (cmp_self _) h2099
      · exact absurd rfl h2082
    · exact absurd h2036 h2063
  · refine j_icN 1 dL_law_2039 rfl ?_
    refine j_goto (tgt := 2044) dL_law_2040 (by decide) ?_
    refine j_aln dL_law_2044 rfl rfl ?_
    obtain ⟨K1, hC1, hK1⟩ := hs M (xs (5 * t + 1)) true hI
    refine j_lW (rest := []) mw_lines ml_L_217 ⟨(Nat.le_of_ble_eq_true rfl), (Nat.le_of_ble_eq_true rfl)⟩ hC1 rfl rfl (Nat.le_of_ble_eq_true rfl) dL_law_2045 ⟨by omega, by omega⟩ (fun v M1 hv => ?_)
    obtain ⟨k, hk8, hve, lv2, P2, hlv2, hC2, hP2⟩ := hK1 v M1 hv
    subst hve
    refine j_ist_6 dL_law_2048 (by decide) rfl ?_
    refine j_aln dL_law_2050 rfl rfl ?_
    refine j_aln dL_law_2051 rfl rfl ?_
    refine j_il dL_law_2052 rfl ?_
    refine j_icN 1 dL_law_2054 rfl ?_
    refine j_iaddN dL_law_2055 ?_
    refine j_sld dL_law_2056 (by omega) (by omega) ?_
    refine j_aln dL_law_2057 rfl rfl ?_
    refine j_il dL_law_2058 rfl ?_
    refine j_icN 2 dL_law_2060 rfl ?_
    refine j_iaddN dL_law_2061 ?_
    refine j_sld dL_law_2062 (by omega) (by omega) ?_
    refine j_ifeq (tgt := 2070) dL_law_2063 (by decide) (fun h2063 => ?_) (fun h2063 => ?_)
    · exact absurd h2063 h2036
    · refine j_icN 1 dL_law_2066 rfl ?_
      refine j_goto (tgt := 2071) dL_law_2067 (by decide) ?_
      refine j_lV (rest := []) mf_X10_lines ml_L_219 ⟨by omega, by omega⟩ hC2 (by decide) rfl rfl rfl rfl (Nat.le_of_ble_eq_true rfl) dL_law_2071 ⟨by omega, by omega⟩ (fun v2 M2 hv2 => ?_)
      obtain ⟨w, hw, hth, hout, hI2⟩ := hP2 v2 M2 hv2
      subst hw
      refine j_ist_7 dL_law_2074 (by decide) rfl ?_
      refine j_aln dL_law_2076 rfl rfl ?_
      refine j_lV (rest := []) mf_X10_thrown ml_L_112 ⟨(Nat.le_of_ble_eq_true rfl), (Nat.le_of_ble_eq_true rfl)⟩ c_X10_thrown (by decide) rfl rfl rfl rfl (Nat.le_of_ble_eq_true rfl) dL_law_2077 ⟨by omega, by omega⟩ (fun v3 M3 hv3 => ?_)
      obtain ⟨hv4, hm4⟩ := hv3
      subst hv4
      subst M3
      refine j_topi hth ?_
      refine j_il dL_law_2080 rfl ?_
      refine j_iceqN (tgt := 2087) dL_law_2082 (by decide) (by omega) (by omega) (fun h2082 => ?_) (fun h2082 => ?_)
      · refine j_il dL_law_2087 rfl ?_
        refine j_ifneN (tgt := 2104) dL_law_2089 (by decide) (by omega) (fun h2089 => ?_) (fun h2089 => ?_)
        · refine j_goto (tgt := 2120) dL_law_2104 (by decide) ?_
          exact TL _ _ _ _ _ _ _ hI2 (by omega) (by omega)
        · refine j_aln dL_law_2092 rfl rfl ?_
          refine j_icN 0 dL_law_2093 rfl ?_
          refine j_aldO dL_law_2094 rfl ?_
          refine j_il dL_law_2095 rfl ?_
          refine j_i2l dL_law_2097 ?_
          refine j_eq rfl (show [Value.long w.toInt64, Value.long (mW M2 2)] = [Value.long w.toInt64, Value.long w.toInt64] from by rw [hout h2089]) rfl ?_
          refine j_lcmp dL_law_2098 ?_
          refine j_ifeq (tgt := 2104) dL_law_2099 (by decide) (fun h2099 => ?_) (fun h2099 => ?_)
          · refine j_goto (tgt := 2120) dL_law_2104 (by decide) ?_
            exact TL _ _ _ _ _ _ _ hI2 (by omega) (by omega)
          · exact absurd (cmp_self _) h2099
      · exact absurd rfl h2082
set_option maxRecDepth 100000 in
set_option maxHeartbeats 4000000 in
theorem lb_isSound {l : Launch} {E : Ev} {b L : Nat} {xs : Nat → Int32} {Inv : Mm → Prop} {M : Mm} {K N t : Nat} {o6 o7 o8 o9 : Option Value} (hL : L ≤ 2560) (ht : 5 * t + 5 ≤ L) (hK : K + 512 ≤ 603072) (hN : N + 3072 ≤ 7207018) (hs : Sp_isSound l E Inv) (hI : Inv M) (TL : ∀ (M' : Mm) (k' n' : Nat) (o6 o7 o8 o9 : Option Value), Inv M' → k' ≤ K + (t + 1) → n' ≤ N + 6 * (t + 1) → JL l E b L xs k' n' 2120 [some (.ref b), some (.ref (eA E 0 0)), some (.ref (eA E 12 0)), some (.ref (eA E 14 0)), some (.ref (eA E 15 0)), some (.int (nI (5 * t))), o6, o7, o8, o9] [] M') : JL l E b L xs (K + t) (N + 6 * t) 2107 [some (.ref b), some (.ref (eA E 0 0)), some (.ref (eA E 12 0)), some (.ref (eA E 14 0)), some (.ref (eA E 15 0)), some (.int (nI (5 * t))), o6, o7, o8, o9] [] M := by
  refine j_aln dL_law_2107 rfl rfl ?_
  obtain ⟨lv1, P1, hlv1, hC1, hP1⟩ := hs M hI
  refine j_lV (rest := []) mf_X9_isSound ml_L_220 ⟨by omega, by omega⟩ hC1 (by decide) rfl rfl rfl rfl (Nat.le_of_ble_eq_true rfl) dL_law_2108 ⟨by omega, by omega⟩ (fun v M1 hv => ?_)
  obtain ⟨a, hve, lv2, P2, hlv2, hC2, hP2⟩ := hP1 v M1 hv
  subst hve
  refine j_aln dL_law_2111 rfl rfl ?_
  refine j_lV (rest := [.int a]) mf_X10_isSound ml_L_224 ⟨by omega, by omega⟩ hC2 (by decide) rfl rfl rfl rfl (Nat.le_of_ble_eq_true rfl) dL_law_2112 ⟨by omega, by omega⟩ (fun v2 M2 hv2 => ?_)
  obtain ⟨hw, hI2⟩ := hP2 v2 M2 hv2
  subst hw
  refine j_iceq (tgt := 2120) dL_law_2115 (by decide) (fun h2115 => ?_) (fun h2115 => ?_)
  · exact TL _ _ _ _ _ _ _ hI2 (by omega) (by omega)
  · exact absurd rfl h2115
set_option maxRecDepth 100000 in
set_option maxHeartbeats 4000000 in
theorem law_loop {l : Launch} {E : Ev} {b L : Nat} {xs : Nat → Int32} {Inv : Mm → Prop} {K N : Nat} (hL : L ≤ 2560) (hK : K + 512 ≤ 603072) (hN : N + 3072 ≤ 7207018) (hs0 : Sp_setNumber l E Inv) (hs1 : Sp_number l E Inv) (hs2 : Sp_addFeature l E Inv) (hs3 : Sp_setSize l E Inv) (hs4 : Sp_remove l E Inv) (hs5 : Sp_move l E Inv) (hs6 : Sp_putOff l E Inv) (hs7 : Sp_setBar l E Inv) (hs8 : Sp_place l E Inv) (hs9 : Sp_state l E Inv) (hs10 : Sp_worked l E Inv) (hs11 : Sp_has l E Inv) (hs12 : Sp_hasAnew l E Inv) (hs13 : Sp_nameOf l E Inv) (hs14 : Sp_squares l E Inv) (hs15 : Sp_volume l E Inv) (hs16 : Sp_area l E Inv) (hs17 : Sp_bodies l E Inv) (hs18 : Sp_euler l E Inv) (hs19 : Sp_centre l E Inv) (hs20 : Sp_filled l E Inv) (hs21 : Sp_addPart l E Inv) (hs22 : Sp_freeze l E Inv) (hs23 : Sp_mate l E Inv) (hs24 : Sp_drag l E Inv) (hs25 : Sp_moved l E Inv) (hs26 : Sp_freedoms l E Inv) (hs27 : Sp_clashes l E Inv) (hs28 : Sp_depth l E Inv) (hs29 : Sp_lines l E Inv) (hs30 : Sp_isSound l E Inv) : ∀ (M : Mm) (o6 o7 o8 o9 : Option Value), Inv M → JL l E b L xs (K + 0) (N + 6 * 0) 28 [some (.ref b), some (.ref (eA E 0 0)), some (.ref (eA E 12 0)), some (.ref (eA E 14 0)), some (.ref (eA E 15 0)), some (.int (nI (5 * 0))), o6, o7, o8, o9] [] M := by
  obtain ⟨T, hT1, hT2⟩ : ∃ T, L < 5 * T + 5 ∧ 5 * T ≤ L := ⟨L / 5, by omega, by omega⟩
  have KL : ∀ t, t ≤ T → ∀ (M : Mm) (o6 o7 o8 o9 : Option Value), Inv M → JL l E b L xs (K + t) (N + 6 * t) 28 [some (.ref b), some (.ref (eA E 0 0)), some (.ref (eA E 12 0)), some (.ref (eA E 14 0)), some (.ref (eA E 15 0)), some (.int (nI (5 * t))), o6, o7, o8, o9] [] M := by
    refine up_to T _ ?_ (fun t htT ih => ?_)
    · intro M o6 o7 o8 o9 hI
      refine j_il dL_law_28 rfl ?_
      refine j_aln dL_law_30 rfl rfl ?_
      refine j_slen dL_law_31 ?_
      refine j_icN 5 dL_law_32 rfl ?_
      refine j_isub dL_law_33 ?_
      refine j_icgt (tgt := 2126) dL_law_34 (by decide) (fun h34 => ?_) (fun h34 => ?_)
      · refine j_icN 1 dL_law_2126 rfl ?_
        exact j_end dL_law_2127 (by omega) (by omega)
      · exact absurd ((lm5 (by omega) (by omega)).mpr (by omega)) h34
    · have ht : 5 * t + 5 ≤ L := by omega
      have TL : ∀ (M' : Mm) (k' n' : Nat) (o6 o7 o8 o9 : Option Value), Inv M' → k' ≤ K + (t + 1) → n' ≤ N + 6 * (t + 1) → JL l E b L xs k' n' 2120 [some (.ref b), some (.ref (eA E 0 0)), some (.ref (eA E 12 0)), some (.ref (eA E 14 0)), some (.ref (eA E 15 0)), some (.int (nI (5 * t))), o6, o7, o8, o9] [] M' := by
        intro M' k' n' o6 o7 o8 o9 hI hk hn
        refine j_incN_5 5 dL_law_2120 rfl (by decide) rfl ?_
        refine j_goto (tgt := 28) dL_law_2123 (by decide) ?_
        exact j_widen hk hn (ih M' o6 o7 o8 o9 hI)
      intro M o6 o7 o8 o9 hI
      refine j_il dL_law_28 rfl ?_
      refine j_aln dL_law_30 rfl rfl ?_
      refine j_slen dL_law_31 ?_
      refine j_icN 5 dL_law_32 rfl ?_
      refine j_isub dL_law_33 ?_
      refine j_icgt (tgt := 2126) dL_law_34 (by decide) (fun h34 => ?_) (fun h34 => ?_)
      · exact absurd ((lm5 (by omega) (by omega)).mp h34) (by omega)
      · refine j_aln dL_law_37 rfl rfl ?_
        refine j_il dL_law_38 rfl ?_
        refine j_sld dL_law_40 (by omega) (by omega) ?_
        refine j_biN 31 dL_law_41 rfl ?_
        refine j_iand dL_law_43 ?_
        obtain ⟨c, hc, he⟩ := and31 (xs (5 * t + 0))
        refine j_topi he ?_
        have hc32 : c = 0 ∨ c = 1 ∨ c = 2 ∨ c = 3 ∨ c = 4 ∨ c = 5 ∨ c = 6 ∨ c = 7 ∨ c = 8 ∨ c = 9 ∨ c = 10 ∨ c = 11 ∨ c = 12 ∨ c = 13 ∨ c = 14 ∨ c = 15 ∨ c = 16 ∨ c = 17 ∨ c = 18 ∨ c = 19 ∨ c = 20 ∨ c = 21 ∨ c = 22 ∨ c = 23 ∨ c = 24 ∨ c = 25 ∨ c = 26 ∨ c = 27 ∨ c = 28 ∨ c = 29 ∨ c = 30 ∨ c = 31 := by omega
        rcases hc32 with rfl | rfl | rfl | rfl | rfl | rfl | rfl | rfl | rfl | rfl | rfl | rfl | rfl | rfl | rfl | rfl | rfl | rfl | rfl | rfl | rfl | rfl | rfl | rfl | rfl | rfl | rfl | rfl | rfl | rfl | rfl | rfl
        · exact j_tabIn dL_law_44 (by decide) (by decide) (off := 140) (tgt := 184) (by decide) (by decide) (lb_setNumber hL ht hK hN hs0 hI TL)
        · exact j_tabIn dL_law_44 (by decide) (by decide) (off := 234) (tgt := 278) (by decide) (by decide) (lb_number hL ht hK hN hs1 hI TL)
        · exact j_tabIn dL_law_44 (by decide) (by decide) (off := 290) (tgt := 334) (by decide) (by decide) (lb_addFeature hL ht hK hN hs2 hI TL)
        · exact j_tabIn dL_law_44 (by decide) (by decide) (off := 384) (tgt := 428) (by decide) (by decide) (lb_setSize hL ht hK hN hs3 hI TL)
        · exact j_tabIn dL_law_44 (by decide) (by decide) (off := 476) (tgt := 520) (by decide) (by decide) (lb_remove hL ht hK hN hs4 hI TL)
        · exact j_tabIn dL_law_44 (by decide) (by decide) (off := 532) (tgt := 576) (by decide) (by decide) (lb_move hL ht hK hN hs5 hI TL)
        · exact j_tabIn dL_law_44 (by decide) (by decide) (off := 600) (tgt := 644) (by decide) (by decide) (lb_putOff hL ht hK hN hs6 hI TL)
        · exact j_tabIn dL_law_44 (by decide) (by decide) (off := 691) (tgt := 735) (by decide) (by decide) (lb_setBar hL ht hK hN hs7 hI TL)
        · exact j_tabIn dL_law_44 (by decide) (by decide) (off := 747) (tgt := 791) (by decide) (by decide) (lb_place hL ht hK hN hs8 hI TL)
        · exact j_tabIn dL_law_44 (by decide) (by decide) (off := 803) (tgt := 847) (by decide) (by decide) (lb_state hL ht hK hN hs9 hI TL)
        · exact j_tabIn dL_law_44 (by decide) (by decide) (off := 859) (tgt := 903) (by decide) (by decide) (lb_worked hL ht hK hN hs10 hI TL)
        · exact j_tabIn dL_law_44 (by decide) (by decide) (off := 873) (tgt := 917) (by decide) (by decide) (lb_has hL ht hK hN hs11 hI TL)
        · exact j_tabIn dL_law_44 (by decide) (by decide) (off := 960) (tgt := 1004) (by decide) (by decide) (lb_hasAnew hL ht hK hN hs12 hI TL)
        · exact j_tabIn dL_law_44 (by decide) (by decide) (off := 1047) (tgt := 1091) (by decide) (by decide) (lb_nameOf hL ht hK hN hs13 hI TL)
        · exact j_tabIn dL_law_44 (by decide) (by decide) (off := 1139) (tgt := 1183) (by decide) (by decide) (lb_squares hL ht hK hN hs14 hI TL)
        · exact j_tabIn dL_law_44 (by decide) (by decide) (off := 1207) (tgt := 1251) (by decide) (by decide) (lb_volume hL ht hK hN hs15 hI TL)
        · exact j_tabIn dL_law_44 (by decide) (by decide) (off := 1220) (tgt := 1264) (by decide) (by decide) (lb_area hL ht hK hN hs16 hI TL)
        · exact j_tabIn dL_law_44 (by decide) (by decide) (off := 1233) (tgt := 1277) (by decide) (by decide) (lb_bodies hL ht hK hN hs17 hI TL)
        · exact j_tabIn dL_law_44 (by decide) (by decide) (off := 1246) (tgt := 1290) (by decide) (by decide) (lb_euler hL ht hK hN hs18 hI TL)
        · exact j_tabIn dL_law_44 (by decide) (by decide) (off := 1259) (tgt := 1303) (by decide) (by decide) (lb_centre hL ht hK hN hs19 hI TL)
        · exact j_tabIn dL_law_44 (by decide) (by decide) (off := 1336) (tgt := 1380) (by decide) (by decide) (lb_filled hL ht hK hN hs20 hI TL)
        · exact j_tabIn dL_law_44 (by decide) (by decide) (off := 1379) (tgt := 1423) (by decide) (by decide) (lb_addPart hL ht hK hN hs21 hI TL)
        · exact j_tabIn dL_law_44 (by decide) (by decide) (off := 1459) (tgt := 1503) (by decide) (by decide) (lb_freeze hL ht hK hN hs22 hI TL)
        · exact j_tabIn dL_law_44 (by decide) (by decide) (off := 1550) (tgt := 1594) (by decide) (by decide) (lb_mate hL ht hK hN hs23 hI TL)
        · exact j_tabIn dL_law_44 (by decide) (by decide) (off := 1642) (tgt := 1686) (by decide) (by decide) (lb_drag hL ht hK hN hs24 hI TL)
        · exact j_tabIn dL_law_44 (by decide) (by decide) (off := 1722) (tgt := 1766) (by decide) (by decide) (lb_moved hL ht hK hN hs25 hI TL)
        · exact j_tabIn dL_law_44 (by decide) (by decide) (off := 1790) (tgt := 1834) (by decide) (by decide) (lb_freedoms hL ht hK hN hs26 hI TL)
        · exact j_tabIn dL_law_44 (by decide) (by decide) (off := 1803) (tgt := 1847) (by decide) (by decide) (lb_clashes hL ht hK hN hs27 hI TL)
        · exact j_tabIn dL_law_44 (by decide) (by decide) (off := 1871) (tgt := 1915) (by decide) (by decide) (lb_depth hL ht hK hN hs28 hI TL)
        · exact j_tabIn dL_law_44 (by decide) (by decide) (off := 1979) (tgt := 2023) (by decide) (by decide) (lb_lines hL ht hK hN hs29 hI TL)
        · exact j_tabIn dL_law_44 (by decide) (by decide) (off := 2063) (tgt := 2107) (by decide) (by decide) (lb_isSound hL ht hK hN hs30 hI TL)
        · exact j_tabOut dL_law_44 (tgt := 2120) (by decide) (by decide) (TL M _ _ _ _ _ _ hI (by omega) (by omega))
  exact KL 0 (Nat.zero_le _)
