/-! words by their places -/
theorem wgs {i : Nat} {w : Cond} (h : (k2_sels lw_privs)[i]? = some w) (hg : goodWord w = true) : w ∈ wsG := List.mem_filter.mpr ⟨List.mem_append_left _ (List.mem_of_getElem? h), hg⟩
theorem wg1 {i : Nat} {w : Cond} (h : tables_1_1[i]? = some w) (hg : goodWord w = true) : w ∈ wsG := List.mem_filter.mpr ⟨List.mem_append_right _ (List.mem_append_left _ (List.mem_of_getElem? h)), hg⟩
theorem wg2 {i : Nat} {w : Cond} (h : tables_1_2[i]? = some w) (hg : goodWord w = true) : w ∈ wsG := List.mem_filter.mpr ⟨List.mem_append_right _ (List.mem_append_right _ (List.mem_append_left _ (List.mem_of_getElem? h))), hg⟩
theorem wg3 {i : Nat} {w : Cond} (h : tables_1_3[i]? = some w) (hg : goodWord w = true) : w ∈ wsG := List.mem_filter.mpr ⟨List.mem_append_right _ (List.mem_append_right _ (List.mem_append_right _ (List.mem_append_left _ (List.mem_of_getElem? h)))), hg⟩
theorem wg4 {i : Nat} {w : Cond} (h : tables_1_4[i]? = some w) (hg : goodWord w = true) : w ∈ wsG := List.mem_filter.mpr ⟨List.mem_append_right _ (List.mem_append_right _ (List.mem_append_right _ (List.mem_append_right _ (List.mem_append_left _ (List.mem_of_getElem? h))))), hg⟩
theorem wg5 {i : Nat} {w : Cond} (h : tables_1_5[i]? = some w) (hg : goodWord w = true) : w ∈ wsG := List.mem_filter.mpr ⟨List.mem_append_right _ (List.mem_append_right _ (List.mem_append_right _ (List.mem_append_right _ (List.mem_append_right _ (List.mem_of_getElem? h))))), hg⟩
theorem fin_p (ws : List Cond) (ps : List Nat) (hp : ws = ps.filterMap (fun i => lw_tbl[i]?)) (hg : ws.all goodWord = true) : ∀ w ∈ ws, w ∈ wsG := by
  intro w hw
  have h1 := List.all_eq_true.mp hg w hw
  rw [hp] at hw
  obtain ⟨i, -, hi⟩ := List.mem_filterMap.mp hw
  exact wg hi h1
set_option maxRecDepth 100000 in
theorem cl_L_10 : Cond.classLink RL 10 "Solidhearth" ∈ wsG := (wg1 (i := 29) rfl rfl)
set_option maxRecDepth 100000 in
theorem ml_L_135 : Cond.methodLink RL 135 yX9_init ∈ wsG := (wg1 (i := 31) rfl rfl)
set_option maxRecDepth 100000 in
theorem ml_X9_1 : Cond.methodLink RX9 1 objectInit ∈ wsG := (wg1 (i := 34) rfl rfl)
set_option maxRecDepth 100000 in
theorem cl_X9_7 : Cond.classLink RX9 7 "Solidhearth$History" ∈ wsG := (wg1 (i := 37) rfl rfl)
set_option maxRecDepth 100000 in
theorem ml_X9_9 : Cond.methodLink RX9 9 yX3_init ∈ wsG := (wg1 (i := 39) rfl rfl)
set_option maxRecDepth 100000 in
theorem ml_X3_3 : Cond.methodLink RX3 3 objectInit ∈ wsG := (wg1 (i := 42) rfl rfl)
set_option maxRecDepth 100000 in
theorem cl_X3_9 : Cond.classLink RX3 9 "Solidhearth$Features" ∈ wsG := (wg1 (i := 43) rfl rfl)
set_option maxRecDepth 100000 in
theorem ml_X2_3 : Cond.methodLink RX2 3 objectInit ∈ wsG := (wg1 (i := 48) rfl rfl)
set_option maxRecDepth 100000 in
theorem cl_X2_9 : Cond.classLink RX2 9 "Solidhearth$Numbers" ∈ wsG := (wg1 (i := 49) rfl rfl)
set_option maxRecDepth 100000 in
theorem ml_X5_3 : Cond.methodLink RX5 3 objectInit ∈ wsG := (wg1 (i := 54) rfl rfl)
set_option maxRecDepth 100000 in
theorem fl_X5_9 : Cond.fieldLink RX5 9 "Solidhearth$Numbers" "firsts" "[I" ∈ wsG := (wg1 (i := 55) rfl rfl)
set_option maxRecDepth 100000 in
theorem fl_X9_62 : Cond.fieldLink RX9 62 "Solidhearth$Numbers" "firsts" "[I" ∈ wsG := (wg1 (i := 56) rfl rfl)
set_option maxRecDepth 100000 in
theorem fl_X5_15 : Cond.fieldLink RX5 15 "Solidhearth$Numbers" "operations" "[C" ∈ wsG := (wg1 (i := 57) rfl rfl)
set_option maxRecDepth 100000 in
theorem fl_X9_66 : Cond.fieldLink RX9 66 "Solidhearth$Numbers" "operations" "[C" ∈ wsG := (wg1 (i := 58) rfl rfl)
set_option maxRecDepth 100000 in
theorem fl_X5_19 : Cond.fieldLink RX5 19 "Solidhearth$Numbers" "seconds" "[I" ∈ wsG := (wg1 (i := 59) rfl rfl)
set_option maxRecDepth 100000 in
theorem fl_X9_70 : Cond.fieldLink RX9 70 "Solidhearth$Numbers" "seconds" "[I" ∈ wsG := (wg1 (i := 60) rfl rfl)
set_option maxRecDepth 100000 in
theorem fl_X5_22 : Cond.fieldLink RX5 22 "Solidhearth$Numbers" "values" "[I" ∈ wsG := (wg1 (i := 61) rfl rfl)
set_option maxRecDepth 100000 in
theorem fl_X9_86 : Cond.fieldLink RX9 86 "Solidhearth$Numbers" "values" "[I" ∈ wsG := (wg1 (i := 62) rfl rfl)
set_option maxRecDepth 100000 in
theorem fl_X2_12 : Cond.fieldLink RX2 12 "Solidhearth$Features" "numbers" "LSolidhearth$Numbers;" ∈ wsG := (wg1 (i := 74) rfl rfl)
set_option maxRecDepth 100000 in
theorem fl_X9_47 : Cond.fieldLink RX9 47 "Solidhearth$Features" "numbers" "LSolidhearth$Numbers;" ∈ wsG := (wg1 (i := 75) rfl rfl)
set_option maxRecDepth 100000 in
theorem fl_X2_18 : Cond.fieldLink RX2 18 "Solidhearth$Features" "row" "[I" ∈ wsG := (wg1 (i := 76) rfl rfl)
set_option maxRecDepth 100000 in
theorem fl_X3_65 : Cond.fieldLink RX3 65 "Solidhearth$Features" "row" "[I" ∈ wsG := (wg1 (i := 77) rfl rfl)
set_option maxRecDepth 100000 in
theorem fl_X2_22 : Cond.fieldLink RX2 22 "Solidhearth$Features" "kinds" "[C" ∈ wsG := (wg1 (i := 78) rfl rfl)
set_option maxRecDepth 100000 in
theorem fl_X3_83 : Cond.fieldLink RX3 83 "Solidhearth$Features" "kinds" "[C" ∈ wsG := (wg1 (i := 79) rfl rfl)
set_option maxRecDepth 100000 in
theorem fl_X2_26 : Cond.fieldLink RX2 26 "Solidhearth$Features" "terms" "[I" ∈ wsG := (wg1 (i := 80) rfl rfl)
set_option maxRecDepth 100000 in
theorem fl_X2_29 : Cond.fieldLink RX2 29 "Solidhearth$Features" "areOff" "[Z" ∈ wsG := (wg1 (i := 81) rfl rfl)
set_option maxRecDepth 100000 in
theorem fl_X3_76 : Cond.fieldLink RX3 76 "Solidhearth$Features" "areOff" "[Z" ∈ wsG := (wg1 (i := 82) rfl rfl)
set_option maxRecDepth 100000 in
theorem fl_X9_152 : Cond.fieldLink RX9 152 "Solidhearth$Features" "areOff" "[Z" ∈ wsG := (wg1 (i := 83) rfl rfl)
set_option maxRecDepth 100000 in
theorem fl_X2_33 : Cond.fieldLink RX2 33 "Solidhearth$Features" "count" "I" ∈ wsG := (wg1 (i := 84) rfl rfl)
set_option maxRecDepth 100000 in
theorem fl_X9_104 : Cond.fieldLink RX9 104 "Solidhearth$Features" "count" "I" ∈ wsG := (wg1 (i := 85) rfl rfl)
set_option maxRecDepth 100000 in
theorem fl_X2_41 : Cond.fieldLink RX2 41 "Solidhearth$Features" "given" "I" ∈ wsG := (wg1 (i := 86) rfl rfl)
set_option maxRecDepth 100000 in
theorem fl_X9_108 : Cond.fieldLink RX9 108 "Solidhearth$Features" "given" "I" ∈ wsG := (wg1 (i := 87) rfl rfl)
set_option maxRecDepth 100000 in
theorem fl_X3_57 : Cond.fieldLink RX3 57 "Solidhearth$Features" "bar" "I" ∈ wsG := (wg1 (i := 88) rfl rfl)
set_option maxRecDepth 100000 in
theorem fl_X2_44 : Cond.fieldLink RX2 44 "Solidhearth$Features" "bar" "I" ∈ wsG := (wg1 (i := 89) rfl rfl)
set_option maxRecDepth 100000 in
theorem fl_X9_156 : Cond.fieldLink RX9 156 "Solidhearth$Features" "bar" "I" ∈ wsG := (wg1 (i := 90) rfl rfl)
set_option maxRecDepth 100000 in
theorem cl_X3_22 : Cond.classLink RX3 22 "Solidhearth$Body" ∈ wsG := (wg1 (i := 109) rfl rfl)
set_option maxRecDepth 100000 in
theorem ml_X0_3 : Cond.methodLink RX0 3 objectInit ∈ wsG := (wg1 (i := 115) rfl rfl)
set_option maxRecDepth 100000 in
theorem cl_X0_9 : Cond.classLink RX0 9 "Solidhearth$Cells" ∈ wsG := (wg1 (i := 116) rfl rfl)
set_option maxRecDepth 100000 in
theorem ml_X1_3 : Cond.methodLink RX1 3 objectInit ∈ wsG := (wg1 (i := 121) rfl rfl)
set_option maxRecDepth 100000 in
theorem fl_X1_9 : Cond.fieldLink RX1 9 "Solidhearth$Cells" "layers" "[J" ∈ wsG := (wg1 (i := 122) rfl rfl)
set_option maxRecDepth 100000 in
theorem fl_X0_45 : Cond.fieldLink RX0 45 "Solidhearth$Cells" "layers" "[J" ∈ wsG := (wg1 (i := 123) rfl rfl)
set_option maxRecDepth 100000 in
theorem fl_X6_67 : Cond.fieldLink RX6 67 "Solidhearth$Cells" "layers" "[J" ∈ wsG := (wg1 (i := 124) rfl rfl)
set_option maxRecDepth 100000 in
theorem fl_X0_12 : Cond.fieldLink RX0 12 "Solidhearth$Body" "cells" "LSolidhearth$Cells;" ∈ wsG := (wg1 (i := 129) rfl rfl)
set_option maxRecDepth 100000 in
theorem fl_X8_37 : Cond.fieldLink RX8 37 "Solidhearth$Body" "cells" "LSolidhearth$Cells;" ∈ wsG := (wg1 (i := 130) rfl rfl)
set_option maxRecDepth 100000 in
theorem fl_X3_122 : Cond.fieldLink RX3 122 "Solidhearth$Body" "cells" "LSolidhearth$Cells;" ∈ wsG := (wg1 (i := 131) rfl rfl)
set_option maxRecDepth 100000 in
theorem fl_X9_177 : Cond.fieldLink RX9 177 "Solidhearth$Body" "cells" "LSolidhearth$Cells;" ∈ wsG := (wg1 (i := 132) rfl rfl)
set_option maxRecDepth 100000 in
theorem fl_X0_18 : Cond.fieldLink RX0 18 "Solidhearth$Body" "makers" "[J" ∈ wsG := (wg1 (i := 133) rfl rfl)
set_option maxRecDepth 100000 in
theorem cl_X3_36 : Cond.classLink RX3 36 "Solidhearth$Workshop" ∈ wsG := (wg1 (i := 139) rfl rfl)
set_option maxRecDepth 100000 in
theorem ml_X8_3 : Cond.methodLink RX8 3 objectInit ∈ wsG := (wg1 (i := 144) rfl rfl)
set_option maxRecDepth 100000 in
theorem cl_X8_9 : Cond.classLink RX8 9 "Solidhearth$Cells" ∈ wsG := (wg1 (i := 145) rfl rfl)
set_option maxRecDepth 100000 in
theorem fl_X8_12 : Cond.fieldLink RX8 12 "Solidhearth$Workshop" "box" "LSolidhearth$Cells;" ∈ wsG := (wg1 (i := 147) rfl rfl)
set_option maxRecDepth 100000 in
theorem fl_X8_18 : Cond.fieldLink RX8 18 "Solidhearth$Workshop" "chosen" "LSolidhearth$Cells;" ∈ wsG := (wg1 (i := 148) rfl rfl)
set_option maxRecDepth 100000 in
theorem fl_X8_21 : Cond.fieldLink RX8 21 "Solidhearth$Workshop" "rest" "LSolidhearth$Cells;" ∈ wsG := (wg1 (i := 149) rfl rfl)
set_option maxRecDepth 100000 in
theorem fl_X8_24 : Cond.fieldLink RX8 24 "Solidhearth$Workshop" "piece" "LSolidhearth$Cells;" ∈ wsG := (wg1 (i := 150) rfl rfl)
set_option maxRecDepth 100000 in
theorem fl_X3_12 : Cond.fieldLink RX3 12 "Solidhearth$History" "features" "LSolidhearth$Features;" ∈ wsG := (wg1 (i := 160) rfl rfl)
set_option maxRecDepth 100000 in
theorem fl_X9_43 : Cond.fieldLink RX9 43 "Solidhearth$History" "features" "LSolidhearth$Features;" ∈ wsG := (wg1 (i := 161) rfl rfl)
set_option maxRecDepth 100000 in
theorem fl_X3_18 : Cond.fieldLink RX3 18 "Solidhearth$History" "faults" "[C" ∈ wsG := (wg1 (i := 162) rfl rfl)
set_option maxRecDepth 100000 in
theorem fl_X9_159 : Cond.fieldLink RX9 159 "Solidhearth$History" "faults" "[C" ∈ wsG := (wg1 (i := 163) rfl rfl)
set_option maxRecDepth 100000 in
theorem fl_X3_90 : Cond.fieldLink RX3 90 "Solidhearth$History" "work" "J" ∈ wsG := (wg1 (i := 164) rfl rfl)
set_option maxRecDepth 100000 in
theorem fl_X9_162 : Cond.fieldLink RX9 162 "Solidhearth$History" "work" "J" ∈ wsG := (wg1 (i := 165) rfl rfl)
set_option maxRecDepth 100000 in
theorem fl_X3_24 : Cond.fieldLink RX3 24 "Solidhearth$History" "stages" "[LSolidhearth$Body;" ∈ wsG := (wg1 (i := 166) rfl rfl)
set_option maxRecDepth 100000 in
theorem fl_X3_29 : Cond.fieldLink RX3 29 "Solidhearth$History" "fresh" "LSolidhearth$Body;" ∈ wsG := (wg1 (i := 167) rfl rfl)
set_option maxRecDepth 100000 in
theorem fl_X3_33 : Cond.fieldLink RX3 33 "Solidhearth$History" "behindFresh" "LSolidhearth$Body;" ∈ wsG := (wg1 (i := 168) rfl rfl)
set_option maxRecDepth 100000 in
theorem fl_X3_39 : Cond.fieldLink RX3 39 "Solidhearth$History" "workshop" "LSolidhearth$Workshop;" ∈ wsG := (wg1 (i := 169) rfl rfl)
set_option maxRecDepth 100000 in
theorem fl_X3_43 : Cond.fieldLink RX3 43 "Solidhearth$History" "sizes" "[I" ∈ wsG := (wg1 (i := 170) rfl rfl)
set_option maxRecDepth 100000 in
theorem fl_X3_47 : Cond.fieldLink RX3 47 "Solidhearth$History" "rowCarried" "[I" ∈ wsG := (wg1 (i := 171) rfl rfl)
set_option maxRecDepth 100000 in
theorem fl_X3_50 : Cond.fieldLink RX3 50 "Solidhearth$History" "offCarried" "[Z" ∈ wsG := (wg1 (i := 172) rfl rfl)
set_option maxRecDepth 100000 in
theorem fl_X3_54 : Cond.fieldLink RX3 54 "Solidhearth$History" "sizesCarried" "[I" ∈ wsG := (wg1 (i := 173) rfl rfl)
set_option maxRecDepth 100000 in
theorem fl_X3_94 : Cond.fieldLink RX3 94 "Solidhearth$History" "barCarried" "I" ∈ wsG := (wg1 (i := 174) rfl rfl)
set_option maxRecDepth 100000 in
theorem cl_X9_16 : Cond.classLink RX9 16 "Solidhearth$Parts" ∈ wsG := (wg1 (i := 200) rfl rfl)
set_option maxRecDepth 100000 in
theorem ml_X9_18 : Cond.methodLink RX9 18 yX6_init ∈ wsG := (wg1 (i := 202) rfl rfl)
set_option maxRecDepth 100000 in
theorem ml_X6_3 : Cond.methodLink RX6 3 objectInit ∈ wsG := (wg1 (i := 205) rfl rfl)
set_option maxRecDepth 100000 in
theorem cl_X6_15 : Cond.classLink RX6 15 "Solidhearth$Cells" ∈ wsG := (wg1 (i := 206) rfl rfl)
set_option maxRecDepth 100000 in
theorem fl_X6_9 : Cond.fieldLink RX6 9 "Solidhearth$Parts" "areFrozen" "[Z" ∈ wsG := (wg1 (i := 209) rfl rfl)
set_option maxRecDepth 100000 in
theorem fl_X9_251 : Cond.fieldLink RX9 251 "Solidhearth$Parts" "areFrozen" "[Z" ∈ wsG := (wg1 (i := 210) rfl rfl)
set_option maxRecDepth 100000 in
theorem fl_X6_17 : Cond.fieldLink RX6 17 "Solidhearth$Parts" "shapes" "[LSolidhearth$Cells;" ∈ wsG := (wg1 (i := 211) rfl rfl)
set_option maxRecDepth 100000 in
theorem fl_X9_254 : Cond.fieldLink RX9 254 "Solidhearth$Parts" "shapes" "[LSolidhearth$Cells;" ∈ wsG := (wg1 (i := 212) rfl rfl)
set_option maxRecDepth 100000 in
theorem fl_X6_38 : Cond.fieldLink RX6 38 "Solidhearth$Parts" "count" "I" ∈ wsG := (wg1 (i := 213) rfl rfl)
set_option maxRecDepth 100000 in
theorem fl_X9_241 : Cond.fieldLink RX9 241 "Solidhearth$Parts" "count" "I" ∈ wsG := (wg1 (i := 214) rfl rfl)
set_option maxRecDepth 100000 in
theorem fl_X6_50 : Cond.fieldLink RX6 50 "Solidhearth$Parts" "mateCount" "I" ∈ wsG := (wg1 (i := 215) rfl rfl)
set_option maxRecDepth 100000 in
theorem fl_X9_269 : Cond.fieldLink RX9 269 "Solidhearth$Parts" "mateCount" "I" ∈ wsG := (wg1 (i := 216) rfl rfl)
set_option maxRecDepth 100000 in
theorem fl_X6_21 : Cond.fieldLink RX6 21 "Solidhearth$Parts" "moves" "[I" ∈ wsG := (wg1 (i := 217) rfl rfl)
set_option maxRecDepth 100000 in
theorem fl_X6_25 : Cond.fieldLink RX6 25 "Solidhearth$Parts" "mateAxes" "[I" ∈ wsG := (wg1 (i := 218) rfl rfl)
set_option maxRecDepth 100000 in
theorem fl_X6_28 : Cond.fieldLink RX6 28 "Solidhearth$Parts" "mateParts" "[I" ∈ wsG := (wg1 (i := 219) rfl rfl)
set_option maxRecDepth 100000 in
theorem fl_X6_31 : Cond.fieldLink RX6 31 "Solidhearth$Parts" "mateOthers" "[I" ∈ wsG := (wg1 (i := 220) rfl rfl)
set_option maxRecDepth 100000 in
theorem fl_X6_34 : Cond.fieldLink RX6 34 "Solidhearth$Parts" "mateDistances" "[I" ∈ wsG := (wg1 (i := 221) rfl rfl)
set_option maxRecDepth 100000 in
theorem fl_X9_10 : Cond.fieldLink RX9 10 "Solidhearth" "history" "LSolidhearth$History;" ∈ wsG := (wg2 (i := 1) rfl rfl)
set_option maxRecDepth 100000 in
theorem fl_X9_19 : Cond.fieldLink RX9 19 "Solidhearth" "parts" "LSolidhearth$Parts;" ∈ wsG := (wg2 (i := 2) rfl rfl)
set_option maxRecDepth 100000 in
theorem ml_L_121 : Cond.methodLink RL 121 yX9_worked ∈ wsG := (wg2 (i := 8) rfl rfl)
set_option maxRecDepth 100000 in
theorem ml_L_125 : Cond.methodLink RL 125 yX9_freedoms ∈ wsG := (wg2 (i := 12) rfl rfl)
set_option maxRecDepth 100000 in
theorem ml_L_136 : Cond.methodLink RL 136 yL_cell ∈ wsG := (wg2 (i := 16) rfl rfl)
set_option maxRecDepth 100000 in
theorem cn_L_7 : Cond.constant RL 7 (650011) ∈ wsG := (wg2 (i := 19) rfl rfl)
set_option maxRecDepth 100000 in
theorem ml_L_140 : Cond.methodLink RL 140 yL_low ∈ wsG := (wg2 (i := 20) rfl rfl)
set_option maxRecDepth 100000 in
theorem cn_L_8 : Cond.constant RL 8 (2147483647) ∈ wsG := (wg2 (i := 23) rfl rfl)
set_option maxRecDepth 100000 in
theorem ml_L_108 : Cond.methodLink RL 108 yL_call ∈ wsG := (wg2 (i := 24) rfl rfl)
set_option maxRecDepth 100000 in
theorem cl_L_92 : Cond.classLink RL 92 "java/lang/IndexOutOfBoundsException" ∈ wsG := (wg2 (i := 27) rfl rfl)
set_option maxRecDepth 100000 in
theorem cl_L_94 : Cond.classLink RL 94 "java/lang/IllegalArgumentException" ∈ wsG := (wg2 (i := 107) rfl rfl)
set_option maxRecDepth 100000 in
theorem cl_L_96 : Cond.classLink RL 96 "java/lang/IllegalStateException" ∈ wsG := (wg2 (i := 108) rfl rfl)
set_option maxRecDepth 100000 in
theorem cl_L_98 : Cond.classLink RL 98 "java/lang/UnsupportedOperationException" ∈ wsG := (wg2 (i := 109) rfl rfl)
set_option maxRecDepth 100000 in
theorem cl_L_100 : Cond.classLink RL 100 "java/util/NoSuchElementException" ∈ wsG := (wg2 (i := 110) rfl rfl)
set_option maxRecDepth 100000 in
theorem cl_L_102 : Cond.classLink RL 102 "java/lang/ArithmeticException" ∈ wsG := (wg2 (i := 111) rfl rfl)
set_option maxRecDepth 100000 in
theorem ml_L_9 : Cond.methodLink RL 9 yX9_setNumber ∈ wsG := (wg2 (i := 125) rfl rfl)
set_option maxRecDepth 100000 in
theorem ml_X9_23 : Cond.methodLink RX9 23 yX5_isName ∈ wsG := (wg2 (i := 129) rfl rfl)
set_option maxRecDepth 100000 in
theorem ml_X9_29 : Cond.methodLink RX9 29 yX5_isOperation ∈ wsG := (wg2 (i := 132) rfl rfl)
set_option maxRecDepth 100000 in
theorem ml_X9_33 : Cond.methodLink RX9 33 yX5_isTerm ∈ wsG := (wg2 (i := 135) rfl rfl)
set_option maxRecDepth 100000 in
theorem ml_X5_29 : Cond.methodLink RX5 29 yX5_isNamed ∈ wsG := (wg2 (i := 141) rfl rfl)
set_option maxRecDepth 100000 in
theorem cl_X9_36 : Cond.classLink RX9 36 "java/lang/IllegalArgumentException" ∈ wsG := (wg2 (i := 144) rfl rfl)
set_option maxRecDepth 100000 in
theorem ml_X9_53 : Cond.methodLink RX9 53 yX5_wouldNeedItself ∈ wsG := (wg2 (i := 160) rfl rfl)
set_option maxRecDepth 100000 in
theorem ml_X5_32 : Cond.methodLink RX5 32 yX5_needOf ∈ wsG := (wg2 (i := 164) rfl rfl)
set_option maxRecDepth 100000 in
theorem cl_X9_57 : Cond.classLink RX9 57 "java/lang/UnsupportedOperationException" ∈ wsG := (wg2 (i := 167) rfl rfl)
set_option maxRecDepth 100000 in
theorem ml_X9_73 : Cond.methodLink RX9 73 yX5_putFormula ∈ wsG := (wg2 (i := 183) rfl rfl)
set_option maxRecDepth 100000 in
theorem ml_X5_36 : Cond.methodLink RX5 36 yX5_outcome ∈ wsG := (wg2 (i := 187) rfl rfl)
set_option maxRecDepth 100000 in
theorem ml_X5_42 : Cond.methodLink RX5 42 yX5_valueOf ∈ wsG := (wg2 (i := 191) rfl rfl)
set_option maxRecDepth 100000 in
theorem ml_X5_39 : Cond.methodLink RX5 39 yX5_cut ∈ wsG := (wg2 (i := 195) rfl rfl)
set_option maxRecDepth 100000 in
theorem ml_X5_45 : Cond.methodLink RX5 45 yJ9_min_7cf53 ∈ wsG := (wg2 (i := 198) rfl rfl)
set_option maxRecDepth 100000 in
theorem ml_X5_51 : Cond.methodLink RX5 51 yJ9_max_7cf53 ∈ wsG := (wg2 (i := 201) rfl rfl)
set_option maxRecDepth 100000 in
theorem ml_X9_77 : Cond.methodLink RX9 77 yX2_standBehindNeeded ∈ wsG := (wg2 (i := 204) rfl rfl)
set_option maxRecDepth 100000 in
theorem ml_X2_47 : Cond.methodLink RX2 47 yX2_sizeOf ∈ wsG := (wg2 (i := 208) rfl rfl)
set_option maxRecDepth 100000 in
theorem ml_X2_37 : Cond.methodLink RX2 37 yX5_valueOf ∈ wsG := (wg2 (i := 212) rfl rfl)
set_option maxRecDepth 100000 in
theorem ml_X2_60 : Cond.methodLink RX2 60 yX2_findPlace ∈ wsG := (wg2 (i := 213) rfl rfl)
set_option maxRecDepth 100000 in
theorem ml_X9_83 : Cond.methodLink RX9 83 yX3_carryOutChanged ∈ wsG := (wg2 (i := 218) rfl rfl)
set_option maxRecDepth 100000 in
theorem ml_X3_61 : Cond.methodLink RX3 61 yX3_lowestChanged ∈ wsG := (wg2 (i := 222) rfl rfl)
set_option maxRecDepth 100000 in
theorem ml_X3_97 : Cond.methodLink RX3 97 yX3_isAsCarried ∈ wsG := (wg2 (i := 226) rfl rfl)
set_option maxRecDepth 100000 in
theorem ml_X3_101 : Cond.methodLink RX3 101 yX2_sizeOf ∈ wsG := (wg2 (i := 230) rfl rfl)
set_option maxRecDepth 100000 in
theorem ml_X3_68 : Cond.methodLink RX3 68 yX3_readSizes ∈ wsG := (wg2 (i := 231) rfl rfl)
set_option maxRecDepth 100000 in
theorem ml_X3_72 : Cond.methodLink RX3 72 yX3_remember ∈ wsG := (wg2 (i := 235) rfl rfl)
set_option maxRecDepth 100000 in
theorem ml_X3_105 : Cond.methodLink RX3 105 arraycopyName ∈ wsG := (wg2 (i := 239) rfl rfl)
set_option maxRecDepth 100000 in
theorem ml_X3_79 : Cond.methodLink RX3 79 yX0_copyFrom ∈ wsG := (wg3 (i := 2) rfl rfl)
set_option maxRecDepth 100000 in
theorem ml_X0_25 : Cond.methodLink RX0 25 yX1_copyFrom ∈ wsG := (wg3 (i := 6) rfl rfl)
set_option maxRecDepth 100000 in
theorem ml_X1_25 : Cond.methodLink RX1 25 arraycopyName ∈ wsG := (wg3 (i := 10) rfl rfl)
set_option maxRecDepth 100000 in
theorem ml_X0_29 : Cond.methodLink RX0 29 arraycopyName ∈ wsG := (wg3 (i := 11) rfl rfl)
set_option maxRecDepth 100000 in
theorem ml_X3_86 : Cond.methodLink RX3 86 yX8_carryOut ∈ wsG := (wg3 (i := 12) rfl rfl)
set_option maxRecDepth 100000 in
theorem ml_X8_27 : Cond.methodLink RX8 27 yX0_copyFrom ∈ wsG := (wg3 (i := 16) rfl rfl)
set_option maxRecDepth 100000 in
theorem ml_X8_33 : Cond.methodLink RX8 33 yX8_faultOf ∈ wsG := (wg3 (i := 17) rfl rfl)
set_option maxRecDepth 100000 in
theorem ml_X8_48 : Cond.methodLink RX8 48 yX8_isUnfit ∈ wsG := (wg3 (i := 21) rfl rfl)
set_option maxRecDepth 100000 in
theorem ml_X8_52 : Cond.methodLink RX8 52 yX0_choose ∈ wsG := (wg3 (i := 30) rfl rfl)
set_option maxRecDepth 100000 in
theorem ml_X0_22 : Cond.methodLink RX0 22 yX1_clear ∈ wsG := (wg3 (i := 34) rfl rfl)
set_option maxRecDepth 100000 in
theorem ml_X0_35 : Cond.methodLink RX0 35 yX1_squaresAt ∈ wsG := (wg3 (i := 38) rfl rfl)
set_option maxRecDepth 100000 in
theorem ml_X1_33 : Cond.methodLink RX1 33 yX1_besideAt ∈ wsG := (wg3 (i := 42) rfl rfl)
set_option maxRecDepth 100000 in
theorem cn_X1_61 : Cond.constantLong RX1 61 (-72340172838076674) ∈ wsG := (wg3 (i := 46) rfl rfl)
set_option maxRecDepth 100000 in
theorem cn_X1_63 : Cond.constantLong RX1 63 (9187201950435737471) ∈ wsG := (wg3 (i := 47) rfl rfl)
set_option maxRecDepth 100000 in
theorem cn_X1_31 : Cond.constantLong RX1 31 (-1) ∈ wsG := (wg3 (i := 48) rfl rfl)
set_option maxRecDepth 100000 in
theorem ml_X0_41 : Cond.methodLink RX0 41 yX0_indexOf ∈ wsG := (wg3 (i := 49) rfl rfl)
set_option maxRecDepth 100000 in
theorem cn_X0_39 : Cond.constantLong RX0 39 (-1) ∈ wsG := (wg3 (i := 52) rfl rfl)
set_option maxRecDepth 100000 in
theorem ml_X8_56 : Cond.methodLink RX8 56 yX8_countPieces ∈ wsG := (wg3 (i := 53) rfl rfl)
set_option maxRecDepth 100000 in
theorem ml_X8_111 : Cond.methodLink RX8 111 yX1_copyFrom ∈ wsG := (wg3 (i := 57) rfl rfl)
set_option maxRecDepth 100000 in
theorem ml_X8_113 : Cond.methodLink RX8 113 yX1_takeSeedOf ∈ wsG := (wg3 (i := 58) rfl rfl)
set_option maxRecDepth 100000 in
theorem ml_X1_43 : Cond.methodLink RX1 43 yX1_clear ∈ wsG := (wg3 (i := 62) rfl rfl)
set_option maxRecDepth 100000 in
theorem ml_X1_68 : Cond.methodLink RX1 68 yJ13_lowestOneBit_067f4 ∈ wsG := (wg3 (i := 63) rfl rfl)
set_option maxRecDepth 100000 in
theorem ml_X8_117 : Cond.methodLink RX8 117 yX1_growWithin ∈ wsG := (wg3 (i := 66) rfl rfl)
set_option maxRecDepth 100000 in
theorem ml_X8_75 : Cond.methodLink RX8 75 yX1_takeOutAll ∈ wsG := (wg3 (i := 70) rfl rfl)
set_option maxRecDepth 100000 in
theorem ml_X8_40 : Cond.methodLink RX8 40 yX8_reshape ∈ wsG := (wg3 (i := 74) rfl rfl)
set_option maxRecDepth 100000 in
theorem ml_X8_67 : Cond.methodLink RX8 67 yX1_fillBox ∈ wsG := (wg3 (i := 78) rfl rfl)
set_option maxRecDepth 100000 in
theorem ml_X1_46 : Cond.methodLink RX1 46 yJ9_max_7cf53 ∈ wsG := (wg3 (i := 82) rfl rfl)
set_option maxRecDepth 100000 in
theorem ml_X1_51 : Cond.methodLink RX1 51 yX1_put ∈ wsG := (wg3 (i := 83) rfl rfl)
set_option maxRecDepth 100000 in
theorem ml_X1_15 : Cond.methodLink RX1 15 yX1_isInside ∈ wsG := (wg3 (i := 87) rfl rfl)
set_option maxRecDepth 100000 in
theorem ml_X1_19 : Cond.methodLink RX1 19 yX1_bitOf ∈ wsG := (wg3 (i := 90) rfl rfl)
set_option maxRecDepth 100000 in
theorem ml_X8_71 : Cond.methodLink RX8 71 yX1_addAll ∈ wsG := (wg3 (i := 93) rfl rfl)
set_option maxRecDepth 100000 in
theorem ml_X8_78 : Cond.methodLink RX8 78 yX1_keepOnly ∈ wsG := (wg3 (i := 97) rfl rfl)
set_option maxRecDepth 100000 in
theorem ml_X8_81 : Cond.methodLink RX8 81 yX8_mirror ∈ wsG := (wg3 (i := 101) rfl rfl)
set_option maxRecDepth 100000 in
theorem ml_X8_95 : Cond.methodLink RX8 95 yX1_contains ∈ wsG := (wg3 (i := 104) rfl rfl)
set_option maxRecDepth 100000 in
theorem ml_X8_99 : Cond.methodLink RX8 99 yX1_put ∈ wsG := (wg3 (i := 108) rfl rfl)
set_option maxRecDepth 100000 in
theorem ml_X8_85 : Cond.methodLink RX8 85 yX8_repeat ∈ wsG := (wg3 (i := 109) rfl rfl)
set_option maxRecDepth 100000 in
theorem ml_X8_103 : Cond.methodLink RX8 103 yX1_addSlid ∈ wsG := (wg3 (i := 112) rfl rfl)
set_option maxRecDepth 100000 in
theorem ml_X1_55 : Cond.methodLink RX1 55 yX1_slide ∈ wsG := (wg3 (i := 116) rfl rfl)
set_option maxRecDepth 100000 in
theorem cn_X1_59 : Cond.constantLong RX1 59 (72340172838076673) ∈ wsG := (wg3 (i := 119) rfl rfl)
set_option maxRecDepth 100000 in
theorem cn_X1_23 : Cond.constantLong RX1 23 (255) ∈ wsG := (wg3 (i := 120) rfl rfl)
set_option maxRecDepth 100000 in
theorem ml_X8_89 : Cond.methodLink RX8 89 yX1_takeOutInner ∈ wsG := (wg3 (i := 121) rfl rfl)
set_option maxRecDepth 100000 in
theorem ml_X8_92 : Cond.methodLink RX8 92 yX8_push ∈ wsG := (wg3 (i := 125) rfl rfl)
set_option maxRecDepth 100000 in
theorem ml_X8_44 : Cond.methodLink RX8 44 yX0_nameSquares ∈ wsG := (wg3 (i := 129) rfl rfl)
set_option maxRecDepth 100000 in
theorem ml_L_15 : Cond.methodLink RL 15 yX9_number ∈ wsG := (wg3 (i := 133) rfl rfl)
set_option maxRecDepth 100000 in
theorem ml_L_19 : Cond.methodLink RL 19 yX9_addFeature ∈ wsG := (wg3 (i := 138) rfl rfl)
set_option maxRecDepth 100000 in
theorem ml_X9_93 : Cond.methodLink RX9 93 yJ0_indexOf_0f7a4 ∈ wsG := (wg3 (i := 143) rfl rfl)
set_option maxRecDepth 100000 in
theorem ml_X9_99 : Cond.methodLink RX9 99 yX9_areTerms ∈ wsG := (wg3 (i := 225) rfl rfl)
set_option maxRecDepth 100000 in
theorem cl_X9_111 : Cond.classLink RX9 111 "java/lang/IllegalStateException" ∈ wsG := (wg3 (i := 229) rfl rfl)
set_option maxRecDepth 100000 in
theorem ml_X9_116 : Cond.methodLink RX9 116 yX2_isNeededByOther ∈ wsG := (wg4 (i := 5) rfl rfl)
set_option maxRecDepth 100000 in
theorem ml_X9_119 : Cond.methodLink RX9 119 yX2_append ∈ wsG := (wg4 (i := 9) rfl rfl)
set_option maxRecDepth 100000 in
theorem ml_L_23 : Cond.methodLink RL 23 yX9_setSize ∈ wsG := (wg4 (i := 13) rfl rfl)
set_option maxRecDepth 100000 in
theorem ml_X9_123 : Cond.methodLink RX9 123 yX2_findPlace ∈ wsG := (wg4 (i := 17) rfl rfl)
set_option maxRecDepth 100000 in
theorem cl_X9_126 : Cond.classLink RX9 126 "java/util/NoSuchElementException" ∈ wsG := (wg4 (i := 18) rfl rfl)
set_option maxRecDepth 100000 in
theorem ml_X9_133 : Cond.methodLink RX9 133 yX2_putFurther ∈ wsG := (wg4 (i := 35) rfl rfl)
set_option maxRecDepth 100000 in
theorem ml_L_27 : Cond.methodLink RL 27 yX9_remove ∈ wsG := (wg4 (i := 39) rfl rfl)
set_option maxRecDepth 100000 in
theorem ml_X9_139 : Cond.methodLink RX9 139 yX2_takeOutAt ∈ wsG := (wg4 (i := 44) rfl rfl)
set_option maxRecDepth 100000 in
theorem ml_X2_51 : Cond.methodLink RX2 51 yX2_shift ∈ wsG := (wg4 (i := 48) rfl rfl)
set_option maxRecDepth 100000 in
theorem ml_X2_55 : Cond.methodLink RX2 55 yJ9_min_7cf53 ∈ wsG := (wg4 (i := 52) rfl rfl)
set_option maxRecDepth 100000 in
theorem ml_L_30 : Cond.methodLink RL 30 yX9_move ∈ wsG := (wg4 (i := 53) rfl rfl)
set_option maxRecDepth 100000 in
theorem cl_X9_143 : Cond.classLink RX9 143 "java/lang/IndexOutOfBoundsException" ∈ wsG := (wg4 (i := 57) rfl rfl)
set_option maxRecDepth 100000 in
theorem ml_X9_148 : Cond.methodLink RX9 148 yX2_shift ∈ wsG := (wg4 (i := 70) rfl rfl)
set_option maxRecDepth 100000 in
theorem ml_L_34 : Cond.methodLink RL 34 yX9_putOff ∈ wsG := (wg4 (i := 71) rfl rfl)
set_option maxRecDepth 100000 in
theorem ml_L_38 : Cond.methodLink RL 38 yX9_setBar ∈ wsG := (wg4 (i := 75) rfl rfl)
set_option maxRecDepth 100000 in
theorem ml_L_41 : Cond.methodLink RL 41 yX9_place ∈ wsG := (wg4 (i := 79) rfl rfl)
set_option maxRecDepth 100000 in
theorem ml_L_44 : Cond.methodLink RL 44 yX9_state ∈ wsG := (wg4 (i := 83) rfl rfl)
set_option maxRecDepth 100000 in
theorem ml_L_48 : Cond.methodLink RL 48 yX9_has ∈ wsG := (wg4 (i := 87) rfl rfl)
set_option maxRecDepth 100000 in
theorem ml_X9_166 : Cond.methodLink RX9 166 yX1_isInside ∈ wsG := (wg4 (i := 91) rfl rfl)
set_option maxRecDepth 100000 in
theorem ml_X9_173 : Cond.methodLink RX9 173 yX3_body ∈ wsG := (wg4 (i := 93) rfl rfl)
set_option maxRecDepth 100000 in
theorem ml_X9_183 : Cond.methodLink RX9 183 yX1_contains ∈ wsG := (wg4 (i := 97) rfl rfl)
set_option maxRecDepth 100000 in
theorem ml_L_52 : Cond.methodLink RL 52 yX9_hasAnew ∈ wsG := (wg4 (i := 98) rfl rfl)
set_option maxRecDepth 100000 in
theorem ml_X9_186 : Cond.methodLink RX9 186 yX3_bodyFromNothing ∈ wsG := (wg4 (i := 102) rfl rfl)
set_option maxRecDepth 100000 in
theorem ml_X3_111 : Cond.methodLink RX3 111 yX0_clear ∈ wsG := (wg4 (i := 106) rfl rfl)
set_option maxRecDepth 100000 in
theorem ml_L_55 : Cond.methodLink RL 55 yX9_nameOf ∈ wsG := (wg4 (i := 110) rfl rfl)
set_option maxRecDepth 100000 in
theorem ml_X9_189 : Cond.methodLink RX9 189 yX9_isSide ∈ wsG := (wg4 (i := 114) rfl rfl)
set_option maxRecDepth 100000 in
theorem ml_X9_194 : Cond.methodLink RX9 194 yX0_makerOf ∈ wsG := (wg4 (i := 116) rfl rfl)
set_option maxRecDepth 100000 in
theorem ml_X0_48 : Cond.methodLink RX0 48 yX1_bitOf ∈ wsG := (wg4 (i := 120) rfl rfl)
set_option maxRecDepth 100000 in
theorem ml_L_58 : Cond.methodLink RL 58 yX9_squares ∈ wsG := (wg4 (i := 122) rfl rfl)
set_option maxRecDepth 100000 in
theorem ml_X9_202 : Cond.methodLink RX9 202 yX3_countNamed ∈ wsG := (wg4 (i := 127) rfl rfl)
set_option maxRecDepth 100000 in
theorem ml_X3_114 : Cond.methodLink RX3 114 yX3_body ∈ wsG := (wg4 (i := 131) rfl rfl)
set_option maxRecDepth 100000 in
theorem ml_X3_118 : Cond.methodLink RX3 118 yX8_countNamed ∈ wsG := (wg4 (i := 132) rfl rfl)
set_option maxRecDepth 100000 in
theorem ml_X8_107 : Cond.methodLink RX8 107 yX1_count ∈ wsG := (wg4 (i := 136) rfl rfl)
set_option maxRecDepth 100000 in
theorem ml_X1_37 : Cond.methodLink RX1 37 yJ13_bitCount_95d88 ∈ wsG := (wg4 (i := 140) rfl rfl)
set_option maxRecDepth 100000 in
theorem cn_J13_314 : Cond.constantLong RJ13 314 (6148914691236517205) ∈ wsG := (wg4 (i := 143) rfl rfl)
set_option maxRecDepth 100000 in
theorem cn_J13_316 : Cond.constantLong RJ13 316 (3689348814741910323) ∈ wsG := (wg4 (i := 144) rfl rfl)
set_option maxRecDepth 100000 in
theorem cn_J13_318 : Cond.constantLong RJ13 318 (1085102592571150095) ∈ wsG := (wg4 (i := 145) rfl rfl)
set_option maxRecDepth 100000 in
theorem ml_L_61 : Cond.methodLink RL 61 yX9_addPart ∈ wsG := (wg4 (i := 146) rfl rfl)
set_option maxRecDepth 100000 in
theorem ml_X9_236 : Cond.methodLink RX9 236 yX9_isGiven ∈ wsG := (wg4 (i := 150) rfl rfl)
set_option maxRecDepth 100000 in
theorem ml_X9_244 : Cond.methodLink RX9 244 yX6_append ∈ wsG := (wg4 (i := 153) rfl rfl)
set_option maxRecDepth 100000 in
theorem ml_L_65 : Cond.methodLink RL 65 yX9_freeze ∈ wsG := (wg4 (i := 157) rfl rfl)
set_option maxRecDepth 100000 in
theorem ml_X9_246 : Cond.methodLink RX9 246 yX6_isPart ∈ wsG := (wg4 (i := 161) rfl rfl)
set_option maxRecDepth 100000 in
theorem ml_X9_258 : Cond.methodLink RX9 258 yX1_copyFrom ∈ wsG := (wg4 (i := 166) rfl rfl)
set_option maxRecDepth 100000 in
theorem ml_L_68 : Cond.methodLink RL 68 yX9_mate ∈ wsG := (wg4 (i := 167) rfl rfl)
set_option maxRecDepth 100000 in
theorem ml_X9_221 : Cond.methodLink RX9 221 yX9_isAxis ∈ wsG := (wg4 (i := 171) rfl rfl)
set_option maxRecDepth 100000 in
theorem ml_X9_264 : Cond.methodLink RX9 264 yX6_areTied ∈ wsG := (wg4 (i := 173) rfl rfl)
set_option maxRecDepth 100000 in
theorem ml_X6_53 : Cond.methodLink RX6 53 yX6_groupOf ∈ wsG := (wg4 (i := 177) rfl rfl)
set_option maxRecDepth 100000 in
theorem ml_X6_46 : Cond.methodLink RX6 46 yX6_bitOf ∈ wsG := (wg4 (i := 181) rfl rfl)
set_option maxRecDepth 100000 in
theorem ml_X9_274 : Cond.methodLink RX9 274 yX6_tie ∈ wsG := (wg4 (i := 186) rfl rfl)
set_option maxRecDepth 100000 in
theorem ml_X6_56 : Cond.methodLink RX6 56 yX6_apart ∈ wsG := (wg4 (i := 190) rfl rfl)
set_option maxRecDepth 100000 in
theorem ml_X6_42 : Cond.methodLink RX6 42 yX6_moveAlong ∈ wsG := (wg4 (i := 194) rfl rfl)
set_option maxRecDepth 100000 in
theorem ml_X6_60 : Cond.methodLink RX6 60 yX6_areTied ∈ wsG := (wg4 (i := 198) rfl rfl)
set_option maxRecDepth 100000 in
theorem ml_X6_64 : Cond.methodLink RX6 64 yX6_slideGroup ∈ wsG := (wg4 (i := 199) rfl rfl)
set_option maxRecDepth 100000 in
theorem ml_L_71 : Cond.methodLink RL 71 yX9_drag ∈ wsG := (wg4 (i := 203) rfl rfl)
set_option maxRecDepth 100000 in
theorem ml_X9_281 : Cond.methodLink RX9 281 yX6_groupOf ∈ wsG := (wg4 (i := 209) rfl rfl)
set_option maxRecDepth 100000 in
theorem ml_X9_284 : Cond.methodLink RX9 284 yX6_slideGroup ∈ wsG := (wg4 (i := 210) rfl rfl)
set_option maxRecDepth 100000 in
theorem ml_L_74 : Cond.methodLink RL 74 yX9_moved ∈ wsG := (wg4 (i := 211) rfl rfl)
set_option maxRecDepth 100000 in
theorem ml_X9_287 : Cond.methodLink RX9 287 yX6_moveAlong ∈ wsG := (wg4 (i := 216) rfl rfl)
set_option maxRecDepth 100000 in
theorem ml_L_77 : Cond.methodLink RL 77 yX9_clashes ∈ wsG := (wg4 (i := 217) rfl rfl)
set_option maxRecDepth 100000 in
theorem ml_X9_292 : Cond.methodLink RX9 292 yX6_countShared ∈ wsG := (wg4 (i := 222) rfl rfl)
set_option maxRecDepth 100000 in
theorem ml_X6_71 : Cond.methodLink RX6 71 yX1_slide ∈ wsG := (wg4 (i := 226) rfl rfl)
set_option maxRecDepth 100000 in
theorem ml_X6_75 : Cond.methodLink RX6 75 yJ13_bitCount_95d88 ∈ wsG := (wg4 (i := 227) rfl rfl)
set_option maxRecDepth 100000 in
theorem ml_L_80 : Cond.methodLink RL 80 yX9_depth ∈ wsG := (wg4 (i := 228) rfl rfl)
set_option maxRecDepth 100000 in
theorem ml_X9_298 : Cond.methodLink RX9 298 yX7_depthOf ∈ wsG := (wg4 (i := 233) rfl rfl)
set_option maxRecDepth 100000 in
theorem ml_X7_9 : Cond.methodLink RX7 9 yX1_contains ∈ wsG := (wg4 (i := 236) rfl rfl)
set_option maxRecDepth 100000 in
theorem ml_L_84 : Cond.methodLink RL 84 yX9_lines ∈ wsG := (wg4 (i := 237) rfl rfl)
set_option maxRecDepth 100000 in
theorem ml_X9_304 : Cond.methodLink RX9 304 yX7_countLines ∈ wsG := (wg5 (i := 1) rfl rfl)
set_option maxRecDepth 100000 in
theorem ml_X7_15 : Cond.methodLink RX7 15 yX7_depthOf ∈ wsG := (wg5 (i := 4) rfl rfl)
set_option maxRecDepth 100000 in
theorem ml_L_88 : Cond.methodLink RL 88 yX9_centre ∈ wsG := (wg5 (i := 5) rfl rfl)
set_option maxRecDepth 100000 in
theorem ml_X9_206 : Cond.methodLink RX9 206 yX1_count ∈ wsG := (wg5 (i := 9) rfl rfl)
set_option maxRecDepth 100000 in
theorem cl_X9_226 : Cond.classLink RX9 226 "java/lang/ArithmeticException" ∈ wsG := (wg5 (i := 10) rfl rfl)
set_option maxRecDepth 100000 in
theorem ml_X9_231 : Cond.methodLink RX9 231 yX4_sumAlong ∈ wsG := (wg5 (i := 13) rfl rfl)
set_option maxRecDepth 100000 in
theorem ml_X4_29 : Cond.methodLink RX4 29 yX1_contains ∈ wsG := (wg5 (i := 16) rfl rfl)
set_option maxRecDepth 100000 in
theorem ml_L_143 : Cond.methodLink RL 143 yL_state ∈ wsG := (wg5 (i := 17) rfl rfl)
set_option maxRecDepth 100000 in
theorem cn_L_104 : Cond.constantLong RL 104 (173) ∈ wsG := (wg5 (i := 20) rfl rfl)
set_option maxRecDepth 100000 in
theorem cn_L_106 : Cond.constantLong RL 106 (31) ∈ wsG := (wg5 (i := 21) rfl rfl)
set_option maxRecDepth 100000 in
theorem ml_L_114 : Cond.methodLink RL 114 yX9_volume ∈ wsG := (wg5 (i := 22) rfl rfl)
set_option maxRecDepth 100000 in
theorem ml_L_118 : Cond.methodLink RL 118 yX9_area ∈ wsG := (wg5 (i := 26) rfl rfl)
set_option maxRecDepth 100000 in
theorem ml_X9_209 : Cond.methodLink RX9 209 yX1_countSquares ∈ wsG := (wg5 (i := 30) rfl rfl)
set_option maxRecDepth 100000 in
theorem ml_X1_65 : Cond.methodLink RX1 65 yX1_squaresAt ∈ wsG := (wg5 (i := 34) rfl rfl)
set_option maxRecDepth 100000 in
theorem ml_L_153 : Cond.methodLink RL 153 yL_sound ∈ wsG := (wg5 (i := 35) rfl rfl)
set_option maxRecDepth 100000 in
theorem ml_L_128 : Cond.methodLink RL 128 yX9_bodies ∈ wsG := (wg5 (i := 38) rfl rfl)
set_option maxRecDepth 100000 in
theorem ml_X9_212 : Cond.methodLink RX9 212 yX3_countPieces ∈ wsG := (wg5 (i := 42) rfl rfl)
set_option maxRecDepth 100000 in
theorem ml_X3_126 : Cond.methodLink RX3 126 yX8_countPieces ∈ wsG := (wg5 (i := 46) rfl rfl)
set_option maxRecDepth 100000 in
theorem ml_L_131 : Cond.methodLink RL 131 yX9_isSound ∈ wsG := (wg5 (i := 47) rfl rfl)
set_option maxRecDepth 100000 in
theorem ml_X9_308 : Cond.methodLink RX9 308 yX1_isSameAs ∈ wsG := (wg5 (i := 51) rfl rfl)
set_option maxRecDepth 100000 in
theorem ml_X9_312 : Cond.methodLink RX9 312 yX4_isBalanced ∈ wsG := (wg5 (i := 55) rfl rfl)
set_option maxRecDepth 100000 in
theorem ml_X4_9 : Cond.methodLink RX4 9 yX1_countSquares ∈ wsG := (wg5 (i := 58) rfl rfl)
set_option maxRecDepth 100000 in
theorem ml_X9_315 : Cond.methodLink RX9 315 yX6_doMatesFit ∈ wsG := (wg5 (i := 59) rfl rfl)
set_option maxRecDepth 100000 in
theorem ml_L_148 : Cond.methodLink RL 148 yJ0_charAt_5068e ∈ wsG := (wg5 (i := 63) rfl rfl)
set_option maxRecDepth 100000 in
theorem mf_X0_clear : MfV yX0_clear cX0_clear 2 none 0 := ⟨⟨by decide +kernel, by decide +kernel, by decide +kernel⟩, (wg4 (i := 107) rfl rfl), (wg4 (i := 108) rfl rfl), (wg1 (i := 5) rfl rfl), (wg4 (i := 109) rfl rfl)⟩
set_option maxRecDepth 100000 in
theorem mf_X0_copyFrom : MfV yX0_copyFrom cX0_copyFrom 2 none 1 := ⟨⟨by decide +kernel, by decide +kernel, by decide +kernel⟩, (wg3 (i := 3) rfl rfl), (wg3 (i := 4) rfl rfl), (wg1 (i := 5) rfl rfl), (wg3 (i := 5) rfl rfl)⟩
set_option maxRecDepth 100000 in
theorem mf_X0_indexOf : MfS yX0_indexOf cX0_indexOf 3 (some .int) 3 := ⟨⟨by decide +kernel, by decide +kernel, by decide +kernel⟩, (wg3 (i := 50) rfl rfl), (wg1 (i := 5) rfl rfl), (wg3 (i := 51) rfl rfl)⟩
set_option maxRecDepth 100000 in
theorem mf_X0_nameSquares : MfV yX0_nameSquares cX0_nameSquares 13 none 2 := ⟨⟨by decide +kernel, by decide +kernel, by decide +kernel⟩, (wg3 (i := 130) rfl rfl), (wg3 (i := 131) rfl rfl), (wg1 (i := 5) rfl rfl), (wg3 (i := 132) rfl rfl)⟩
set_option maxRecDepth 100000 in
theorem mf_X0_choose : MfV yX0_choose cX0_choose 10 none 3 := ⟨⟨by decide +kernel, by decide +kernel, by decide +kernel⟩, (wg3 (i := 31) rfl rfl), (wg3 (i := 32) rfl rfl), (wg1 (i := 5) rfl rfl), (wg3 (i := 33) rfl rfl)⟩
set_option maxRecDepth 100000 in
theorem mf_X0_makerOf : MfV yX0_makerOf cX0_makerOf 8 (some .int) 4 := ⟨⟨by decide +kernel, by decide +kernel, by decide +kernel⟩, (wg4 (i := 117) rfl rfl), (wg4 (i := 118) rfl rfl), (wg1 (i := 5) rfl rfl), (wg4 (i := 119) rfl rfl)⟩
set_option maxRecDepth 100000 in
theorem mf_X1_isInside : MfS yX1_isInside cX1_isInside 3 (some .boolean) 3 := ⟨⟨by decide +kernel, by decide +kernel, by decide +kernel⟩, (wg3 (i := 88) rfl rfl), (wg1 (i := 6) rfl rfl), (wg3 (i := 89) rfl rfl)⟩
set_option maxRecDepth 100000 in
theorem mf_X1_bitOf : MfS yX1_bitOf cX1_bitOf 2 (some .int) 2 := ⟨⟨by decide +kernel, by decide +kernel, by decide +kernel⟩, (wg3 (i := 91) rfl rfl), (wg1 (i := 6) rfl rfl), (wg3 (i := 92) rfl rfl)⟩
set_option maxRecDepth 100000 in
theorem mf_X1_contains : MfV yX1_contains cX1_contains 4 (some .boolean) 3 := ⟨⟨by decide +kernel, by decide +kernel, by decide +kernel⟩, (wg3 (i := 105) rfl rfl), (wg3 (i := 106) rfl rfl), (wg1 (i := 6) rfl rfl), (wg3 (i := 107) rfl rfl)⟩
set_option maxRecDepth 100000 in
theorem mf_X1_put : MfV yX1_put cX1_put 4 none 3 := ⟨⟨by decide +kernel, by decide +kernel, by decide +kernel⟩, (wg3 (i := 84) rfl rfl), (wg3 (i := 85) rfl rfl), (wg1 (i := 6) rfl rfl), (wg3 (i := 86) rfl rfl)⟩
set_option maxRecDepth 100000 in
theorem mf_X1_clear : MfV yX1_clear cX1_clear 2 none 0 := ⟨⟨by decide +kernel, by decide +kernel, by decide +kernel⟩, (wg3 (i := 35) rfl rfl), (wg3 (i := 36) rfl rfl), (wg1 (i := 6) rfl rfl), (wg3 (i := 37) rfl rfl)⟩
set_option maxRecDepth 100000 in
theorem mf_X1_copyFrom : MfV yX1_copyFrom cX1_copyFrom 2 none 1 := ⟨⟨by decide +kernel, by decide +kernel, by decide +kernel⟩, (wg3 (i := 7) rfl rfl), (wg3 (i := 8) rfl rfl), (wg1 (i := 6) rfl rfl), (wg3 (i := 9) rfl rfl)⟩
set_option maxRecDepth 100000 in
theorem mf_X1_addAll : MfV yX1_addAll cX1_addAll 3 none 1 := ⟨⟨by decide +kernel, by decide +kernel, by decide +kernel⟩, (wg3 (i := 94) rfl rfl), (wg3 (i := 95) rfl rfl), (wg1 (i := 6) rfl rfl), (wg3 (i := 96) rfl rfl)⟩
set_option maxRecDepth 100000 in
theorem mf_X1_takeOutAll : MfV yX1_takeOutAll cX1_takeOutAll 3 none 1 := ⟨⟨by decide +kernel, by decide +kernel, by decide +kernel⟩, (wg3 (i := 71) rfl rfl), (wg3 (i := 72) rfl rfl), (wg1 (i := 6) rfl rfl), (wg3 (i := 73) rfl rfl)⟩
set_option maxRecDepth 100000 in
theorem mf_X1_keepOnly : MfV yX1_keepOnly cX1_keepOnly 3 none 1 := ⟨⟨by decide +kernel, by decide +kernel, by decide +kernel⟩, (wg3 (i := 98) rfl rfl), (wg3 (i := 99) rfl rfl), (wg1 (i := 6) rfl rfl), (wg3 (i := 100) rfl rfl)⟩
set_option maxRecDepth 100000 in
theorem mf_X1_takeOutInner : MfV yX1_takeOutInner cX1_takeOutInner 6 none 1 := ⟨⟨by decide +kernel, by decide +kernel, by decide +kernel⟩, (wg3 (i := 122) rfl rfl), (wg3 (i := 123) rfl rfl), (wg1 (i := 6) rfl rfl), (wg3 (i := 124) rfl rfl)⟩
set_option maxRecDepth 100000 in
theorem mf_X1_isSameAs : MfV yX1_isSameAs cX1_isSameAs 3 (some .boolean) 1 := ⟨⟨by decide +kernel, by decide +kernel, by decide +kernel⟩, (wg5 (i := 52) rfl rfl), (wg5 (i := 53) rfl rfl), (wg1 (i := 6) rfl rfl), (wg5 (i := 54) rfl rfl)⟩
set_option maxRecDepth 100000 in
theorem mf_X1_count : MfV yX1_count cX1_count 3 (some .int) 0 := ⟨⟨by decide +kernel, by decide +kernel, by decide +kernel⟩, (wg4 (i := 137) rfl rfl), (wg4 (i := 138) rfl rfl), (wg1 (i := 6) rfl rfl), (wg4 (i := 139) rfl rfl)⟩
set_option maxRecDepth 100000 in
theorem mf_X1_fillBox : MfV yX1_fillBox cX1_fillBox 5 none 1 := ⟨⟨by decide +kernel, by decide +kernel, by decide +kernel⟩, (wg3 (i := 79) rfl rfl), (wg3 (i := 80) rfl rfl), (wg1 (i := 6) rfl rfl), (wg3 (i := 81) rfl rfl)⟩
set_option maxRecDepth 100000 in
theorem mf_X1_addSlid : MfV yX1_addSlid cX1_addSlid 7 none 4 := ⟨⟨by decide +kernel, by decide +kernel, by decide +kernel⟩, (wg3 (i := 113) rfl rfl), (wg3 (i := 114) rfl rfl), (wg1 (i := 6) rfl rfl), (wg3 (i := 115) rfl rfl)⟩
set_option maxRecDepth 100000 in
theorem mf_X1_slide : MfS yX1_slide cX1_slide 6 (some .long) 3 := ⟨⟨by decide +kernel, by decide +kernel, by decide +kernel⟩, (wg3 (i := 117) rfl rfl), (wg1 (i := 6) rfl rfl), (wg3 (i := 118) rfl rfl)⟩
set_option maxRecDepth 100000 in
theorem mf_X1_besideAt : MfV yX1_besideAt cX1_besideAt 4 (some .long) 2 := ⟨⟨by decide +kernel, by decide +kernel, by decide +kernel⟩, (wg3 (i := 43) rfl rfl), (wg3 (i := 44) rfl rfl), (wg1 (i := 6) rfl rfl), (wg3 (i := 45) rfl rfl)⟩
set_option maxRecDepth 100000 in
theorem mf_X1_squaresAt : MfV yX1_squaresAt cX1_squaresAt 3 (some .long) 2 := ⟨⟨by decide +kernel, by decide +kernel, by decide +kernel⟩, (wg3 (i := 39) rfl rfl), (wg3 (i := 40) rfl rfl), (wg1 (i := 6) rfl rfl), (wg3 (i := 41) rfl rfl)⟩
set_option maxRecDepth 100000 in
theorem mf_X1_countSquares : MfV yX1_countSquares cX1_countSquares 4 (some .int) 1 := ⟨⟨by decide +kernel, by decide +kernel, by decide +kernel⟩, (wg5 (i := 31) rfl rfl), (wg5 (i := 32) rfl rfl), (wg1 (i := 6) rfl rfl), (wg5 (i := 33) rfl rfl)⟩
set_option maxRecDepth 100000 in
theorem mf_X1_takeSeedOf : MfV yX1_takeSeedOf cX1_takeSeedOf 3 (some .boolean) 1 := ⟨⟨by decide +kernel, by decide +kernel, by decide +kernel⟩, (wg3 (i := 59) rfl rfl), (wg3 (i := 60) rfl rfl), (wg1 (i := 6) rfl rfl), (wg3 (i := 61) rfl rfl)⟩
set_option maxRecDepth 100000 in
theorem mf_X1_growWithin : MfV yX1_growWithin cX1_growWithin 7 (some .boolean) 1 := ⟨⟨by decide +kernel, by decide +kernel, by decide +kernel⟩, (wg3 (i := 67) rfl rfl), (wg3 (i := 68) rfl rfl), (wg1 (i := 6) rfl rfl), (wg3 (i := 69) rfl rfl)⟩
set_option maxRecDepth 100000 in
theorem mf_X2_findPlace : MfV yX2_findPlace cX2_findPlace 3 (some .int) 1 := ⟨⟨by decide +kernel, by decide +kernel, by decide +kernel⟩, (wg2 (i := 214) rfl rfl), (wg2 (i := 215) rfl rfl), (wg1 (i := 3) rfl rfl), (wg2 (i := 216) rfl rfl)⟩
set_option maxRecDepth 100000 in
theorem mf_X2_sizeOf : MfV yX2_sizeOf cX2_sizeOf 3 (some .int) 2 := ⟨⟨by decide +kernel, by decide +kernel, by decide +kernel⟩, (wg2 (i := 209) rfl rfl), (wg2 (i := 210) rfl rfl), (wg1 (i := 3) rfl rfl), (wg2 (i := 211) rfl rfl)⟩
set_option maxRecDepth 100000 in
theorem mf_X2_append : MfV yX2_append cX2_append 8 (some .int) 4 := ⟨⟨by decide +kernel, by decide +kernel, by decide +kernel⟩, (wg4 (i := 10) rfl rfl), (wg4 (i := 11) rfl rfl), (wg1 (i := 3) rfl rfl), (wg4 (i := 12) rfl rfl)⟩
set_option maxRecDepth 100000 in
theorem mf_X2_putFurther : MfV yX2_putFurther cX2_putFurther 5 (some .int) 3 := ⟨⟨by decide +kernel, by decide +kernel, by decide +kernel⟩, (wg4 (i := 36) rfl rfl), (wg4 (i := 37) rfl rfl), (wg1 (i := 3) rfl rfl), (wg4 (i := 38) rfl rfl)⟩
set_option maxRecDepth 100000 in
theorem mf_X2_takeOutAt : MfV yX2_takeOutAt cX2_takeOutAt 2 none 1 := ⟨⟨by decide +kernel, by decide +kernel, by decide +kernel⟩, (wg4 (i := 45) rfl rfl), (wg4 (i := 46) rfl rfl), (wg1 (i := 3) rfl rfl), (wg4 (i := 47) rfl rfl)⟩
set_option maxRecDepth 100000 in
theorem mf_X2_shift : MfV yX2_shift cX2_shift 5 none 2 := ⟨⟨by decide +kernel, by decide +kernel, by decide +kernel⟩, (wg4 (i := 49) rfl rfl), (wg4 (i := 50) rfl rfl), (wg1 (i := 3) rfl rfl), (wg4 (i := 51) rfl rfl)⟩
set_option maxRecDepth 100000 in
theorem mf_X2_isNeededByOther : MfV yX2_isNeededByOther cX2_isNeededByOther 4 (some .boolean) 1 := ⟨⟨by decide +kernel, by decide +kernel, by decide +kernel⟩, (wg4 (i := 6) rfl rfl), (wg4 (i := 7) rfl rfl), (wg1 (i := 3) rfl rfl), (wg4 (i := 8) rfl rfl)⟩
set_option maxRecDepth 100000 in
theorem mf_X2_standBehindNeeded : MfV yX2_standBehindNeeded cX2_standBehindNeeded 3 (some .boolean) 0 := ⟨⟨by decide +kernel, by decide +kernel, by decide +kernel⟩, (wg2 (i := 205) rfl rfl), (wg2 (i := 206) rfl rfl), (wg1 (i := 3) rfl rfl), (wg2 (i := 207) rfl rfl)⟩
set_option maxRecDepth 100000 in
theorem mf_X3_body : MfV yX3_body cX3_body 1 (some (.object "Solidhearth$Body")) 0 := ⟨⟨by decide +kernel, by decide +kernel, by decide +kernel⟩, (wg4 (i := 94) rfl rfl), (wg4 (i := 95) rfl rfl), (wg1 (i := 2) rfl rfl), (wg4 (i := 96) rfl rfl)⟩
set_option maxRecDepth 100000 in
theorem mf_X3_carryOutChanged : MfV yX3_carryOutChanged cX3_carryOutChanged 3 none 0 := ⟨⟨by decide +kernel, by decide +kernel, by decide +kernel⟩, (wg2 (i := 219) rfl rfl), (wg2 (i := 220) rfl rfl), (wg1 (i := 2) rfl rfl), (wg2 (i := 221) rfl rfl)⟩
set_option maxRecDepth 100000 in
theorem mf_X3_lowestChanged : MfV yX3_lowestChanged cX3_lowestChanged 2 (some .int) 0 := ⟨⟨by decide +kernel, by decide +kernel, by decide +kernel⟩, (wg2 (i := 224) rfl rfl), (wgs (i := 2) rfl rfl), (wg1 (i := 2) rfl rfl), (wg2 (i := 225) rfl rfl)⟩
set_option maxRecDepth 100000 in
theorem mf_X3_isAsCarried : MfV yX3_isAsCarried cX3_isAsCarried 4 (some .boolean) 2 := ⟨⟨by decide +kernel, by decide +kernel, by decide +kernel⟩, (wg2 (i := 228) rfl rfl), (wgs (i := 3) rfl rfl), (wg1 (i := 2) rfl rfl), (wg2 (i := 229) rfl rfl)⟩
set_option maxRecDepth 100000 in
theorem mf_X3_remember : MfV yX3_remember cX3_remember 3 none 2 := ⟨⟨by decide +kernel, by decide +kernel, by decide +kernel⟩, (wg2 (i := 237) rfl rfl), (wgs (i := 5) rfl rfl), (wg1 (i := 2) rfl rfl), (wg2 (i := 238) rfl rfl)⟩
set_option maxRecDepth 100000 in
theorem mf_X3_readSizes : MfV yX3_readSizes cX3_readSizes 3 none 1 := ⟨⟨by decide +kernel, by decide +kernel, by decide +kernel⟩, (wg2 (i := 233) rfl rfl), (wgs (i := 4) rfl rfl), (wg1 (i := 2) rfl rfl), (wg2 (i := 234) rfl rfl)⟩
set_option maxRecDepth 100000 in
theorem mf_X3_bodyFromNothing : MfV yX3_bodyFromNothing cX3_bodyFromNothing 3 (some (.object "Solidhearth$Body")) 0 := ⟨⟨by decide +kernel, by decide +kernel, by decide +kernel⟩, (wg4 (i := 103) rfl rfl), (wg4 (i := 104) rfl rfl), (wg1 (i := 2) rfl rfl), (wg4 (i := 105) rfl rfl)⟩
set_option maxRecDepth 100000 in
theorem mf_X3_countNamed : MfV yX3_countNamed cX3_countNamed 3 (some .int) 2 := ⟨⟨by decide +kernel, by decide +kernel, by decide +kernel⟩, (wg4 (i := 128) rfl rfl), (wg4 (i := 129) rfl rfl), (wg1 (i := 2) rfl rfl), (wg4 (i := 130) rfl rfl)⟩
set_option maxRecDepth 100000 in
theorem mf_X3_countPieces : MfV yX3_countPieces cX3_countPieces 1 (some .int) 0 := ⟨⟨by decide +kernel, by decide +kernel, by decide +kernel⟩, (wg5 (i := 43) rfl rfl), (wg5 (i := 44) rfl rfl), (wg1 (i := 2) rfl rfl), (wg5 (i := 45) rfl rfl)⟩
set_option maxRecDepth 100000 in
theorem mf_X4_isBalanced : MfS yX4_isBalanced cX4_isBalanced 2 (some .boolean) 1 := ⟨⟨by decide +kernel, by decide +kernel, by decide +kernel⟩, (wg5 (i := 56) rfl rfl), (wg1 (i := 28) rfl rfl), (wg5 (i := 57) rfl rfl)⟩
set_option maxRecDepth 100000 in
theorem mf_X4_sumAlong : MfS yX4_sumAlong cX4_sumAlong 6 (some .int) 2 := ⟨⟨by decide +kernel, by decide +kernel, by decide +kernel⟩, (wg5 (i := 14) rfl rfl), (wg1 (i := 28) rfl rfl), (wg5 (i := 15) rfl rfl)⟩
set_option maxRecDepth 100000 in
theorem mf_X5_isName : MfS yX5_isName cX5_isName 1 (some .boolean) 1 := ⟨⟨by decide +kernel, by decide +kernel, by decide +kernel⟩, (wg2 (i := 130) rfl rfl), (wg1 (i := 4) rfl rfl), (wg2 (i := 131) rfl rfl)⟩
set_option maxRecDepth 100000 in
theorem mf_X5_isNamed : MfS yX5_isNamed cX5_isNamed 1 (some .boolean) 1 := ⟨⟨by decide +kernel, by decide +kernel, by decide +kernel⟩, (wg2 (i := 142) rfl rfl), (wg1 (i := 4) rfl rfl), (wg2 (i := 143) rfl rfl)⟩
set_option maxRecDepth 100000 in
theorem mf_X5_isTerm : MfS yX5_isTerm cX5_isTerm 1 (some .boolean) 1 := ⟨⟨by decide +kernel, by decide +kernel, by decide +kernel⟩, (wg2 (i := 136) rfl rfl), (wg1 (i := 4) rfl rfl), (wg2 (i := 137) rfl rfl)⟩
set_option maxRecDepth 100000 in
theorem mf_X5_isOperation : MfS yX5_isOperation cX5_isOperation 1 (some .boolean) 1 := ⟨⟨by decide +kernel, by decide +kernel, by decide +kernel⟩, (wg2 (i := 133) rfl rfl), (wg1 (i := 4) rfl rfl), (wg2 (i := 134) rfl rfl)⟩
set_option maxRecDepth 100000 in
theorem mf_X5_valueOf : MfV yX5_valueOf cX5_valueOf 2 (some .int) 1 := ⟨⟨by decide +kernel, by decide +kernel, by decide +kernel⟩, (wg2 (i := 192) rfl rfl), (wg2 (i := 193) rfl rfl), (wg1 (i := 4) rfl rfl), (wg2 (i := 194) rfl rfl)⟩
set_option maxRecDepth 100000 in
theorem mf_X5_wouldNeedItself : MfV yX5_wouldNeedItself cX5_wouldNeedItself 7 (some .boolean) 3 := ⟨⟨by decide +kernel, by decide +kernel, by decide +kernel⟩, (wg2 (i := 161) rfl rfl), (wg2 (i := 162) rfl rfl), (wg1 (i := 4) rfl rfl), (wg2 (i := 163) rfl rfl)⟩
set_option maxRecDepth 100000 in
theorem mf_X5_needOf : MfS yX5_needOf cX5_needOf 1 (some .int) 1 := ⟨⟨by decide +kernel, by decide +kernel, by decide +kernel⟩, (wg2 (i := 165) rfl rfl), (wg1 (i := 4) rfl rfl), (wg2 (i := 166) rfl rfl)⟩
set_option maxRecDepth 100000 in
theorem mf_X5_putFormula : MfV yX5_putFormula cX5_putFormula 7 none 4 := ⟨⟨by decide +kernel, by decide +kernel, by decide +kernel⟩, (wg2 (i := 184) rfl rfl), (wg2 (i := 185) rfl rfl), (wg1 (i := 4) rfl rfl), (wg2 (i := 186) rfl rfl)⟩
set_option maxRecDepth 100000 in
theorem mf_X5_outcome : MfV yX5_outcome cX5_outcome 4 (some .int) 1 := ⟨⟨by decide +kernel, by decide +kernel, by decide +kernel⟩, (wg2 (i := 189) rfl rfl), (wgs (i := 1) rfl rfl), (wg1 (i := 4) rfl rfl), (wg2 (i := 190) rfl rfl)⟩
set_option maxRecDepth 100000 in
theorem mf_X5_cut : MfS yX5_cut cX5_cut 1 (some .int) 1 := ⟨⟨by decide +kernel, by decide +kernel, by decide +kernel⟩, (wg2 (i := 196) rfl rfl), (wg1 (i := 4) rfl rfl), (wg2 (i := 197) rfl rfl)⟩
set_option maxRecDepth 100000 in
theorem mf_X6_isPart : MfV yX6_isPart cX6_isPart 2 (some .boolean) 1 := ⟨⟨by decide +kernel, by decide +kernel, by decide +kernel⟩, (wg4 (i := 162) rfl rfl), (wg4 (i := 163) rfl rfl), (wg1 (i := 8) rfl rfl), (wg4 (i := 164) rfl rfl)⟩
set_option maxRecDepth 100000 in
theorem mf_X6_append : MfV yX6_append cX6_append 5 (some .int) 3 := ⟨⟨by decide +kernel, by decide +kernel, by decide +kernel⟩, (wg4 (i := 154) rfl rfl), (wg4 (i := 155) rfl rfl), (wg1 (i := 8) rfl rfl), (wg4 (i := 156) rfl rfl)⟩
set_option maxRecDepth 100000 in
theorem mf_X6_moveAlong : MfV yX6_moveAlong cX6_moveAlong 3 (some .int) 2 := ⟨⟨by decide +kernel, by decide +kernel, by decide +kernel⟩, (wg4 (i := 195) rfl rfl), (wg4 (i := 196) rfl rfl), (wg1 (i := 8) rfl rfl), (wg4 (i := 197) rfl rfl)⟩
set_option maxRecDepth 100000 in
theorem mf_X6_apart : MfV yX6_apart cX6_apart 4 (some .int) 3 := ⟨⟨by decide +kernel, by decide +kernel, by decide +kernel⟩, (wg4 (i := 192) rfl rfl), (wgs (i := 9) rfl rfl), (wg1 (i := 8) rfl rfl), (wg4 (i := 193) rfl rfl)⟩
set_option maxRecDepth 100000 in
theorem mf_X6_bitOf : MfS yX6_bitOf cX6_bitOf 1 (some .int) 1 := ⟨⟨by decide +kernel, by decide +kernel, by decide +kernel⟩, (wg4 (i := 182) rfl rfl), (wg1 (i := 8) rfl rfl), (wg4 (i := 183) rfl rfl)⟩
set_option maxRecDepth 100000 in
theorem mf_X6_groupOf : MfV yX6_groupOf cX6_groupOf 7 (some .int) 2 := ⟨⟨by decide +kernel, by decide +kernel, by decide +kernel⟩, (wg4 (i := 178) rfl rfl), (wg4 (i := 179) rfl rfl), (wg1 (i := 8) rfl rfl), (wg4 (i := 180) rfl rfl)⟩
set_option maxRecDepth 100000 in
theorem mf_X6_areTied : MfV yX6_areTied cX6_areTied 4 (some .boolean) 3 := ⟨⟨by decide +kernel, by decide +kernel, by decide +kernel⟩, (wg4 (i := 174) rfl rfl), (wg4 (i := 175) rfl rfl), (wg1 (i := 8) rfl rfl), (wg4 (i := 176) rfl rfl)⟩
set_option maxRecDepth 100000 in
theorem mf_X6_slideGroup : MfV yX6_slideGroup cX6_slideGroup 6 (some .int) 3 := ⟨⟨by decide +kernel, by decide +kernel, by decide +kernel⟩, (wg4 (i := 200) rfl rfl), (wg4 (i := 201) rfl rfl), (wg1 (i := 8) rfl rfl), (wg4 (i := 202) rfl rfl)⟩
set_option maxRecDepth 100000 in
theorem mf_X6_tie : MfV yX6_tie cX6_tie 9 (some .int) 4 := ⟨⟨by decide +kernel, by decide +kernel, by decide +kernel⟩, (wg4 (i := 187) rfl rfl), (wg4 (i := 188) rfl rfl), (wg1 (i := 8) rfl rfl), (wg4 (i := 189) rfl rfl)⟩
set_option maxRecDepth 100000 in
theorem mf_X6_doMatesFit : MfV yX6_doMatesFit cX6_doMatesFit 3 (some .boolean) 0 := ⟨⟨by decide +kernel, by decide +kernel, by decide +kernel⟩, (wg5 (i := 60) rfl rfl), (wg5 (i := 61) rfl rfl), (wg1 (i := 8) rfl rfl), (wg5 (i := 62) rfl rfl)⟩
set_option maxRecDepth 100000 in
theorem mf_X6_countShared : MfV yX6_countShared cX6_countShared 12 (some .int) 3 := ⟨⟨by decide +kernel, by decide +kernel, by decide +kernel⟩, (wg4 (i := 223) rfl rfl), (wg4 (i := 224) rfl rfl), (wg1 (i := 8) rfl rfl), (wg4 (i := 225) rfl rfl)⟩
set_option maxRecDepth 100000 in
theorem mf_X7_depthOf : MfS yX7_depthOf cX7_depthOf 10 (some .int) 5 := ⟨⟨by decide +kernel, by decide +kernel, by decide +kernel⟩, (wg4 (i := 234) rfl rfl), (wg1 (i := 27) rfl rfl), (wg4 (i := 235) rfl rfl)⟩
set_option maxRecDepth 100000 in
theorem mf_X7_countLines : MfS yX7_countLines cX7_countLines 7 (some .int) 3 := ⟨⟨by decide +kernel, by decide +kernel, by decide +kernel⟩, (wg5 (i := 2) rfl rfl), (wg1 (i := 27) rfl rfl), (wg5 (i := 3) rfl rfl)⟩
set_option maxRecDepth 100000 in
theorem mf_X8_carryOut : MfV yX8_carryOut cX8_carryOut 7 (some .char) 5 := ⟨⟨by decide +kernel, by decide +kernel, by decide +kernel⟩, (wg3 (i := 13) rfl rfl), (wg3 (i := 14) rfl rfl), (wg1 (i := 7) rfl rfl), (wg3 (i := 15) rfl rfl)⟩
set_option maxRecDepth 100000 in
theorem mf_X8_faultOf : MfV yX8_faultOf cX8_faultOf 5 (some .char) 3 := ⟨⟨by decide +kernel, by decide +kernel, by decide +kernel⟩, (wg3 (i := 19) rfl rfl), (wgs (i := 6) rfl rfl), (wg1 (i := 7) rfl rfl), (wg3 (i := 20) rfl rfl)⟩
set_option maxRecDepth 100000 in
theorem mf_X8_isUnfit : MfS yX8_isUnfit cX8_isUnfit 2 (some .boolean) 2 := ⟨⟨by decide +kernel, by decide +kernel, by decide +kernel⟩, (wg3 (i := 22) rfl rfl), (wg1 (i := 7) rfl rfl), (wg3 (i := 23) rfl rfl)⟩
set_option maxRecDepth 100000 in
theorem mf_X8_reshape : MfV yX8_reshape cX8_reshape 5 none 4 := ⟨⟨by decide +kernel, by decide +kernel, by decide +kernel⟩, (wg3 (i := 76) rfl rfl), (wgs (i := 7) rfl rfl), (wg1 (i := 7) rfl rfl), (wg3 (i := 77) rfl rfl)⟩
set_option maxRecDepth 100000 in
theorem mf_X8_mirror : MfS yX8_mirror cX8_mirror 7 none 4 := ⟨⟨by decide +kernel, by decide +kernel, by decide +kernel⟩, (wg3 (i := 102) rfl rfl), (wg1 (i := 7) rfl rfl), (wg3 (i := 103) rfl rfl)⟩
set_option maxRecDepth 100000 in
theorem mf_X8_repeat : MfS yX8_repeat cX8_repeat 4 none 3 := ⟨⟨by decide +kernel, by decide +kernel, by decide +kernel⟩, (wg3 (i := 110) rfl rfl), (wg1 (i := 7) rfl rfl), (wg3 (i := 111) rfl rfl)⟩
set_option maxRecDepth 100000 in
theorem mf_X8_push : MfV yX8_push cX8_push 8 none 3 := ⟨⟨by decide +kernel, by decide +kernel, by decide +kernel⟩, (wg3 (i := 127) rfl rfl), (wgs (i := 8) rfl rfl), (wg1 (i := 7) rfl rfl), (wg3 (i := 128) rfl rfl)⟩
set_option maxRecDepth 100000 in
theorem mf_X8_countNamed : MfV yX8_countNamed cX8_countNamed 4 (some .int) 3 := ⟨⟨by decide +kernel, by decide +kernel, by decide +kernel⟩, (wg4 (i := 133) rfl rfl), (wg4 (i := 134) rfl rfl), (wg1 (i := 7) rfl rfl), (wg4 (i := 135) rfl rfl)⟩
set_option maxRecDepth 100000 in
theorem mf_X8_countPieces : MfV yX8_countPieces cX8_countPieces 5 (some .int) 1 := ⟨⟨by decide +kernel, by decide +kernel, by decide +kernel⟩, (wg3 (i := 54) rfl rfl), (wg3 (i := 55) rfl rfl), (wg1 (i := 7) rfl rfl), (wg3 (i := 56) rfl rfl)⟩
set_option maxRecDepth 100000 in
theorem mf_X9_setNumber : MfV yX9_setNumber cX9_setNumber 9 (some .int) 4 := ⟨⟨by decide +kernel, by decide +kernel, by decide +kernel⟩, (wg2 (i := 126) rfl rfl), (wg2 (i := 127) rfl rfl), (wg1 (i := 1) rfl rfl), (wg2 (i := 128) rfl rfl)⟩
set_option maxRecDepth 100000 in
theorem mf_X9_number : MfV yX9_number cX9_number 2 (some .int) 1 := ⟨⟨by decide +kernel, by decide +kernel, by decide +kernel⟩, (wg3 (i := 134) rfl rfl), (wg3 (i := 135) rfl rfl), (wg1 (i := 1) rfl rfl), (wg3 (i := 136) rfl rfl)⟩
set_option maxRecDepth 100000 in
theorem mf_X9_addFeature : MfV yX9_addFeature cX9_addFeature 7 (some .int) 4 := ⟨⟨by decide +kernel, by decide +kernel, by decide +kernel⟩, (wg3 (i := 139) rfl rfl), (wg3 (i := 140) rfl rfl), (wg1 (i := 1) rfl rfl), (wg3 (i := 141) rfl rfl)⟩
set_option maxRecDepth 100000 in
theorem mf_X9_setSize : MfV yX9_setSize cX9_setSize 7 (some .int) 4 := ⟨⟨by decide +kernel, by decide +kernel, by decide +kernel⟩, (wg4 (i := 14) rfl rfl), (wg4 (i := 15) rfl rfl), (wg1 (i := 1) rfl rfl), (wg4 (i := 16) rfl rfl)⟩
set_option maxRecDepth 100000 in
theorem mf_X9_remove : MfV yX9_remove cX9_remove 4 (some .int) 1 := ⟨⟨by decide +kernel, by decide +kernel, by decide +kernel⟩, (wg4 (i := 40) rfl rfl), (wg4 (i := 41) rfl rfl), (wg1 (i := 1) rfl rfl), (wg4 (i := 42) rfl rfl)⟩
set_option maxRecDepth 100000 in
theorem mf_X9_move : MfV yX9_move cX9_move 5 (some .int) 2 := ⟨⟨by decide +kernel, by decide +kernel, by decide +kernel⟩, (wg4 (i := 54) rfl rfl), (wg4 (i := 55) rfl rfl), (wg1 (i := 1) rfl rfl), (wg4 (i := 56) rfl rfl)⟩
set_option maxRecDepth 100000 in
theorem mf_X9_putOff : MfV yX9_putOff cX9_putOff 5 (some .boolean) 2 := ⟨⟨by decide +kernel, by decide +kernel, by decide +kernel⟩, (wg4 (i := 72) rfl rfl), (wg4 (i := 73) rfl rfl), (wg1 (i := 1) rfl rfl), (wg4 (i := 74) rfl rfl)⟩
set_option maxRecDepth 100000 in
theorem mf_X9_setBar : MfV yX9_setBar cX9_setBar 4 (some .int) 1 := ⟨⟨by decide +kernel, by decide +kernel, by decide +kernel⟩, (wg4 (i := 76) rfl rfl), (wg4 (i := 77) rfl rfl), (wg1 (i := 1) rfl rfl), (wg4 (i := 78) rfl rfl)⟩
set_option maxRecDepth 100000 in
theorem mf_X9_place : MfV yX9_place cX9_place 3 (some .int) 1 := ⟨⟨by decide +kernel, by decide +kernel, by decide +kernel⟩, (wg4 (i := 80) rfl rfl), (wg4 (i := 81) rfl rfl), (wg1 (i := 1) rfl rfl), (wg4 (i := 82) rfl rfl)⟩
set_option maxRecDepth 100000 in
theorem mf_X9_state : MfV yX9_state cX9_state 4 (some .char) 1 := ⟨⟨by decide +kernel, by decide +kernel, by decide +kernel⟩, (wg4 (i := 84) rfl rfl), (wg4 (i := 85) rfl rfl), (wg1 (i := 1) rfl rfl), (wg4 (i := 86) rfl rfl)⟩
set_option maxRecDepth 100000 in
theorem mf_X9_worked : MfV yX9_worked cX9_worked 1 (some .long) 0 := ⟨⟨by decide +kernel, by decide +kernel, by decide +kernel⟩, (wg2 (i := 9) rfl rfl), (wg2 (i := 10) rfl rfl), (wg1 (i := 1) rfl rfl), (wg2 (i := 11) rfl rfl)⟩
set_option maxRecDepth 100000 in
theorem mf_X9_has : MfV yX9_has cX9_has 4 (some .boolean) 3 := ⟨⟨by decide +kernel, by decide +kernel, by decide +kernel⟩, (wg4 (i := 88) rfl rfl), (wg4 (i := 89) rfl rfl), (wg1 (i := 1) rfl rfl), (wg4 (i := 90) rfl rfl)⟩
set_option maxRecDepth 100000 in
theorem mf_X9_hasAnew : MfV yX9_hasAnew cX9_hasAnew 4 (some .boolean) 3 := ⟨⟨by decide +kernel, by decide +kernel, by decide +kernel⟩, (wg4 (i := 99) rfl rfl), (wg4 (i := 100) rfl rfl), (wg1 (i := 1) rfl rfl), (wg4 (i := 101) rfl rfl)⟩
set_option maxRecDepth 100000 in
theorem mf_X9_nameOf : MfV yX9_nameOf cX9_nameOf 6 (some .int) 4 := ⟨⟨by decide +kernel, by decide +kernel, by decide +kernel⟩, (wg4 (i := 111) rfl rfl), (wg4 (i := 112) rfl rfl), (wg1 (i := 1) rfl rfl), (wg4 (i := 113) rfl rfl)⟩
set_option maxRecDepth 100000 in
theorem mf_X9_squares : MfV yX9_squares cX9_squares 3 (some .int) 2 := ⟨⟨by decide +kernel, by decide +kernel, by decide +kernel⟩, (wg4 (i := 123) rfl rfl), (wg4 (i := 124) rfl rfl), (wg1 (i := 1) rfl rfl), (wg4 (i := 125) rfl rfl)⟩
set_option maxRecDepth 100000 in
theorem mf_X9_volume : MfV yX9_volume cX9_volume 1 (some .int) 0 := ⟨⟨by decide +kernel, by decide +kernel, by decide +kernel⟩, (wg5 (i := 23) rfl rfl), (wg5 (i := 24) rfl rfl), (wg1 (i := 1) rfl rfl), (wg5 (i := 25) rfl rfl)⟩
set_option maxRecDepth 100000 in
theorem mf_X9_area : MfV yX9_area cX9_area 3 (some .int) 0 := ⟨⟨by decide +kernel, by decide +kernel, by decide +kernel⟩, (wg5 (i := 27) rfl rfl), (wg5 (i := 28) rfl rfl), (wg1 (i := 1) rfl rfl), (wg5 (i := 29) rfl rfl)⟩
set_option maxRecDepth 100000 in
theorem mf_X9_bodies : MfV yX9_bodies cX9_bodies 1 (some .int) 0 := ⟨⟨by decide +kernel, by decide +kernel, by decide +kernel⟩, (wg5 (i := 39) rfl rfl), (wg5 (i := 40) rfl rfl), (wg1 (i := 1) rfl rfl), (wg5 (i := 41) rfl rfl)⟩
set_option maxRecDepth 100000 in
theorem mf_X9_centre : MfV yX9_centre cX9_centre 4 (some .double) 1 := ⟨⟨by decide +kernel, by decide +kernel, by decide +kernel⟩, (wg5 (i := 6) rfl rfl), (wg5 (i := 7) rfl rfl), (wg1 (i := 1) rfl rfl), (wg5 (i := 8) rfl rfl)⟩
set_option maxRecDepth 100000 in
theorem mf_X9_addPart : MfV yX9_addPart cX9_addPart 4 (some .int) 3 := ⟨⟨by decide +kernel, by decide +kernel, by decide +kernel⟩, (wg4 (i := 147) rfl rfl), (wg4 (i := 148) rfl rfl), (wg1 (i := 1) rfl rfl), (wg4 (i := 149) rfl rfl)⟩
set_option maxRecDepth 100000 in
theorem mf_X9_freeze : MfV yX9_freeze cX9_freeze 4 (some .boolean) 2 := ⟨⟨by decide +kernel, by decide +kernel, by decide +kernel⟩, (wg4 (i := 158) rfl rfl), (wg4 (i := 159) rfl rfl), (wg1 (i := 1) rfl rfl), (wg4 (i := 160) rfl rfl)⟩
set_option maxRecDepth 100000 in
theorem mf_X9_mate : MfV yX9_mate cX9_mate 5 (some .int) 4 := ⟨⟨by decide +kernel, by decide +kernel, by decide +kernel⟩, (wg4 (i := 168) rfl rfl), (wg4 (i := 169) rfl rfl), (wg1 (i := 1) rfl rfl), (wg4 (i := 170) rfl rfl)⟩
set_option maxRecDepth 100000 in
theorem mf_X9_drag : MfV yX9_drag cX9_drag 4 (some .int) 3 := ⟨⟨by decide +kernel, by decide +kernel, by decide +kernel⟩, (wg4 (i := 204) rfl rfl), (wg4 (i := 205) rfl rfl), (wg1 (i := 1) rfl rfl), (wg4 (i := 206) rfl rfl)⟩
set_option maxRecDepth 100000 in
theorem mf_X9_moved : MfV yX9_moved cX9_moved 3 (some .int) 2 := ⟨⟨by decide +kernel, by decide +kernel, by decide +kernel⟩, (wg4 (i := 212) rfl rfl), (wg4 (i := 213) rfl rfl), (wg1 (i := 1) rfl rfl), (wg4 (i := 214) rfl rfl)⟩
set_option maxRecDepth 100000 in
theorem mf_X9_freedoms : MfV yX9_freedoms cX9_freedoms 1 (some .int) 0 := ⟨⟨by decide +kernel, by decide +kernel, by decide +kernel⟩, (wg2 (i := 13) rfl rfl), (wg2 (i := 14) rfl rfl), (wg1 (i := 1) rfl rfl), (wg2 (i := 15) rfl rfl)⟩
set_option maxRecDepth 100000 in
theorem mf_X9_clashes : MfV yX9_clashes cX9_clashes 3 (some .int) 2 := ⟨⟨by decide +kernel, by decide +kernel, by decide +kernel⟩, (wg4 (i := 218) rfl rfl), (wg4 (i := 219) rfl rfl), (wg1 (i := 1) rfl rfl), (wg4 (i := 220) rfl rfl)⟩
set_option maxRecDepth 100000 in
theorem mf_X9_depth : MfV yX9_depth cX9_depth 5 (some .int) 4 := ⟨⟨by decide +kernel, by decide +kernel, by decide +kernel⟩, (wg4 (i := 229) rfl rfl), (wg4 (i := 230) rfl rfl), (wg1 (i := 1) rfl rfl), (wg4 (i := 231) rfl rfl)⟩
set_option maxRecDepth 100000 in
theorem mf_X9_lines : MfV yX9_lines cX9_lines 3 (some .int) 2 := ⟨⟨by decide +kernel, by decide +kernel, by decide +kernel⟩, (wg4 (i := 238) rfl rfl), (wg4 (i := 239) rfl rfl), (wg1 (i := 1) rfl rfl), (wg5 (i := 0) rfl rfl)⟩
set_option maxRecDepth 100000 in
theorem mf_X9_isSound : MfV yX9_isSound cX9_isSound 2 (some .boolean) 0 := ⟨⟨by decide +kernel, by decide +kernel, by decide +kernel⟩, (wg5 (i := 48) rfl rfl), (wg5 (i := 49) rfl rfl), (wg1 (i := 1) rfl rfl), (wg5 (i := 50) rfl rfl)⟩
set_option maxRecDepth 100000 in
theorem mf_X9_isAxis : MfS yX9_isAxis cX9_isAxis 1 (some .boolean) 1 := ⟨⟨by decide +kernel, by decide +kernel, by decide +kernel⟩, (wg3 (i := 25) rfl rfl), (wg1 (i := 1) rfl rfl), (wg3 (i := 26) rfl rfl)⟩
set_option maxRecDepth 100000 in
theorem mf_X9_isSide : MfS yX9_isSide cX9_isSide 1 (some .boolean) 1 := ⟨⟨by decide +kernel, by decide +kernel, by decide +kernel⟩, (wg3 (i := 28) rfl rfl), (wg1 (i := 1) rfl rfl), (wg3 (i := 29) rfl rfl)⟩
set_option maxRecDepth 100000 in
theorem mf_X9_isGiven : MfS yX9_isGiven cX9_isGiven 1 (some .boolean) 1 := ⟨⟨by decide +kernel, by decide +kernel, by decide +kernel⟩, (wg2 (i := 139) rfl rfl), (wg1 (i := 1) rfl rfl), (wg2 (i := 140) rfl rfl)⟩
set_option maxRecDepth 100000 in
theorem mf_X9_areTerms : MfS yX9_areTerms cX9_areTerms 3 (some .boolean) 3 := ⟨⟨by decide +kernel, by decide +kernel, by decide +kernel⟩, (wg3 (i := 226) rfl rfl), (wg1 (i := 1) rfl rfl), (wg3 (i := 227) rfl rfl)⟩
set_option maxRecDepth 100000 in
theorem mf_J13_lowestOneBit_067f4 : MfS yJ13_lowestOneBit_067f4 cJ13_lowestOneBit_067f4 2 (some .long) 1 := ⟨⟨by decide +kernel, by decide +kernel, by decide +kernel⟩, (wg3 (i := 64) rfl rfl), (wg1 (i := 20) rfl rfl), (wg3 (i := 65) rfl rfl)⟩
set_option maxRecDepth 100000 in
theorem mf_J13_bitCount_95d88 : MfS yJ13_bitCount_95d88 cJ13_bitCount_95d88 2 (some .int) 1 := ⟨⟨by decide +kernel, by decide +kernel, by decide +kernel⟩, (wg4 (i := 141) rfl rfl), (wg1 (i := 20) rfl rfl), (wg4 (i := 142) rfl rfl)⟩
set_option maxRecDepth 100000 in
theorem mf_J9_max_7cf53 : MfS yJ9_max_7cf53 cJ9_max_7cf53 2 (some .int) 2 := ⟨⟨by decide +kernel, by decide +kernel, by decide +kernel⟩, (wg2 (i := 202) rfl rfl), (wg1 (i := 18) rfl rfl), (wg2 (i := 203) rfl rfl)⟩
set_option maxRecDepth 100000 in
theorem mf_J9_min_7cf53 : MfS yJ9_min_7cf53 cJ9_min_7cf53 2 (some .int) 2 := ⟨⟨by decide +kernel, by decide +kernel, by decide +kernel⟩, (wg2 (i := 199) rfl rfl), (wg1 (i := 18) rfl rfl), (wg2 (i := 200) rfl rfl)⟩
set_option maxRecDepth 100000 in
theorem ac_native : Cond.native arraycopyName ∈ wsG := (wg3 (i := 1) rfl rfl)
set_option maxRecDepth 100000 in
theorem ac_static : Cond.static arraycopyName ∈ wsG := (wg3 (i := 0) rfl rfl)
set_option maxRecDepth 100000 in
theorem ac_init : Cond.initialized "java/lang/System" ∈ wsG := (wg1 (i := 19) rfl rfl)
section JF
variable {l : Launch} {E : Ev} {own : String} {cc : ByteArray} {nL : Nat} {rt : Option FieldType} {tb : List ExceptionTableEntry} {R : Room} {Qf : List Frame → Array Value → State → State → Prop} {k n : Nat} {pc : Nat} {ls : List (Option Value)} {st : List Value} {M : Mm}
theorem lays_X0 : ∀ w ∈ u_ws RX0 TX0 2, w ∈ wsG := fin_p _ [144, 146] (by decide +kernel) (by decide +kernel)
theorem g_X0_0 {i : Nat} {ix : Nat} (d : decode cc pc = .ok (.getfield ix, 3)) (hw : Cond.fieldLink own ix "Solidhearth$Body" "cells" "LSolidhearth$Cells;" ∈ wsG) (hi : i < nv 6) (kk : Jd l E own cc nL rt tb R Qf k n (pc + 3) ls (.ref (eA E 7 i) :: st) M) : Jd l E own cc nL rt tb R Qf k n pc ls (.ref (eA E 6 i) :: st) M := j_get (t := 6) 0 d hi rfl rfl lays_X0 (by decide) hw rfl kk
theorem g_X0_1 {i : Nat} {ix : Nat} (d : decode cc pc = .ok (.getfield ix, 3)) (hw : Cond.fieldLink own ix "Solidhearth$Body" "makers" "[J" ∈ wsG) (hi : i < nv 6) (kk : Jd l E own cc nL rt tb R Qf k n (pc + 3) ls (.ref (eA E 9 i) :: st) M) : Jd l E own cc nL rt tb R Qf k n pc ls (.ref (eA E 6 i) :: st) M := j_get (t := 6) 1 d hi rfl rfl lays_X0 (by decide) hw rfl kk
theorem lays_X1 : ∀ w ∈ u_ws RX1 TX1 1, w ∈ wsG := fin_p _ [135] (by decide +kernel) (by decide +kernel)
theorem g_X1_0 {i : Nat} {ix : Nat} (d : decode cc pc = .ok (.getfield ix, 3)) (hw : Cond.fieldLink own ix "Solidhearth$Cells" "layers" "[J" ∈ wsG) (hi : i < nv 7) (kk : Jd l E own cc nL rt tb R Qf k n (pc + 3) ls (.ref (eA E 8 i) :: st) M) : Jd l E own cc nL rt tb R Qf k n pc ls (.ref (eA E 7 i) :: st) M := j_get (t := 7) 0 d hi rfl rfl lays_X1 (by decide) hw rfl kk
theorem lays_X2 : ∀ w ∈ u_ws RX2 TX2 8, w ∈ wsG := fin_p _ [101, 103, 105, 107, 109, 111, 113, 115] (by decide +kernel) (by decide +kernel)
theorem g_X2_0 {ix : Nat} (d : decode cc pc = .ok (.getfield ix, 3)) (hw : Cond.fieldLink own ix "Solidhearth$Features" "numbers" "LSolidhearth$Numbers;" ∈ wsG) (kk : Jd l E own cc nL rt tb R Qf k n (pc + 3) ls (.ref (eA E 3 0) :: st) M) : Jd l E own cc nL rt tb R Qf k n pc ls (.ref (eA E 2 0) :: st) M := j_get (t := 2) 0 d (by decide) rfl rfl lays_X2 (by decide) hw rfl kk
theorem g_X2_1 {ix : Nat} (d : decode cc pc = .ok (.getfield ix, 3)) (hw : Cond.fieldLink own ix "Solidhearth$Features" "row" "[I" ∈ wsG) (kk : Jd l E own cc nL rt tb R Qf k n (pc + 3) ls (.ref (eA E 24 0) :: st) M) : Jd l E own cc nL rt tb R Qf k n pc ls (.ref (eA E 2 0) :: st) M := j_get (t := 2) 1 d (by decide) rfl rfl lays_X2 (by decide) hw rfl kk
theorem g_X2_2 {ix : Nat} (d : decode cc pc = .ok (.getfield ix, 3)) (hw : Cond.fieldLink own ix "Solidhearth$Features" "kinds" "[C" ∈ wsG) (kk : Jd l E own cc nL rt tb R Qf k n (pc + 3) ls (.ref (eA E 25 0) :: st) M) : Jd l E own cc nL rt tb R Qf k n pc ls (.ref (eA E 2 0) :: st) M := j_get (t := 2) 2 d (by decide) rfl rfl lays_X2 (by decide) hw rfl kk
theorem g_X2_3 {ix : Nat} (d : decode cc pc = .ok (.getfield ix, 3)) (hw : Cond.fieldLink own ix "Solidhearth$Features" "terms" "[I" ∈ wsG) (kk : Jd l E own cc nL rt tb R Qf k n (pc + 3) ls (.ref (eA E 26 0) :: st) M) : Jd l E own cc nL rt tb R Qf k n pc ls (.ref (eA E 2 0) :: st) M := j_get (t := 2) 3 d (by decide) rfl rfl lays_X2 (by decide) hw rfl kk
theorem g_X2_4 {ix : Nat} (d : decode cc pc = .ok (.getfield ix, 3)) (hw : Cond.fieldLink own ix "Solidhearth$Features" "areOff" "[Z" ∈ wsG) (kk : Jd l E own cc nL rt tb R Qf k n (pc + 3) ls (.ref (eA E 27 0) :: st) M) : Jd l E own cc nL rt tb R Qf k n pc ls (.ref (eA E 2 0) :: st) M := j_get (t := 2) 4 d (by decide) rfl rfl lays_X2 (by decide) hw rfl kk
theorem g_X2_5 {ix : Nat} (d : decode cc pc = .ok (.getfield ix, 3)) (hw : Cond.fieldLink own ix "Solidhearth$Features" "count" "I" ∈ wsG) (kk : Jd l E own cc nL rt tb R Qf k n (pc + 3) ls (.int (mI M 2 5) :: st) M) : Jd l E own cc nL rt tb R Qf k n pc ls (.ref (eA E 2 0) :: st) M := j_get (t := 2) 5 d (by decide) rfl rfl lays_X2 (by decide) hw rfl kk
theorem p_X2_5 {ix : Nat} {x : Int32} (d : decode cc pc = .ok (.putfield ix, 3)) (hw : Cond.fieldLink own ix "Solidhearth$Features" "count" "I" ∈ wsG) (kk : Jd l E own cc nL rt tb R Qf k n (pc + 3) ls st (sI M 2 (upd (mI M 2) 5 x))) : Jd l E own cc nL rt tb R Qf k n pc ls (.int x :: .ref (eA E 2 0) :: st) M := j_put (t := 2) (ty := .int) 5 d (by decide) rfl rfl lays_X2 tyX2_ok nmX2 (by decide) (show 5 < 8 by decide) hw rfl (by decide +kernel) rfl rfl rfl (fun t' i' h2 h3 => cv_sI (pl1 rfl h2 h3)) kk
theorem g_X2_6 {ix : Nat} (d : decode cc pc = .ok (.getfield ix, 3)) (hw : Cond.fieldLink own ix "Solidhearth$Features" "given" "I" ∈ wsG) (kk : Jd l E own cc nL rt tb R Qf k n (pc + 3) ls (.int (mI M 2 6) :: st) M) : Jd l E own cc nL rt tb R Qf k n pc ls (.ref (eA E 2 0) :: st) M := j_get (t := 2) 6 d (by decide) rfl rfl lays_X2 (by decide) hw rfl kk
theorem p_X2_6 {ix : Nat} {x : Int32} (d : decode cc pc = .ok (.putfield ix, 3)) (hw : Cond.fieldLink own ix "Solidhearth$Features" "given" "I" ∈ wsG) (kk : Jd l E own cc nL rt tb R Qf k n (pc + 3) ls st (sI M 2 (upd (mI M 2) 6 x))) : Jd l E own cc nL rt tb R Qf k n pc ls (.int x :: .ref (eA E 2 0) :: st) M := j_put (t := 2) (ty := .int) 6 d (by decide) rfl rfl lays_X2 tyX2_ok nmX2 (by decide) (show 6 < 8 by decide) hw rfl (by decide +kernel) rfl rfl rfl (fun t' i' h2 h3 => cv_sI (pl1 rfl h2 h3)) kk
theorem g_X2_7 {ix : Nat} (d : decode cc pc = .ok (.getfield ix, 3)) (hw : Cond.fieldLink own ix "Solidhearth$Features" "bar" "I" ∈ wsG) (kk : Jd l E own cc nL rt tb R Qf k n (pc + 3) ls (.int (mI M 2 7) :: st) M) : Jd l E own cc nL rt tb R Qf k n pc ls (.ref (eA E 2 0) :: st) M := j_get (t := 2) 7 d (by decide) rfl rfl lays_X2 (by decide) hw rfl kk
theorem p_X2_7 {ix : Nat} {x : Int32} (d : decode cc pc = .ok (.putfield ix, 3)) (hw : Cond.fieldLink own ix "Solidhearth$Features" "bar" "I" ∈ wsG) (kk : Jd l E own cc nL rt tb R Qf k n (pc + 3) ls st (sI M 2 (upd (mI M 2) 7 x))) : Jd l E own cc nL rt tb R Qf k n pc ls (.int x :: .ref (eA E 2 0) :: st) M := j_put (t := 2) (ty := .int) 7 d (by decide) rfl rfl lays_X2 tyX2_ok nmX2 (by decide) (show 7 < 8 by decide) hw rfl (by decide +kernel) rfl rfl rfl (fun t' i' h2 h3 => cv_sI (pl1 rfl h2 h3)) kk
theorem lays_X3 : ∀ w ∈ u_ws RX3 TX3 12, w ∈ wsG := fin_p _ [185, 187, 189, 191, 193, 195, 197, 199, 201, 203, 205, 207] (by decide +kernel) (by decide +kernel)
theorem g_X3_0 {ix : Nat} (d : decode cc pc = .ok (.getfield ix, 3)) (hw : Cond.fieldLink own ix "Solidhearth$History" "features" "LSolidhearth$Features;" ∈ wsG) (kk : Jd l E own cc nL rt tb R Qf k n (pc + 3) ls (.ref (eA E 2 0) :: st) M) : Jd l E own cc nL rt tb R Qf k n pc ls (.ref (eA E 1 0) :: st) M := j_get (t := 1) 0 d (by decide) rfl rfl lays_X3 (by decide) hw rfl kk
theorem g_X3_1 {ix : Nat} (d : decode cc pc = .ok (.getfield ix, 3)) (hw : Cond.fieldLink own ix "Solidhearth$History" "faults" "[C" ∈ wsG) (kk : Jd l E own cc nL rt tb R Qf k n (pc + 3) ls (.ref (eA E 28 0) :: st) M) : Jd l E own cc nL rt tb R Qf k n pc ls (.ref (eA E 1 0) :: st) M := j_get (t := 1) 1 d (by decide) rfl rfl lays_X3 (by decide) hw rfl kk
theorem g_X3_2 {ix : Nat} (d : decode cc pc = .ok (.getfield ix, 3)) (hw : Cond.fieldLink own ix "Solidhearth$History" "work" "J" ∈ wsG) (kk : Jd l E own cc nL rt tb R Qf k n (pc + 3) ls (.long (mW M 0) :: st) M) : Jd l E own cc nL rt tb R Qf k n pc ls (.ref (eA E 1 0) :: st) M := j_get (t := 1) 2 d (by decide) rfl rfl lays_X3 (by decide) hw rfl kk
theorem p_X3_2 {ix : Nat} {x : Int64} (d : decode cc pc = .ok (.putfield ix, 3)) (hw : Cond.fieldLink own ix "Solidhearth$History" "work" "J" ∈ wsG) (kk : Jd l E own cc nL rt tb R Qf k n (pc + 3) ls st (sW M 0 x)) : Jd l E own cc nL rt tb R Qf k n pc ls (.long x :: .ref (eA E 1 0) :: st) M := j_put (t := 1) (ty := .long) 2 d (by decide) rfl rfl lays_X3 tyX3_ok nmX3 (by decide) (show 2 < 12 by decide) hw rfl (by decide +kernel) rfl rfl rfl (fun t' i' h2 h3 => cv_sW0 (pl1 rfl h2 h3)) kk
theorem g_X3_3 {ix : Nat} (d : decode cc pc = .ok (.getfield ix, 3)) (hw : Cond.fieldLink own ix "Solidhearth$History" "stages" "[LSolidhearth$Body;" ∈ wsG) (kk : Jd l E own cc nL rt tb R Qf k n (pc + 3) ls (.ref (eA E 10 0) :: st) M) : Jd l E own cc nL rt tb R Qf k n pc ls (.ref (eA E 1 0) :: st) M := j_get (t := 1) 3 d (by decide) rfl rfl lays_X3 (by decide) hw rfl kk
theorem g_X3_4 {ix : Nat} (d : decode cc pc = .ok (.getfield ix, 3)) (hw : Cond.fieldLink own ix "Solidhearth$History" "fresh" "LSolidhearth$Body;" ∈ wsG) (kk : Jd l E own cc nL rt tb R Qf k n (pc + 3) ls (.ref (eA E 6 13) :: st) M) : Jd l E own cc nL rt tb R Qf k n pc ls (.ref (eA E 1 0) :: st) M := j_get (t := 1) 4 d (by decide) rfl rfl lays_X3 (by decide) hw rfl kk
theorem g_X3_5 {ix : Nat} (d : decode cc pc = .ok (.getfield ix, 3)) (hw : Cond.fieldLink own ix "Solidhearth$History" "behindFresh" "LSolidhearth$Body;" ∈ wsG) (kk : Jd l E own cc nL rt tb R Qf k n (pc + 3) ls (.ref (eA E 6 14) :: st) M) : Jd l E own cc nL rt tb R Qf k n pc ls (.ref (eA E 1 0) :: st) M := j_get (t := 1) 5 d (by decide) rfl rfl lays_X3 (by decide) hw rfl kk
theorem g_X3_6 {ix : Nat} (d : decode cc pc = .ok (.getfield ix, 3)) (hw : Cond.fieldLink own ix "Solidhearth$History" "workshop" "LSolidhearth$Workshop;" ∈ wsG) (kk : Jd l E own cc nL rt tb R Qf k n (pc + 3) ls (.ref (eA E 4 0) :: st) M) : Jd l E own cc nL rt tb R Qf k n pc ls (.ref (eA E 1 0) :: st) M := j_get (t := 1) 6 d (by decide) rfl rfl lays_X3 (by decide) hw rfl kk
theorem g_X3_7 {ix : Nat} (d : decode cc pc = .ok (.getfield ix, 3)) (hw : Cond.fieldLink own ix "Solidhearth$History" "sizes" "[I" ∈ wsG) (kk : Jd l E own cc nL rt tb R Qf k n (pc + 3) ls (.ref (eA E 29 0) :: st) M) : Jd l E own cc nL rt tb R Qf k n pc ls (.ref (eA E 1 0) :: st) M := j_get (t := 1) 7 d (by decide) rfl rfl lays_X3 (by decide) hw rfl kk
theorem g_X3_8 {ix : Nat} (d : decode cc pc = .ok (.getfield ix, 3)) (hw : Cond.fieldLink own ix "Solidhearth$History" "rowCarried" "[I" ∈ wsG) (kk : Jd l E own cc nL rt tb R Qf k n (pc + 3) ls (.ref (eA E 30 0) :: st) M) : Jd l E own cc nL rt tb R Qf k n pc ls (.ref (eA E 1 0) :: st) M := j_get (t := 1) 8 d (by decide) rfl rfl lays_X3 (by decide) hw rfl kk
theorem g_X3_9 {ix : Nat} (d : decode cc pc = .ok (.getfield ix, 3)) (hw : Cond.fieldLink own ix "Solidhearth$History" "offCarried" "[Z" ∈ wsG) (kk : Jd l E own cc nL rt tb R Qf k n (pc + 3) ls (.ref (eA E 31 0) :: st) M) : Jd l E own cc nL rt tb R Qf k n pc ls (.ref (eA E 1 0) :: st) M := j_get (t := 1) 9 d (by decide) rfl rfl lays_X3 (by decide) hw rfl kk
theorem g_X3_10 {ix : Nat} (d : decode cc pc = .ok (.getfield ix, 3)) (hw : Cond.fieldLink own ix "Solidhearth$History" "sizesCarried" "[I" ∈ wsG) (kk : Jd l E own cc nL rt tb R Qf k n (pc + 3) ls (.ref (eA E 32 0) :: st) M) : Jd l E own cc nL rt tb R Qf k n pc ls (.ref (eA E 1 0) :: st) M := j_get (t := 1) 10 d (by decide) rfl rfl lays_X3 (by decide) hw rfl kk
theorem g_X3_11 {ix : Nat} (d : decode cc pc = .ok (.getfield ix, 3)) (hw : Cond.fieldLink own ix "Solidhearth$History" "barCarried" "I" ∈ wsG) (kk : Jd l E own cc nL rt tb R Qf k n (pc + 3) ls (.int (mI M 1 11) :: st) M) : Jd l E own cc nL rt tb R Qf k n pc ls (.ref (eA E 1 0) :: st) M := j_get (t := 1) 11 d (by decide) rfl rfl lays_X3 (by decide) hw rfl kk
theorem p_X3_11 {ix : Nat} {x : Int32} (d : decode cc pc = .ok (.putfield ix, 3)) (hw : Cond.fieldLink own ix "Solidhearth$History" "barCarried" "I" ∈ wsG) (kk : Jd l E own cc nL rt tb R Qf k n (pc + 3) ls st (sI M 1 (upd (mI M 1) 11 x))) : Jd l E own cc nL rt tb R Qf k n pc ls (.int x :: .ref (eA E 1 0) :: st) M := j_put (t := 1) (ty := .int) 11 d (by decide) rfl rfl lays_X3 tyX3_ok nmX3 (by decide) (show 11 < 12 by decide) hw rfl (by decide +kernel) rfl rfl rfl (fun t' i' h2 h3 => cv_sI (pl1 rfl h2 h3)) kk
theorem lays_X5 : ∀ w ∈ u_ws RX5 TX5 4, w ∈ wsG := fin_p _ [73, 75, 77, 79] (by decide +kernel) (by decide +kernel)
theorem g_X5_0 {ix : Nat} (d : decode cc pc = .ok (.getfield ix, 3)) (hw : Cond.fieldLink own ix "Solidhearth$Numbers" "firsts" "[I" ∈ wsG) (kk : Jd l E own cc nL rt tb R Qf k n (pc + 3) ls (.ref (eA E 20 0) :: st) M) : Jd l E own cc nL rt tb R Qf k n pc ls (.ref (eA E 3 0) :: st) M := j_get (t := 3) 0 d (by decide) rfl rfl lays_X5 (by decide) hw rfl kk
theorem g_X5_1 {ix : Nat} (d : decode cc pc = .ok (.getfield ix, 3)) (hw : Cond.fieldLink own ix "Solidhearth$Numbers" "operations" "[C" ∈ wsG) (kk : Jd l E own cc nL rt tb R Qf k n (pc + 3) ls (.ref (eA E 21 0) :: st) M) : Jd l E own cc nL rt tb R Qf k n pc ls (.ref (eA E 3 0) :: st) M := j_get (t := 3) 1 d (by decide) rfl rfl lays_X5 (by decide) hw rfl kk
theorem g_X5_2 {ix : Nat} (d : decode cc pc = .ok (.getfield ix, 3)) (hw : Cond.fieldLink own ix "Solidhearth$Numbers" "seconds" "[I" ∈ wsG) (kk : Jd l E own cc nL rt tb R Qf k n (pc + 3) ls (.ref (eA E 22 0) :: st) M) : Jd l E own cc nL rt tb R Qf k n pc ls (.ref (eA E 3 0) :: st) M := j_get (t := 3) 2 d (by decide) rfl rfl lays_X5 (by decide) hw rfl kk
theorem g_X5_3 {ix : Nat} (d : decode cc pc = .ok (.getfield ix, 3)) (hw : Cond.fieldLink own ix "Solidhearth$Numbers" "values" "[I" ∈ wsG) (kk : Jd l E own cc nL rt tb R Qf k n (pc + 3) ls (.ref (eA E 23 0) :: st) M) : Jd l E own cc nL rt tb R Qf k n pc ls (.ref (eA E 3 0) :: st) M := j_get (t := 3) 3 d (by decide) rfl rfl lays_X5 (by decide) hw rfl kk
theorem lays_X6 : ∀ w ∈ u_ws RX6 TX6 9, w ∈ wsG := fin_p _ [232, 234, 236, 238, 240, 242, 244, 246, 248] (by decide +kernel) (by decide +kernel)
theorem g_X6_0 {ix : Nat} (d : decode cc pc = .ok (.getfield ix, 3)) (hw : Cond.fieldLink own ix "Solidhearth$Parts" "areFrozen" "[Z" ∈ wsG) (kk : Jd l E own cc nL rt tb R Qf k n (pc + 3) ls (.ref (eA E 33 0) :: st) M) : Jd l E own cc nL rt tb R Qf k n pc ls (.ref (eA E 5 0) :: st) M := j_get (t := 5) 0 d (by decide) rfl rfl lays_X6 (by decide) hw rfl kk
theorem g_X6_1 {ix : Nat} (d : decode cc pc = .ok (.getfield ix, 3)) (hw : Cond.fieldLink own ix "Solidhearth$Parts" "shapes" "[LSolidhearth$Cells;" ∈ wsG) (kk : Jd l E own cc nL rt tb R Qf k n (pc + 3) ls (.ref (eA E 11 0) :: st) M) : Jd l E own cc nL rt tb R Qf k n pc ls (.ref (eA E 5 0) :: st) M := j_get (t := 5) 1 d (by decide) rfl rfl lays_X6 (by decide) hw rfl kk
theorem g_X6_2 {ix : Nat} (d : decode cc pc = .ok (.getfield ix, 3)) (hw : Cond.fieldLink own ix "Solidhearth$Parts" "count" "I" ∈ wsG) (kk : Jd l E own cc nL rt tb R Qf k n (pc + 3) ls (.int (mI M 5 2) :: st) M) : Jd l E own cc nL rt tb R Qf k n pc ls (.ref (eA E 5 0) :: st) M := j_get (t := 5) 2 d (by decide) rfl rfl lays_X6 (by decide) hw rfl kk
theorem p_X6_2 {ix : Nat} {x : Int32} (d : decode cc pc = .ok (.putfield ix, 3)) (hw : Cond.fieldLink own ix "Solidhearth$Parts" "count" "I" ∈ wsG) (kk : Jd l E own cc nL rt tb R Qf k n (pc + 3) ls st (sI M 5 (upd (mI M 5) 2 x))) : Jd l E own cc nL rt tb R Qf k n pc ls (.int x :: .ref (eA E 5 0) :: st) M := j_put (t := 5) (ty := .int) 2 d (by decide) rfl rfl lays_X6 tyX6_ok nmX6 (by decide) (show 2 < 9 by decide) hw rfl (by decide +kernel) rfl rfl rfl (fun t' i' h2 h3 => cv_sI (pl1 rfl h2 h3)) kk
theorem g_X6_3 {ix : Nat} (d : decode cc pc = .ok (.getfield ix, 3)) (hw : Cond.fieldLink own ix "Solidhearth$Parts" "mateCount" "I" ∈ wsG) (kk : Jd l E own cc nL rt tb R Qf k n (pc + 3) ls (.int (mI M 5 3) :: st) M) : Jd l E own cc nL rt tb R Qf k n pc ls (.ref (eA E 5 0) :: st) M := j_get (t := 5) 3 d (by decide) rfl rfl lays_X6 (by decide) hw rfl kk
theorem p_X6_3 {ix : Nat} {x : Int32} (d : decode cc pc = .ok (.putfield ix, 3)) (hw : Cond.fieldLink own ix "Solidhearth$Parts" "mateCount" "I" ∈ wsG) (kk : Jd l E own cc nL rt tb R Qf k n (pc + 3) ls st (sI M 5 (upd (mI M 5) 3 x))) : Jd l E own cc nL rt tb R Qf k n pc ls (.int x :: .ref (eA E 5 0) :: st) M := j_put (t := 5) (ty := .int) 3 d (by decide) rfl rfl lays_X6 tyX6_ok nmX6 (by decide) (show 3 < 9 by decide) hw rfl (by decide +kernel) rfl rfl rfl (fun t' i' h2 h3 => cv_sI (pl1 rfl h2 h3)) kk
theorem g_X6_4 {ix : Nat} (d : decode cc pc = .ok (.getfield ix, 3)) (hw : Cond.fieldLink own ix "Solidhearth$Parts" "moves" "[I" ∈ wsG) (kk : Jd l E own cc nL rt tb R Qf k n (pc + 3) ls (.ref (eA E 34 0) :: st) M) : Jd l E own cc nL rt tb R Qf k n pc ls (.ref (eA E 5 0) :: st) M := j_get (t := 5) 4 d (by decide) rfl rfl lays_X6 (by decide) hw rfl kk
theorem g_X6_5 {ix : Nat} (d : decode cc pc = .ok (.getfield ix, 3)) (hw : Cond.fieldLink own ix "Solidhearth$Parts" "mateAxes" "[I" ∈ wsG) (kk : Jd l E own cc nL rt tb R Qf k n (pc + 3) ls (.ref (eA E 35 0) :: st) M) : Jd l E own cc nL rt tb R Qf k n pc ls (.ref (eA E 5 0) :: st) M := j_get (t := 5) 5 d (by decide) rfl rfl lays_X6 (by decide) hw rfl kk
theorem g_X6_6 {ix : Nat} (d : decode cc pc = .ok (.getfield ix, 3)) (hw : Cond.fieldLink own ix "Solidhearth$Parts" "mateParts" "[I" ∈ wsG) (kk : Jd l E own cc nL rt tb R Qf k n (pc + 3) ls (.ref (eA E 36 0) :: st) M) : Jd l E own cc nL rt tb R Qf k n pc ls (.ref (eA E 5 0) :: st) M := j_get (t := 5) 6 d (by decide) rfl rfl lays_X6 (by decide) hw rfl kk
theorem g_X6_7 {ix : Nat} (d : decode cc pc = .ok (.getfield ix, 3)) (hw : Cond.fieldLink own ix "Solidhearth$Parts" "mateOthers" "[I" ∈ wsG) (kk : Jd l E own cc nL rt tb R Qf k n (pc + 3) ls (.ref (eA E 37 0) :: st) M) : Jd l E own cc nL rt tb R Qf k n pc ls (.ref (eA E 5 0) :: st) M := j_get (t := 5) 7 d (by decide) rfl rfl lays_X6 (by decide) hw rfl kk
theorem g_X6_8 {ix : Nat} (d : decode cc pc = .ok (.getfield ix, 3)) (hw : Cond.fieldLink own ix "Solidhearth$Parts" "mateDistances" "[I" ∈ wsG) (kk : Jd l E own cc nL rt tb R Qf k n (pc + 3) ls (.ref (eA E 38 0) :: st) M) : Jd l E own cc nL rt tb R Qf k n pc ls (.ref (eA E 5 0) :: st) M := j_get (t := 5) 8 d (by decide) rfl rfl lays_X6 (by decide) hw rfl kk
theorem lays_X8 : ∀ w ∈ u_ws RX8 TX8 4, w ∈ wsG := fin_p _ [161, 163, 165, 167] (by decide +kernel) (by decide +kernel)
theorem g_X8_0 {ix : Nat} (d : decode cc pc = .ok (.getfield ix, 3)) (hw : Cond.fieldLink own ix "Solidhearth$Workshop" "box" "LSolidhearth$Cells;" ∈ wsG) (kk : Jd l E own cc nL rt tb R Qf k n (pc + 3) ls (.ref (eA E 7 15) :: st) M) : Jd l E own cc nL rt tb R Qf k n pc ls (.ref (eA E 4 0) :: st) M := j_get (t := 4) 0 d (by decide) rfl rfl lays_X8 (by decide) hw rfl kk
theorem g_X8_1 {ix : Nat} (d : decode cc pc = .ok (.getfield ix, 3)) (hw : Cond.fieldLink own ix "Solidhearth$Workshop" "chosen" "LSolidhearth$Cells;" ∈ wsG) (kk : Jd l E own cc nL rt tb R Qf k n (pc + 3) ls (.ref (eA E 7 16) :: st) M) : Jd l E own cc nL rt tb R Qf k n pc ls (.ref (eA E 4 0) :: st) M := j_get (t := 4) 1 d (by decide) rfl rfl lays_X8 (by decide) hw rfl kk
theorem g_X8_2 {ix : Nat} (d : decode cc pc = .ok (.getfield ix, 3)) (hw : Cond.fieldLink own ix "Solidhearth$Workshop" "rest" "LSolidhearth$Cells;" ∈ wsG) (kk : Jd l E own cc nL rt tb R Qf k n (pc + 3) ls (.ref (eA E 7 17) :: st) M) : Jd l E own cc nL rt tb R Qf k n pc ls (.ref (eA E 4 0) :: st) M := j_get (t := 4) 2 d (by decide) rfl rfl lays_X8 (by decide) hw rfl kk
theorem g_X8_3 {ix : Nat} (d : decode cc pc = .ok (.getfield ix, 3)) (hw : Cond.fieldLink own ix "Solidhearth$Workshop" "piece" "LSolidhearth$Cells;" ∈ wsG) (kk : Jd l E own cc nL rt tb R Qf k n (pc + 3) ls (.ref (eA E 7 18) :: st) M) : Jd l E own cc nL rt tb R Qf k n pc ls (.ref (eA E 4 0) :: st) M := j_get (t := 4) 3 d (by decide) rfl rfl lays_X8 (by decide) hw rfl kk
theorem lays_X9 : ∀ w ∈ u_ws RX9 TX9 2, w ∈ wsG := fin_p _ [253, 255] (by decide +kernel) (by decide +kernel)
theorem g_X9_0 {ix : Nat} (d : decode cc pc = .ok (.getfield ix, 3)) (hw : Cond.fieldLink own ix "Solidhearth" "history" "LSolidhearth$History;" ∈ wsG) (kk : Jd l E own cc nL rt tb R Qf k n (pc + 3) ls (.ref (eA E 1 0) :: st) M) : Jd l E own cc nL rt tb R Qf k n pc ls (.ref (eA E 0 0) :: st) M := j_get (t := 0) 0 d (by decide) rfl rfl lays_X9 (by decide) hw rfl kk
theorem g_X9_1 {ix : Nat} (d : decode cc pc = .ok (.getfield ix, 3)) (hw : Cond.fieldLink own ix "Solidhearth" "parts" "LSolidhearth$Parts;" ∈ wsG) (kk : Jd l E own cc nL rt tb R Qf k n (pc + 3) ls (.ref (eA E 5 0) :: st) M) : Jd l E own cc nL rt tb R Qf k n pc ls (.ref (eA E 0 0) :: st) M := j_get (t := 0) 1 d (by decide) rfl rfl lays_X9 (by decide) hw rfl kk
end JF
