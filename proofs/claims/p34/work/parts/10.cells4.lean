/-! the class Cells, fourth: sliding into, boxes; Math.max, Math.min as rows -/
theorem j_mmax {l : Launch} {E : Ev} {own : String} {cc : ByteArray} {nL : Nat} {rt : Option FieldType} {tb : List ExceptionTableEntry} {lv mc0 ms0 : Nat} {Qf : List Frame → Array Value → State → State → Prop} {k n : Nat} {pc : Nat} {ls : List (Option Value)} {st : List Value} {M : Mm} {ix : Nat} {x y : Int32} (d : decode cc pc = .ok (.invokestatic ix, 3)) (hw : Cond.methodLink own ix yJ9_max_7cf53 ∈ wsG) (hlv : 1 ≤ lv) (hr8 : (st.map fun v => v.category).sum ≤ 8) (hk : k ≤ mc0) (hn : n ≤ ms0) (kk : Jd l E own cc nL rt tb (rmm lv mc0 ms0) Qf k n (pc + 3) ls (.int (mxI x y) :: st) M) : Jd l E own cc nL rt tb (rmm lv mc0 ms0) Qf k n pc ls (.int y :: .int x :: st) M := by
  intro p e s m args below meth c C H locs lsr hP hS hl
  obtain ⟨hx, hb, hr, hml, hown, hts, hlk, hK, hB, hE, hX, htb⟩ := id C
  obtain ⟨h0, h1, h3, h4⟩ := mf_J9_max_7cf53
  exact va_mmax hx hb (by rw [hml, hl.1]) hown (hts _ hw) (hts _ h1) (hts _ h3) (hts _ h4) (show 1 ≤ lv from hlv) (show _ + 13 ≤ 50 * lv by omega) hk hn d (kk p e s m args below meth c C H locs lsr hP hS hl)
theorem j_mmin {l : Launch} {E : Ev} {own : String} {cc : ByteArray} {nL : Nat} {rt : Option FieldType} {tb : List ExceptionTableEntry} {lv mc0 ms0 : Nat} {Qf : List Frame → Array Value → State → State → Prop} {k n : Nat} {pc : Nat} {ls : List (Option Value)} {st : List Value} {M : Mm} {ix : Nat} {x y : Int32} (d : decode cc pc = .ok (.invokestatic ix, 3)) (hw : Cond.methodLink own ix yJ9_min_7cf53 ∈ wsG) (hlv : 1 ≤ lv) (hr8 : (st.map fun v => v.category).sum ≤ 8) (hk : k ≤ mc0) (hn : n ≤ ms0) (kk : Jd l E own cc nL rt tb (rmm lv mc0 ms0) Qf k n (pc + 3) ls (.int (mnI x y) :: st) M) : Jd l E own cc nL rt tb (rmm lv mc0 ms0) Qf k n pc ls (.int y :: .int x :: st) M := by
  intro p e s m args below meth c C H locs lsr hP hS hl
  obtain ⟨hx, hb, hr, hml, hown, hts, hlk, hK, hB, hE, hX, htb⟩ := id C
  obtain ⟨h0, h1, h3, h4⟩ := mf_J9_min_7cf53
  exact va_mmin hx hb (by rw [hml, hl.1]) hown (hts _ hw) (hts _ h1) (hts _ h3) (hts _ h4) (show 1 ≤ lv from hlv) (show _ + 13 ≤ 50 * lv by omega) hk hn d (kk p e s m args below meth c C H locs lsr hP hS hl)
def sldz (f g : Nat → Int64) (bx bY bZ : Int32) (z : Nat) : Int64 := if 0 ≤ nI z - bZ ∧ ¬ nI 8 ≤ nI z - bZ then f z ||| sldw (g (nI z - bZ).toNatClampNeg) bx bY else f z
theorem wsL_k {f g : Nat → Int64} {i : Nat} (h : g i = f i) : wsL f g (i + 1) = wsL f g i := by
  rw [← wsL_s (v := g i) rfl]
  funext z
  by_cases h1 : z = i
  · subst h1; simp [vp_updL, wsL, h]
  · simp [vp_updL, h1]
set_option maxRecDepth 100000 in
set_option maxHeartbeats 4000000 in
theorem c_X1_addSlid {l : Launch} {E : Ev} {M : Mm} {c q : Nat} {bx bY bZ : Int32} (hc : c < nv 7) (ho : q < nv 7) (hne : ¬ q = c) : Ct l E yX1_addSlid cX1_addSlid 7 none 2 0 0 [.ref (eA E 7 c), .ref (eA E 7 q), .int bx, .int bY, .int bZ] M (dn (sL M c (fun z => sldz (mL M c) (mL M q) bx bY bZ z))) := by
  refine Ct.of (own := RX1) rfl [some (.ref (eA E 7 c)), some (.ref (eA E 7 q)), some (.int bx), some (.int bY), some (.int bZ), none, none] (by decide) (Nat.le_of_ble_eq_true rfl) rfl ?_
  have K : ∀ i, i ≤ 8 → ∀ o6 : Option Value, Jd l E RX1 cX1_addSlid 7 none [] (rmm 2 0 0) (QfN E (dn (sL M c (fun z => sldz (mL M c) (mL M q) bx bY bZ z))) 0 0) 0 0 3 [some (.ref (eA E 7 c)), some (.ref (eA E 7 q)), some (.int bx), some (.int bY), some (.int bZ), some (.int (nI i)), o6] [] (sL M c (wsL (mL M c) (fun z => sldz (mL M c) (mL M q) bx bY bZ z) i)) := by
    refine up_to 8 _ ?_ (fun i hi ih => ?_)
    · intro o6
      refine j_il dX1_addSlid_3 rfl ?_
      refine j_biN 8 dX1_addSlid_5 rfl ?_
      refine j_icgeN (tgt := 57) dX1_addSlid_7 (by decide) (by omega) (by omega) (fun h7 => ?_) (fun h7 => ?_)
      · refine j_sim (sim_w _ _ (Nat.le_refl 8)) ?_
        exact j_vret dX1_addSlid_57 rfl (Nat.le_of_ble_eq_true rfl) (Nat.le_of_ble_eq_true rfl) ⟨rfl, rfl⟩
      · exact absurd (Nat.le_refl 8) h7
    · intro o6
      refine j_il dX1_addSlid_3 rfl ?_
      refine j_biN 8 dX1_addSlid_5 rfl ?_
      refine j_icgeN (tgt := 57) dX1_addSlid_7 (by decide) (by omega) (by omega) (fun h7 => ?_) (fun h7 => ?_)
      · exact absurd h7 (by omega)
      · refine j_il dX1_addSlid_10 rfl ?_
        refine j_il dX1_addSlid_12 rfl ?_
        refine j_isub dX1_addSlid_14 ?_
        refine j_ist_6 dX1_addSlid_15 (by decide) rfl ?_
        refine j_il dX1_addSlid_17 rfl ?_
        refine j_iflt (tgt := 51) dX1_addSlid_19 (by decide) (fun h19 => ?_) (fun h19 => ?_)
        · have hg : sldz (mL M c) (mL M q) bx bY bZ i = mL M c i := by
            unfold sldz; rw [if_neg (fun h => absurd h19 (Int32.not_lt.mpr h.1))]
          refine j_incN_5 1 dX1_addSlid_51 rfl (by decide) rfl ?_
          refine j_goto (tgt := 3) dX1_addSlid_54 (by decide) ?_
          first
            | (refine j_mem ?_ (ih _); rw [wsL_k hg]; done)
            | (refine j_mem ?_ (ih _); rw [sL_sL, mL_sL, if_pos rfl, wsL_s (by rw [hg, wsL_at, mL_sL, if_neg hne])])
        · refine j_il dX1_addSlid_22 rfl ?_
          refine j_biN 8 dX1_addSlid_24 rfl ?_
          refine j_icge (tgt := 51) dX1_addSlid_26 (by decide) (fun h26 => ?_) (fun h26 => ?_)
          · have hg : sldz (mL M c) (mL M q) bx bY bZ i = mL M c i := by
              unfold sldz; rw [if_neg (fun h => h.2 h26)]
            refine j_incN_5 1 dX1_addSlid_51 rfl (by decide) rfl ?_
            refine j_goto (tgt := 3) dX1_addSlid_54 (by decide) ?_
            first
              | (refine j_mem ?_ (ih _); rw [wsL_k hg]; done)
              | (refine j_mem ?_ (ih _); rw [sL_sL, mL_sL, if_pos rfl, wsL_s (by rw [hg, wsL_at, mL_sL, if_neg hne])])
          · obtain ⟨a, ha8, hae⟩ := sl_p (Int32.not_lt.mp h19) h26
            have hg : sldz (mL M c) (mL M q) bx bY bZ i = mL M c i ||| sldw (mL M q a) bx bY := by
              unfold sldz; rw [if_pos ⟨Int32.not_lt.mp h19, h26⟩, hae, cl8 ha8]
            refine j_aln dX1_addSlid_29 rfl rfl ?_
            refine g_X1_0 dX1_addSlid_30 fl_X1_9 (by first | assumption | decide | (simp only [nv] at *; omega)) ?_
            refine j_il dX1_addSlid_33 rfl ?_
            refine j_dup2 dX1_addSlid_35 rfl rfl ?_
            refine j_aldLN dX1_addSlid_36 (by first | assumption | decide | (simp only [nv] at *; omega)) (by omega) ?_
            refine j_aln dX1_addSlid_37 rfl rfl ?_
            refine g_X1_0 dX1_addSlid_38 fl_X1_9 (by first | assumption | decide | (simp only [nv] at *; omega)) ?_
            refine j_il dX1_addSlid_41 rfl ?_
            refine j_aldL a dX1_addSlid_43 (by first | assumption | decide | (simp only [nv] at *; omega)) hae (by omega) ?_
            refine j_iln dX1_addSlid_44 rfl rfl ?_
            refine j_iln dX1_addSlid_45 rfl rfl ?_
            refine j_S3d mf_X1_slide ml_X1_55 dX1_addSlid_46 (Nat.le_of_ble_eq_true rfl) (Nat.le_of_ble_eq_true rfl) (Nat.le_of_ble_eq_true rfl) ⟨(Nat.le_of_ble_eq_true rfl), (Nat.le_of_ble_eq_true rfl)⟩ c_X1_slide ?_
            refine j_lor dX1_addSlid_49 ?_
            refine j_astLN dX1_addSlid_50 (by first | assumption | decide | (simp only [nv] at *; omega)) (by omega) ?_
            refine j_incN_5 1 dX1_addSlid_51 rfl (by decide) rfl ?_
            refine j_goto (tgt := 3) dX1_addSlid_54 (by decide) ?_
            first
              | (refine j_mem ?_ (ih _); rw [wsL_k hg]; done)
              | (refine j_mem ?_ (ih _); rw [sL_sL, mL_sL, if_pos rfl, wsL_s (by rw [hg, wsL_at, mL_sL, if_neg hne])])
  refine j_icN 0 dX1_addSlid_0 rfl ?_
  refine j_ist_5 dX1_addSlid_1 (by decide) rfl ?_
  have K0 := K 0 (by omega) none
  rw [wsL_0, sL_id] at K0
  exact K0
/-- a box -/
def inb (lo n : Int32) (v : Nat) : Bool := decide (lo.toInt ≤ v ∧ (v : Int) < (lo + n).toInt)
def Bx (a : Nat → Int32) (x y z : Nat) : Bool := inb (a 0) (a 3) x && inb (a 1) (a 4) y && inb (a 2) (a 5) z
/-- so much of a box is filled -/
def Fb (a : Nat → Int32) (g : Nat → Int64) (z y x : Nat) : Prop := ∀ x' y' z', x' < 8 → y' < 8 → z' < 8 → bw (g z') (y' * 8 + x') = (Bx a x' y' z' && decide (z' < z ∨ z' = z ∧ (y' < y ∨ y' = y ∧ x' < x)))
theorem nIlt {v : Nat} (h : v < 2 ^ 31) (s : Int32) : nI v < s ↔ (v : Int) < s.toInt := by rw [Int32.lt_iff_toInt_lt, nI_toInt h]
theorem mx_0 (s : Int32) : ∃ w : Nat, w < 2 ^ 31 ∧ mxI (nI 0) s = nI w ∧ s.toInt ≤ w ∧ ∀ v : Nat, v < w → (v : Int) < s.toInt := by
  unfold mxI
  by_cases h : nI 0 < s
  · rw [if_pos h]
    have h0 := (nIlt (by decide) s).mp h
    have hs := fb_rng s
    refine ⟨s.toInt.toNat, by omega, ?_, by omega, fun v hv => by omega⟩
    apply Int32.toInt_inj.mp
    rw [nI_toInt (by omega)]
    omega
  · rw [if_neg h]
    have h0 : ¬ ((0 : Nat) : Int) < s.toInt := fun g => h ((nIlt (by decide) s).mpr g)
    exact ⟨0, by omega, rfl, by omega, fun v hv => by omega⟩
theorem Fb_0 {a : Nat → Int32} : Fb a (fun _ => 0) 0 0 0 := by
  intro x y z _ _ _
  have : bw 0 (y * 8 + x) = false := by unfold bw; exact BitVec.getLsbD_zero
  rw [this]
  simp
theorem Fb_z0 {a : Nat → Int32} {g : Nat → Int64} {w : Nat} (h : Fb a g 0 0 0) (hw : ∀ v : Nat, v < w → (v : Int) < (a 2).toInt) : Fb a g w 0 0 := by
  intro x y z hx hy hz
  rw [h x y z hx hy hz]
  by_cases hzw : z < w
  · have := hw z hzw
    have e : inb (a 2) (a 5) z = false := by unfold inb; exact decide_eq_false (by omega)
    simp [Bx, e]
  · simp [hzw]
theorem Fb_y0 {a : Nat → Int32} {g : Nat → Int64} {z0 w : Nat} (h : Fb a g z0 0 0) (hw : ∀ v : Nat, v < w → (v : Int) < (a 1).toInt) : Fb a g z0 w 0 := by
  intro x y z hx hy hz
  rw [h x y z hx hy hz]
  by_cases hyw : y < w
  · have := hw y hyw
    have e : inb (a 1) (a 4) y = false := by unfold inb; exact decide_eq_false (by omega)
    simp [Bx, e]
  · simp [hyw]
theorem Fb_x0 {a : Nat → Int32} {g : Nat → Int64} {z0 y0 w : Nat} (h : Fb a g z0 y0 0) (hw : ∀ v : Nat, v < w → (v : Int) < (a 0).toInt) : Fb a g z0 y0 w := by
  intro x y z hx hy hz
  rw [h x y z hx hy hz]
  by_cases hxw : x < w
  · have := hw x hxw
    have e : inb (a 0) (a 3) x = false := by unfold inb; exact decide_eq_false (by omega)
    simp [Bx, e]
  · simp [hxw]
theorem Fb_x1 {a : Nat → Int32} {g : Nat → Int64} {z0 y0 x0 : Nat} (h : Fb a g z0 y0 x0) (hs : 8 ≤ x0 ∨ ¬ (x0 : Int) < (a 0 + a 3).toInt) : Fb a g z0 (y0 + 1) 0 := by
  intro x y z hx hy hz
  rw [h x y z hx hy hz]
  cases hb : Bx a x y z
  · rfl
  · simp only [Bx, inb, Bool.and_eq_true, decide_eq_true_eq] at hb
    rw [Bool.true_and, Bool.true_and]
    apply decide_eq_decide.mpr
    omega
theorem Fb_y1 {a : Nat → Int32} {g : Nat → Int64} {z0 y0 : Nat} (h : Fb a g z0 y0 0) (hs : 8 ≤ y0 ∨ ¬ (y0 : Int) < (a 1 + a 4).toInt) : Fb a g (z0 + 1) 0 0 := by
  intro x y z hx hy hz
  rw [h x y z hx hy hz]
  cases hb : Bx a x y z
  · rfl
  · simp only [Bx, inb, Bool.and_eq_true, decide_eq_true_eq] at hb
    rw [Bool.true_and, Bool.true_and]
    apply decide_eq_decide.mpr
    omega
theorem Fb_z1 {a : Nat → Int32} {g : Nat → Int64} {z0 : Nat} (h : Fb a g z0 0 0) (hs : 8 ≤ z0 ∨ ¬ (z0 : Int) < (a 2 + a 5).toInt) (x y z : Nat) (hx : x < 8) (hy : y < 8) (hz : z < 8) : bw (g z) (y * 8 + x) = Bx a x y z := by
  rw [h x y z hx hy hz]
  cases hb : Bx a x y z
  · rfl
  · simp only [Bx, inb, Bool.and_eq_true, decide_eq_true_eq] at hb
    rw [Bool.true_and]
    apply decide_eq_true
    omega
theorem bw_or (x y : Int64) (k : Nat) : bw (x ||| y) k = (bw x k || bw y k) := by unfold bw; rw [Int64.toBitVec_or, BitVec.getLsbD_or]
theorem bw_1 {s k : Nat} (hs : s < 64) : bw (shl 1 s) k = decide (k = s) := by
  show ((1#64) <<< s).getLsbD k = _
  rw [BitVec.getLsbD_shiftLeft, BitVec.getLsbD_one]
  by_cases h : k = s
  · subst h; simp [hs]
  · by_cases h2 : k < s
    · simp [h, h2]
    · have : ¬ k - s = 0 := by omega
      simp [h, this]
theorem ptf_bw {f : Nat → Int64} {x y z x' y' z' : Nat} (hx : x < 8) (hy : y < 8) (hz : z < 8) (hx' : x' < 8) (hy' : y' < 8) : bw (ptf f (nI x) (nI y) (nI z) z') (y' * 8 + x') = (bw (f z') (y' * 8 + x') || decide (x' = x ∧ y' = y ∧ z' = z)) := by
  unfold ptf
  rw [if_pos (insd_n hx hy hz), cl8 hx, cl8 hy, cl8 hz]
  by_cases h : z' = z
  · subst h
    simp only [vp_updL, if_true]
    rw [bw_or, bw_1 (by omega)]
    congr 1
    apply decide_eq_decide.mpr
    constructor
    · intro e
      have h1 : (y' * 8 + x') / 8 = y' := by omega
      have h2 : (y * 8 + x) / 8 = y := by omega
      rw [e, h2] at h1
      exact ⟨by omega, h1.symm, by simp⟩
    · rintro ⟨rfl, rfl, -⟩; rfl
  · simp [vp_updL, h]
theorem Fb_p {a : Nat → Int32} {g : Nat → Int64} {z0 y0 x0 : Nat} (h : Fb a g z0 y0 x0) (hx0 : x0 < 8) (hy0 : y0 < 8) (hz0 : z0 < 8) (hb : Bx a x0 y0 z0 = true) : Fb a (ptf g (nI x0) (nI y0) (nI z0)) z0 y0 (x0 + 1) := by
  intro x y z hx hy hz
  rw [ptf_bw hx0 hy0 hz0 hx hy, h x y z hx hy hz]
  by_cases e : x = x0 ∧ y = y0 ∧ z = z0
  · obtain ⟨rfl, rfl, rfl⟩ := e
    simp [hb]
  · rw [decide_eq_false e, Bool.or_false]
    congr 1
    apply decide_eq_decide.mpr
    omega
set_option maxRecDepth 100000 in
set_option maxHeartbeats 4000000 in
theorem c_X1_fillBox {l : Launch} {E : Ev} {M : Mm} {c : Nat} (hc : c < nv 7) : Ct l E yX1_fillBox cX1_fillBox 5 none 3 0 0 [.ref (eA E 7 c), .ref (eA E 29 0)] M (fun v M1 => v = none ∧ ∃ g, M1 = sL M c g ∧ ∀ x y z, x < 8 → y < 8 → z < 8 → bw (g z) (y * 8 + x) = Bx (mI M 29) x y z) := by
  refine Ct.of (own := RX1) rfl [some (.ref (eA E 7 c)), some (.ref (eA E 29 0)), none, none, none] (by decide) (Nat.le_of_ble_eq_true rfl) rfl ?_
  have KZ : ∀ z : Nat, z < 2 ^ 31 → (mI M 29 2).toInt ≤ z → ∀ (g : Nat → Int64) (o3 o4 : Option Value), Fb (mI M 29) g z 0 0 → Jd l E RX1 cX1_fillBox 5 none [] (rmm 3 0 0) (QfN E (fun v M1 => v = none ∧ ∃ g, M1 = sL M c g ∧ ∀ x y z, x < 8 → y < 8 → z < 8 → bw (g z) (y * 8 + x) = Bx (mI M 29) x y z) 0 0) 0 0 12 [some (.ref (eA E 7 c)), some (.ref (eA E 29 0)), some (.int (nI z)), o3, o4] [] (sL M c g) := by
    suffices F : ∀ (d : Nat) (z : Nat), 8 - z < d → z < 2 ^ 31 → (mI M 29 2).toInt ≤ z → ∀ (g : Nat → Int64) (o3 o4 : Option Value), Fb (mI M 29) g z 0 0 → Jd l E RX1 cX1_fillBox 5 none [] (rmm 3 0 0) (QfN E (fun v M1 => v = none ∧ ∃ g, M1 = sL M c g ∧ ∀ x y z, x < 8 → y < 8 → z < 8 → bw (g z) (y * 8 + x) = Bx (mI M 29) x y z) 0 0) 0 0 12 [some (.ref (eA E 7 c)), some (.ref (eA E 29 0)), some (.int (nI z)), o3, o4] [] (sL M c g) from fun z => F 9 z (by omega)
    intro d
    induction d with
    | zero => intro z hd; exact absurd hd (Nat.not_lt_zero _)
    | succ d ihz0 =>
      intro z hd hz hz1 g o3 o4 hg
      have ihz : ∀ z2, z2 = z + 1 → z < 8 → z2 < 2 ^ 31 → (mI M 29 2).toInt ≤ z2 → ∀ (g : Nat → Int64) (o3 o4 : Option Value), Fb (mI M 29) g z2 0 0 → Jd l E RX1 cX1_fillBox 5 none [] (rmm 3 0 0) (QfN E (fun v M1 => v = none ∧ ∃ g, M1 = sL M c g ∧ ∀ x y z2, x < 8 → y < 8 → z2 < 8 → bw (g z2) (y * 8 + x) = Bx (mI M 29) x y z2) 0 0) 0 0 12 [some (.ref (eA E 7 c)), some (.ref (eA E 29 0)), some (.int (nI z2)), o3, o4] [] (sL M c g) := fun z2 e h8 => ihz0 z2 (by omega)
      refine j_iln dX1_fillBox_12 rfl rfl ?_
      refine j_biN 8 dX1_fillBox_13 rfl ?_
      refine j_icgeN (tgt := 108) dX1_fillBox_15 (by decide) (by omega) (by omega) (fun h15 => ?_) (fun h15 => ?_)
      · have HS : 8 ≤ z ∨ ¬ (z : Int) < (mI M 29 2 + mI M 29 5).toInt := Or.inl h15
        exact j_vret dX1_fillBox_108 rfl (Nat.le_of_ble_eq_true rfl) (Nat.le_of_ble_eq_true rfl) ⟨rfl, g, rfl, Fb_z1 hg HS⟩
      · refine j_iln dX1_fillBox_18 rfl rfl ?_
        refine j_aln dX1_fillBox_19 rfl rfl ?_
        refine j_icN 2 dX1_fillBox_20 rfl ?_
        refine j_aildN dX1_fillBox_21 rfl rfl rfl (by decide) (by omega) ?_
        refine j_aln dX1_fillBox_22 rfl rfl ?_
        refine j_icN 5 dX1_fillBox_23 rfl ?_
        refine j_aildN dX1_fillBox_24 rfl rfl rfl (by decide) (by omega) ?_
        refine j_iadd dX1_fillBox_25 ?_
        refine j_icge (tgt := 108) dX1_fillBox_26 (by decide) (fun h26 => ?_) (fun h26 => ?_)
        · have HS : 8 ≤ z ∨ ¬ (z : Int) < (mI M 29 2 + mI M 29 5).toInt := Or.inr (fun g9 => absurd ((nIlt hz _).mpr g9) (Int32.not_lt.mpr h26))
          exact j_vret dX1_fillBox_108 rfl (Nat.le_of_ble_eq_true rfl) (Nat.le_of_ble_eq_true rfl) ⟨rfl, g, rfl, Fb_z1 hg HS⟩
        · have h26 := (nIlt hz _).mp (Int32.not_le.mp h26)
          refine j_icN 0 dX1_fillBox_29 rfl ?_
          refine j_aln dX1_fillBox_30 rfl rfl ?_
          refine j_icN 1 dX1_fillBox_31 rfl ?_
          refine j_aildN dX1_fillBox_32 rfl rfl rfl (by decide) (by omega) ?_
          refine j_mmax dX1_fillBox_33 ml_X1_46 (Nat.le_of_ble_eq_true rfl) (Nat.le_of_ble_eq_true rfl) (Nat.le_of_ble_eq_true rfl) (Nat.le_of_ble_eq_true rfl) ?_
          obtain ⟨y0, hy0, ey, hy1, hy2⟩ := mx_0 (mI M 29 1)
          rw [mI_sL, ey]
          refine j_ist_3 dX1_fillBox_36 (by decide) rfl ?_
          have KY : ∀ y : Nat, y < 2 ^ 31 → (mI M 29 1).toInt ≤ y → ∀ (g : Nat → Int64) (o4 : Option Value), Fb (mI M 29) g z y 0 → Jd l E RX1 cX1_fillBox 5 none [] (rmm 3 0 0) (QfN E (fun v M1 => v = none ∧ ∃ g, M1 = sL M c g ∧ ∀ x y z, x < 8 → y < 8 → z < 8 → bw (g z) (y * 8 + x) = Bx (mI M 29) x y z) 0 0) 0 0 37 [some (.ref (eA E 7 c)), some (.ref (eA E 29 0)), some (.int (nI z)), some (.int (nI y)), o4] [] (sL M c g) := by
            suffices F : ∀ (d : Nat) (y : Nat), 8 - y < d → y < 2 ^ 31 → (mI M 29 1).toInt ≤ y → ∀ (g : Nat → Int64) (o4 : Option Value), Fb (mI M 29) g z y 0 → Jd l E RX1 cX1_fillBox 5 none [] (rmm 3 0 0) (QfN E (fun v M1 => v = none ∧ ∃ g, M1 = sL M c g ∧ ∀ x y z, x < 8 → y < 8 → z < 8 → bw (g z) (y * 8 + x) = Bx (mI M 29) x y z) 0 0) 0 0 37 [some (.ref (eA E 7 c)), some (.ref (eA E 29 0)), some (.int (nI z)), some (.int (nI y)), o4] [] (sL M c g) from fun y => F 9 y (by omega)
            intro d
            induction d with
            | zero => intro y hd; exact absurd hd (Nat.not_lt_zero _)
            | succ d ihy0 =>
              intro y hd hy hy1 g o4 hg
              have ihy : ∀ y2, y2 = y + 1 → y < 8 → y2 < 2 ^ 31 → (mI M 29 1).toInt ≤ y2 → ∀ (g : Nat → Int64) (o4 : Option Value), Fb (mI M 29) g z y2 0 → Jd l E RX1 cX1_fillBox 5 none [] (rmm 3 0 0) (QfN E (fun v M1 => v = none ∧ ∃ g, M1 = sL M c g ∧ ∀ x y2 z, x < 8 → y2 < 8 → z < 8 → bw (g z) (y2 * 8 + x) = Bx (mI M 29) x y2 z) 0 0) 0 0 37 [some (.ref (eA E 7 c)), some (.ref (eA E 29 0)), some (.int (nI z)), some (.int (nI y2)), o4] [] (sL M c g) := fun y2 e h8 => ihy0 y2 (by omega)
              refine j_iln dX1_fillBox_37 rfl rfl ?_
              refine j_biN 8 dX1_fillBox_38 rfl ?_
              refine j_icgeN (tgt := 102) dX1_fillBox_40 (by decide) (by omega) (by omega) (fun h40 => ?_) (fun h40 => ?_)
              · have HS : 8 ≤ y ∨ ¬ (y : Int) < (mI M 29 1 + mI M 29 4).toInt := Or.inl h40
                refine j_incN_2 1 dX1_fillBox_102 rfl (by decide) rfl ?_
                refine j_goto (tgt := 12) dX1_fillBox_105 (by decide) ?_
                exact ihz (z + 1) rfl (by omega) (by omega) (by omega) g _ _ (Fb_y1 hg HS)
              · refine j_iln dX1_fillBox_43 rfl rfl ?_
                refine j_aln dX1_fillBox_44 rfl rfl ?_
                refine j_icN 1 dX1_fillBox_45 rfl ?_
                refine j_aildN dX1_fillBox_46 rfl rfl rfl (by decide) (by omega) ?_
                refine j_aln dX1_fillBox_47 rfl rfl ?_
                refine j_icN 4 dX1_fillBox_48 rfl ?_
                refine j_aildN dX1_fillBox_49 rfl rfl rfl (by decide) (by omega) ?_
                refine j_iadd dX1_fillBox_50 ?_
                refine j_icge (tgt := 102) dX1_fillBox_51 (by decide) (fun h51 => ?_) (fun h51 => ?_)
                · have HS : 8 ≤ y ∨ ¬ (y : Int) < (mI M 29 1 + mI M 29 4).toInt := Or.inr (fun g9 => absurd ((nIlt hy _).mpr g9) (Int32.not_lt.mpr h51))
                  refine j_incN_2 1 dX1_fillBox_102 rfl (by decide) rfl ?_
                  refine j_goto (tgt := 12) dX1_fillBox_105 (by decide) ?_
                  exact ihz (z + 1) rfl (by omega) (by omega) (by omega) g _ _ (Fb_y1 hg HS)
                · have h51 := (nIlt hy _).mp (Int32.not_le.mp h51)
                  refine j_icN 0 dX1_fillBox_54 rfl ?_
                  refine j_aln dX1_fillBox_55 rfl rfl ?_
                  refine j_icN 0 dX1_fillBox_56 rfl ?_
                  refine j_aildN dX1_fillBox_57 rfl rfl rfl (by decide) (by omega) ?_
                  refine j_mmax dX1_fillBox_58 ml_X1_46 (Nat.le_of_ble_eq_true rfl) (Nat.le_of_ble_eq_true rfl) (Nat.le_of_ble_eq_true rfl) (Nat.le_of_ble_eq_true rfl) ?_
                  obtain ⟨x0, hx0, ex, hx1, hx2⟩ := mx_0 (mI M 29 0)
                  rw [mI_sL, ex]
                  refine j_ist_4 dX1_fillBox_61 (by decide) rfl ?_
                  have KX : ∀ x : Nat, x < 2 ^ 31 → (mI M 29 0).toInt ≤ x → ∀ (g : Nat → Int64), Fb (mI M 29) g z y x → Jd l E RX1 cX1_fillBox 5 none [] (rmm 3 0 0) (QfN E (fun v M1 => v = none ∧ ∃ g, M1 = sL M c g ∧ ∀ x y z, x < 8 → y < 8 → z < 8 → bw (g z) (y * 8 + x) = Bx (mI M 29) x y z) 0 0) 0 0 63 [some (.ref (eA E 7 c)), some (.ref (eA E 29 0)), some (.int (nI z)), some (.int (nI y)), some (.int (nI x))] [] (sL M c g) := by
                    suffices F : ∀ (d : Nat) (x : Nat), 8 - x < d → x < 2 ^ 31 → (mI M 29 0).toInt ≤ x → ∀ (g : Nat → Int64), Fb (mI M 29) g z y x → Jd l E RX1 cX1_fillBox 5 none [] (rmm 3 0 0) (QfN E (fun v M1 => v = none ∧ ∃ g, M1 = sL M c g ∧ ∀ x y z, x < 8 → y < 8 → z < 8 → bw (g z) (y * 8 + x) = Bx (mI M 29) x y z) 0 0) 0 0 63 [some (.ref (eA E 7 c)), some (.ref (eA E 29 0)), some (.int (nI z)), some (.int (nI y)), some (.int (nI x))] [] (sL M c g) from fun x => F 9 x (by omega)
                    intro d
                    induction d with
                    | zero => intro x hd; exact absurd hd (Nat.not_lt_zero _)
                    | succ d ihx0 =>
                      intro x hd hx hx1 g hg
                      have ihx : ∀ x2, x2 = x + 1 → x < 8 → x2 < 2 ^ 31 → (mI M 29 0).toInt ≤ x2 → ∀ (g : Nat → Int64), Fb (mI M 29) g z y x2 → Jd l E RX1 cX1_fillBox 5 none [] (rmm 3 0 0) (QfN E (fun v M1 => v = none ∧ ∃ g, M1 = sL M c g ∧ ∀ x2 y z, x2 < 8 → y < 8 → z < 8 → bw (g z) (y * 8 + x2) = Bx (mI M 29) x2 y z) 0 0) 0 0 63 [some (.ref (eA E 7 c)), some (.ref (eA E 29 0)), some (.int (nI z)), some (.int (nI y)), some (.int (nI x2))] [] (sL M c g) := fun x2 e h8 => ihx0 x2 (by omega)
                      refine j_il dX1_fillBox_63 rfl ?_
                      refine j_biN 8 dX1_fillBox_65 rfl ?_
                      refine j_icgeN (tgt := 96) dX1_fillBox_67 (by decide) (by omega) (by omega) (fun h67 => ?_) (fun h67 => ?_)
                      · have HS : 8 ≤ x ∨ ¬ (x : Int) < (mI M 29 0 + mI M 29 3).toInt := Or.inl h67
                        refine j_incN_3 1 dX1_fillBox_96 rfl (by decide) rfl ?_
                        refine j_goto (tgt := 37) dX1_fillBox_99 (by decide) ?_
                        exact ihy (y + 1) rfl (by omega) (by omega) (by omega) g _ (Fb_x1 hg HS)
                      · refine j_il dX1_fillBox_70 rfl ?_
                        refine j_aln dX1_fillBox_72 rfl rfl ?_
                        refine j_icN 0 dX1_fillBox_73 rfl ?_
                        refine j_aildN dX1_fillBox_74 rfl rfl rfl (by decide) (by omega) ?_
                        refine j_aln dX1_fillBox_75 rfl rfl ?_
                        refine j_icN 3 dX1_fillBox_76 rfl ?_
                        refine j_aildN dX1_fillBox_77 rfl rfl rfl (by decide) (by omega) ?_
                        refine j_iadd dX1_fillBox_78 ?_
                        refine j_icge (tgt := 96) dX1_fillBox_79 (by decide) (fun h79 => ?_) (fun h79 => ?_)
                        · have HS : 8 ≤ x ∨ ¬ (x : Int) < (mI M 29 0 + mI M 29 3).toInt := Or.inr (fun g9 => absurd ((nIlt hx _).mpr g9) (Int32.not_lt.mpr h79))
                          refine j_incN_3 1 dX1_fillBox_96 rfl (by decide) rfl ?_
                          refine j_goto (tgt := 37) dX1_fillBox_99 (by decide) ?_
                          exact ihy (y + 1) rfl (by omega) (by omega) (by omega) g _ (Fb_x1 hg HS)
                        · have h79 := (nIlt hx _).mp (Int32.not_le.mp h79)
                          have hb : Bx (mI M 29) x y z = true := by simp only [Bx, inb, Bool.and_eq_true, decide_eq_true_eq]; exact ⟨⟨⟨hx1, h79⟩, hy1, h51⟩, hz1, h26⟩
                          refine j_aln dX1_fillBox_82 rfl rfl ?_
                          refine j_il dX1_fillBox_83 rfl ?_
                          refine j_iln dX1_fillBox_85 rfl rfl ?_
                          refine j_iln dX1_fillBox_86 rfl rfl ?_
                          refine j_V3n mf_X1_put ml_X1_51 dX1_fillBox_87 (Nat.le_of_ble_eq_true rfl) (Nat.le_of_ble_eq_true rfl) (Nat.le_of_ble_eq_true rfl) ⟨(Nat.le_of_ble_eq_true rfl), (Nat.le_of_ble_eq_true rfl)⟩ (by first | assumption | decide | (simp only [nv] at *; omega)) rfl rfl (c_X1_put hc) ?_
                          rw [sL_sL, mL_sL, if_pos rfl]
                          refine j_incN_4 1 dX1_fillBox_90 rfl (by decide) rfl ?_
                          refine j_goto (tgt := 63) dX1_fillBox_93 (by decide) ?_
                          exact ihx (x + 1) rfl (by omega) (by omega) (by omega) _ (Fb_p hg (by omega) (by omega) (by omega) hb)
                  exact KX x0 hx0 hx1 g (Fb_x0 hg hx2)
          exact KY y0 hy0 hy1 g _ (Fb_y0 hg hy2)
  refine j_aln dX1_fillBox_0 rfl rfl ?_
  refine j_V0n mf_X1_clear ml_X1_43 dX1_fillBox_1 (Nat.le_of_ble_eq_true rfl) (Nat.le_of_ble_eq_true rfl) (Nat.le_of_ble_eq_true rfl) ⟨(Nat.le_of_ble_eq_true rfl), (Nat.le_of_ble_eq_true rfl)⟩ (by first | assumption | decide | (simp only [nv] at *; omega)) rfl rfl (c_X1_clear hc) ?_
  refine j_icN 0 dX1_fillBox_4 rfl ?_
  refine j_aln dX1_fillBox_5 rfl rfl ?_
  refine j_icN 2 dX1_fillBox_6 rfl ?_
  refine j_aildN dX1_fillBox_7 rfl rfl rfl (by decide) (by omega) ?_
  refine j_mmax dX1_fillBox_8 ml_X1_46 (Nat.le_of_ble_eq_true rfl) (Nat.le_of_ble_eq_true rfl) (Nat.le_of_ble_eq_true rfl) (Nat.le_of_ble_eq_true rfl) ?_
  obtain ⟨z0, hz0, ez, hz1, hz2⟩ := mx_0 (mI M 29 2)
  rw [mI_sL, ez]
  refine j_ist_2 dX1_fillBox_11 (by decide) rfl ?_
  exact KZ z0 hz0 hz1 _ none none (Fb_z0 Fb_0 hz2)
