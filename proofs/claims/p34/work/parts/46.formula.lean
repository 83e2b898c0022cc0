/-! formulas: what their values settle to -/
theorem or8 : ∀ b, b < 256 → ∀ j, j < 8 → nI b ||| (nI 1 <<< (nI j &&& 31)) = nI (b ||| 2 ^ j) := by decide +kernel
theorem ndx_n {b : Nat} (hb : b < 256) (t : Int32) : ∃ c, c < 256 ∧ b ≤ c ∧ nI b ||| needX t = nI c := by
  unfold needX
  by_cases h : nmd t = true
  · obtain ⟨j, hj, -, h3⟩ := nmd_of h
    rw [if_pos h, h3, or8 b hb j hj]
    exact ⟨b ||| 2 ^ j, Nat.or_lt_two_pow (n := 8) hb (Nat.pow_lt_pow_right (by decide) hj), Nat.left_le_or, rfl⟩
  · rw [if_neg h]
    exact ⟨b, hb, Nat.le_refl _, Int32.or_zero⟩
theorem ndx_0 (s t : Int32) : ∃ c, c < 256 ∧ needX s ||| needX t = nI c := by
  obtain ⟨c, hc, -, e⟩ := ndx_n (b := 0) (by decide) s
  rw [show nI 0 ||| needX s = needX s from Int32.zero_or] at e
  rw [e]
  obtain ⟨d, hd, -, e2⟩ := ndx_n hc t
  exact ⟨d, hd, e2⟩
theorem ndk_n {F S : Nat → Int32} {a : Nat} (ha : a < 256) (k : Nat) : ∃ c, c < 256 ∧ a ≤ c ∧ ndK F S (nI a) k = nI c := by
  induction k with
  | zero => exact ⟨a, ha, Nat.le_refl _, ndK_0 F S (nI a)⟩
  | succ k ih =>
    obtain ⟨c, hc, hac, e⟩ := ih
    rw [ndK_s F S (nI a) k, e]
    by_cases h : hasB (nI c) k = true
    · rw [if_pos h, ← Int32.or_assoc]
      obtain ⟨d, hd, hcd, e2⟩ := ndx_n hc (F k)
      obtain ⟨f, hf, hdf, e3⟩ := ndx_n hd (S k)
      rw [e2, e3]
      exact ⟨f, hf, by omega, rfl⟩
    · rw [if_neg h]
      exact ⟨c, hc, hac, rfl⟩
theorem upd_back (f : Nat → Int32) (n : Nat) (a : Int32) : upd (upd f n a) n (f n) = f := by
  funext j
  unfold upd
  by_cases q : j = n
  · rw [if_pos q, q]
  · rw [if_neg q, if_neg q]
theorem cut_b (x : Int32) : -99 ≤ (cutX x).toInt ∧ (cutX x).toInt ≤ 99 := by
  have h1 : (-99 : Int32).toInt = -99 := by decide
  have h2 : (nI 99).toInt = 99 := by decide
  unfold cutX mxI mnI
  by_cases q : x < nI 99
  · rw [if_pos q]
    have q1 := Int32.lt_iff_toInt_lt.mp q
    by_cases g : (-99 : Int32) < x
    · rw [if_pos g]
      have g1 := Int32.lt_iff_toInt_lt.mp g
      omega
    · rw [if_neg g]; omega
  · rw [if_neg q, if_pos (by decide)]; omega
def opE (x y : Int32) : Prop := x = y ∨ (x = 0 ∧ y = nI 43)
theorem nI_bv (m : Nat) : (nI m).toBitVec = BitVec.ofNat 32 m := rfl
theorem nI_bit (m : Nat) {k : Nat} (hk : k < 32) : (nI m).toBitVec.getLsbD k = m.testBit k := by
  rw [nI_bv, BitVec.getLsbD_ofNat, decide_eq_true hk, Bool.true_and]
theorem nI_ext {x : Int32} {m : Nat} (h : ∀ k, k < 32 → x.toBitVec.getLsbD k = m.testBit k) : x = nI m := Int32.toBitVec_inj.mp (BitVec.eq_of_getLsbD_eq fun i hi => by rw [h i hi, nI_bit m hi])
theorem nI_or (a b : Nat) : nI a ||| nI b = nI (a ||| b) := nI_ext fun k hk => by rw [Int32.toBitVec_or, BitVec.getLsbD_or, nI_bit a hk, nI_bit b hk, Nat.testBit_or]
theorem upd_at (f : Nat → Int32) (i : Nat) (v : Int32) (j : Nat) : upd f i v j = if j = i then v else f j := rfl
theorem coc_t {Me M1 : Mm} {bar2 bc : Nat} {fr2 : Nat → Nat} (h : cocP Me bar2 bc fr2 M1) (t : Nat) (ht : ¬ (t = 1 ∨ (28 ≤ t ∧ t ≤ 32))) : mI M1 t = mI Me t := by
  obtain ⟨lo, Mp, -, -, -, -, hLI, rfl⟩ := h
  rw [mI_sI, if_neg (by omega), hLI.1 t (by omega)]
theorem sv_val {v w : Nat → Int32} {t : Int32} (h : ∀ j, j < 8 → t = nI (100 + j) → v j = w j) : valX v t = valX w t := by
  unfold valX
  by_cases e : nmd t = true
  · obtain ⟨j, hj, h1, h2⟩ := nmd_of e
    rw [if_pos e, if_pos e, h2, nI_clamp (by omega)]; exact h j hj h1
  · rw [if_neg e, if_neg e]
def edX (F S : Nat → Int32) (n m : Nat) : Prop := F n = nI (100 + m) ∨ S n = nI (100 + m)
theorem sv_out {F O S F' O' S' v w : Nat → Int32} {n : Nat} (hF : F' n = F n) (hS : S' n = S n) (hO : opE (O n) (O' n)) (h : ∀ j, j < 8 → edX F S n j → v j = w j) : outX F O S v n = outX F' O' S' w n := by
  have a := sv_val (t := F n) fun j hj e => h j hj (Or.inl e)
  have b := sv_val (t := S n) fun j hj e => h j hj (Or.inr e)
  unfold outX
  rw [hF, hS, a, b]
  rcases hO with e | ⟨e1, e2⟩
  · rw [e]
  · rw [e1, e2, if_neg (show ¬ (0 : Int32) = nI 42 by decide), if_neg (show ¬ (0 : Int32) = nI 45 by decide), if_neg (show ¬ nI 43 = nI 42 by decide), if_neg (show ¬ nI 43 = nI 45 by decide)]
theorem sv_ge {F O S v : Nat → Int32} : ∀ k m, k ≤ m → rdX F O S v k m = v m := by
  intro k
  induction k with
  | zero => intro m _; rw [rdX_0]
  | succ k ih =>
    intro m h
    rw [rdX_s, upd_at, if_neg (by omega)]
    exact ih m (by omega)
theorem sv_at {F O S v : Nat → Int32} : ∀ k m, m < k → rdX F O S v k m = cutX (outX F O S (rdX F O S v m) m) := by
  intro k
  induction k with
  | zero => intro m h; omega
  | succ k ih =>
    intro m h
    rw [rdX_s, upd_at]
    by_cases e : m = k
    · rw [if_pos e, e]
    · rw [if_neg e]; exact ih m (by omega)
theorem sv_mix {F O S v : Nat → Int32} {m j : Nat} (hj : j < 8) : rdX F O S v m j = if j < m then rdX F O S v 8 j else v j := by
  by_cases e : j < m
  · rw [if_pos e, sv_at m j e, sv_at 8 j hj]
  · rw [if_neg e]; exact sv_ge m j (by omega)
theorem sv_rge {F O S v : Nat → Int32} {m : Nat} (h : 8 ≤ m) : ∀ r, rrX F O S v r m = v m := by
  intro r
  induction r with
  | zero => rw [rrX_0]
  | succ r ih => rw [rrX_s, sv_ge 8 m h, ih]
theorem sv_rd {F O S F' O' S' v w : Nat → Int32} (hF : ∀ n, n < 8 → F' n = F n) (hS : ∀ n, n < 8 → S' n = S n) (hO : ∀ n, n < 8 → opE (O n) (O' n)) (hv : ∀ n, n < 8 → v n = w n) : ∀ k, k ≤ 8 → ∀ n, n < 8 → rdX F O S v k n = rdX F' O' S' w k n := by
  intro k
  induction k with
  | zero => intro _ n hn; rw [rdX_0, rdX_0]; exact hv n hn
  | succ k ih =>
    intro hk n hn
    rw [rdX_s, rdX_s, upd_at, upd_at]
    by_cases e : n = k
    · rw [if_pos e, if_pos e]
      exact congrArg cutX (sv_out (hF k (by omega)) (hS k (by omega)) (hO k (by omega)) fun j hj _ => ih (by omega) j hj)
    · rw [if_neg e, if_neg e]; exact ih (by omega) n hn
theorem sv_rr {F O S F' O' S' v w : Nat → Int32} (hF : ∀ n, n < 8 → F' n = F n) (hS : ∀ n, n < 8 → S' n = S n) (hO : ∀ n, n < 8 → opE (O n) (O' n)) (hv : ∀ n, n < 8 → v n = w n) : ∀ r, ∀ n, n < 8 → rrX F O S v r n = rrX F' O' S' w r n := by
  intro r
  induction r with
  | zero => intro n hn; rw [rrX_0, rrX_0]; exact hv n hn
  | succ r ih => intro n hn; rw [rrX_s, rrX_s]; exact sv_rd hF hS hO ih 8 (Nat.le_refl _) n hn
/-- what values settle to -/
def solX (F O S : Nat → Int32) : Nat → Nat → Int32
  | 0 => fun _ => 0
  | r + 1 => fun n => cutX (outX F O S (solX F O S r) n)
theorem sv_sol {F O S v : Nat → Int32} {σ : Nat → Nat} (h : ∀ n, n < 8 → ∀ m, m < 8 → edX F S n m → σ m < σ n) : ∀ r m, m < 8 → σ m < r → ∀ s, σ m < s → rrX F O S v r m = solX F O S s m := by
  intro r
  induction r with
  | zero => intro m _ h; omega
  | succ r ih =>
    intro m
    induction m using Nat.strongRecOn with
    | ind m im =>
      intro hm hr s hs
      obtain ⟨s, rfl⟩ : ∃ s', s = s' + 1 := ⟨s - 1, by omega⟩
      rw [rrX_s, sv_at 8 m hm]
      show _ = cutX (outX F O S (solX F O S s) m)
      refine congrArg cutX (sv_out rfl rfl (Or.inl rfl) fun j hj e => ?_)
      have hlt := h m hm j hj e
      rw [sv_mix hj]
      by_cases c : j < m
      · rw [if_pos c, ← rrX_s]; exact im j c hj (by omega) s (by omega)
      · rw [if_neg c]; exact ih j hj (by omega) s (by omega)
/-- ranks under 8 -/
def nbl (p : Nat → Nat) (x : Nat) : Nat → Nat
  | 0 => 0
  | k + 1 => if p k < x then nbl p x k + 1 else nbl p x k
theorem nbl_s (p : Nat → Nat) (x k : Nat) : nbl p x (k + 1) = if p k < x then nbl p x k + 1 else nbl p x k := rfl
theorem nbl_le {p : Nat → Nat} {x : Nat} : ∀ k, nbl p x k ≤ k := by
  intro k
  induction k with
  | zero => exact Nat.le_refl _
  | succ k ih => rw [nbl_s]; split <;> omega
theorem nbl_lt {p : Nat → Nat} {x m : Nat} (hx : x ≤ p m) : ∀ k, m < k → nbl p x k < k := by
  intro k
  induction k with
  | zero => intro h; omega
  | succ k ih =>
    intro h
    rw [nbl_s]
    by_cases e : m = k
    · rw [if_neg (by rw [← e]; omega)]
      have := nbl_le (p := p) (x := x) k
      omega
    · have := ih (by omega)
      split <;> omega
theorem nbl_mo {p : Nat → Nat} {x y : Nat} (h : x ≤ y) : ∀ k, nbl p x k ≤ nbl p y k := by
  intro k
  induction k with
  | zero => exact Nat.le_refl _
  | succ k ih => rw [nbl_s, nbl_s]; split <;> split <;> omega
theorem nbl_st {p : Nat → Nat} {x y m : Nat} (h1 : x ≤ p m) (h2 : p m < y) : ∀ k, m < k → nbl p x k < nbl p y k := by
  intro k
  induction k with
  | zero => intro h; omega
  | succ k ih =>
    intro h
    rw [nbl_s, nbl_s]
    by_cases e : m = k
    · rw [if_neg (by rw [← e]; omega), if_pos (by rw [← e]; exact h2)]
      have := nbl_mo (p := p) (x := x) (y := y) (by omega) k
      omega
    · have := ih (by omega)
      split <;> split <;> omega
theorem sv_acy {F S : Nat → Int32} (h : acy F S) : ∃ σ : Nat → Nat, (∀ n, n < 8 → σ n < 8) ∧ ∀ n, n < 8 → ∀ m, m < 8 → edX F S n m → σ m < σ n := by
  obtain ⟨ρ, h⟩ := h
  refine ⟨fun n => nbl ρ (ρ n) 8, fun n hn => nbl_lt (Nat.le_refl _) 8 hn, fun n hn m hm e => ?_⟩
  exact nbl_st (Nat.le_refl _) (h n hn m hm e) 8 hm
theorem sv_fix {F O S v : Nat → Int32} (h : acy F S) : ∀ m, m < 8 → rdX F O S (rrX F O S v 8) 8 m = rrX F O S v 8 m := by
  obtain ⟨σ, h1, h2⟩ := sv_acy h
  intro m hm
  have := h1 m hm
  rw [← rrX_s, sv_sol h2 9 m hm (by omega) 8 this, sv_sol h2 8 m hm this 8 this]
theorem sv_st {F O S v : Nat → Int32} (hv : ∀ n, n < 8 → rdX F O S v 8 n = v n) : ∀ r n, n < 8 → rrX F O S v r n = v n := by
  intro r
  induction r with
  | zero => intro n _; rw [rrX_0]
  | succ r ih =>
    intro n hn
    rw [rrX_s, sv_rd (fun _ _ => rfl) (fun _ _ => rfl) (fun _ _ => Or.inl rfl) ih 8 (Nat.le_refl _) n hn]
    exact hv n hn
theorem sv_same {F O S v : Nat → Int32} (hv : ∀ n, n < 8 → rdX F O S v 8 n = v n) : rrX F O S v 8 = v := by
  funext m
  by_cases e : m < 8
  · exact sv_st hv 8 m e
  · exact sv_rge (by omega) 8
/-- the values are found again from any others -/
theorem sv_back {F O S v w : Nat → Int32} (h : acy F S) (hv : ∀ n, n < 8 → rdX F O S v 8 n = v n) (hw : ∀ m, 8 ≤ m → w m = v m) : rrX F O S w 8 = v := by
  obtain ⟨σ, h1, h2⟩ := sv_acy h
  funext m
  by_cases e : m < 8
  · have := h1 m e
    rw [sv_sol h2 8 m e this 8 this, ← sv_sol (v := v) h2 8 m e this 8 this]
    exact sv_st hv 8 m e
  · rw [sv_rge (by omega)]; exact hw m (by omega)
theorem hb_n : ∀ c, c < 256 → ∀ k, k < 8 → (hasB (nI c) k = true ↔ c.testBit k = true) := by decide +kernel
theorem hb_p : ∀ j, j < 8 → ∀ k, k < 8 → (hasB (nI 1 <<< (nI j &&& 31)) k = true ↔ j = k) := by decide +kernel
theorem hb_0 : ∀ k, k < 8 → hasB (nI 0) k = false := by decide
theorem nmd_n : ∀ k, k < 8 → nmd (nI (100 + k)) = true := by decide
def sm8 (x : Int32) : Prop := ∃ c, c < 256 ∧ x = nI c
theorem hb_or {x y : Int32} (hx : sm8 x) (hy : sm8 y) {k : Nat} (hk : k < 8) : hasB (x ||| y) k = true ↔ hasB x k = true ∨ hasB y k = true := by
  obtain ⟨c, hc, rfl⟩ := hx
  obtain ⟨d, hd, rfl⟩ := hy
  rw [nI_or, hb_n _ (Nat.or_lt_two_pow (n := 8) hc hd) k hk, hb_n c hc k hk, hb_n d hd k hk, Nat.testBit_or, Bool.or_eq_true]
theorem hb_need {t : Int32} {k : Nat} (hk : k < 8) : hasB (needX t) k = true ↔ t = nI (100 + k) := by
  unfold needX
  by_cases e : nmd t = true
  · obtain ⟨j, hj, h1, h2⟩ := nmd_of e
    rw [if_pos e, h2, hb_p j hj k hk, h1, nI_eq (by omega) (by omega)]
    omega
  · rw [if_neg e, hb_0 k hk]
    refine ⟨fun h => absurd h (by decide), fun h => absurd (nmd_n k hk) (by rw [← h]; exact e)⟩
theorem s8_0 : sm8 (nI 0) := ⟨0, by decide, rfl⟩
theorem s8_need (t : Int32) : sm8 (needX t) := by
  obtain ⟨c, hc, -, e⟩ := ndx_n (b := 0) (by decide) t
  exact ⟨c, hc, by rw [← e]; exact Int32.zero_or.symm⟩
theorem s8_nn (s t : Int32) : sm8 (needX s ||| needX t) := by
  obtain ⟨c, hc, e⟩ := ndx_0 s t
  exact ⟨c, hc, e⟩
theorem hb_nn {s t : Int32} {k : Nat} (hk : k < 8) : hasB (needX s ||| needX t) k = true ↔ s = nI (100 + k) ∨ t = nI (100 + k) := by
  rw [hb_or (s8_need s) (s8_need t) hk, hb_need hk, hb_need hk]
theorem s8_K {F S : Nat → Int32} {x : Int32} (h : sm8 x) (k : Nat) : sm8 (ndK F S x k) := by
  obtain ⟨c, hc, rfl⟩ := h
  obtain ⟨d, hd, -, e⟩ := ndk_n (F := F) (S := S) hc k
  exact ⟨d, hd, e⟩
theorem s8_R {F S : Nat → Int32} {x : Int32} (h : sm8 x) : ∀ r, sm8 (ndR F S x r) := by
  intro r
  induction r with
  | zero => rw [ndR_0]; exact h
  | succ r ih => rw [ndR_s]; exact s8_K ih 8
theorem kb_s {F S : Nat → Int32} {x : Int32} (h : sm8 x) {k m : Nat} (hm : m < 8) : hasB (ndK F S x (k + 1)) m = true ↔ hasB (ndK F S x k) m = true ∨ (hasB (ndK F S x k) k = true ∧ edX F S k m) := by
  rw [ndK_s]
  by_cases e : hasB (ndK F S x k) k = true
  · rw [if_pos e, hb_or (s8_K h k) (s8_nn _ _) hm, hb_nn hm]
    exact ⟨fun z => z.imp id fun z => ⟨e, z⟩, fun z => z.imp id fun z => z.2⟩
  · rw [if_neg e]
    exact ⟨Or.inl, fun z => z.elim id fun z => absurd z.1 e⟩
theorem kb_mo {F S : Nat → Int32} {x : Int32} (h : sm8 x) {m : Nat} (hm : m < 8) {k : Nat} : ∀ d, hasB (ndK F S x k) m = true → hasB (ndK F S x (k + d)) m = true := by
  intro d
  induction d with
  | zero => exact id
  | succ d ih => intro z; exact (kb_s h hm).mpr (Or.inl (ih z))
theorem kb_in {F S : Nat → Int32} {x : Int32} (h : sm8 x) {m : Nat} (hm : m < 8) (z : hasB x m = true) (k : Nat) : hasB (ndK F S x k) m = true := by
  have := kb_mo (F := F) (S := S) (k := 0) h hm k (by rw [ndK_0]; exact z)
  rw [Nat.zero_add] at this; exact this
/-- a round takes up what the names of a set need -/
theorem kb_ed {F S : Nat → Int32} {x : Int32} (h : sm8 x) {n m : Nat} (hn : n < 8) (hm : m < 8) (z : hasB x n = true) (e : edX F S n m) : hasB (ndK F S x 8) m = true := by
  have := kb_mo (F := F) (S := S) (k := n + 1) h hm (8 - (n + 1)) ((kb_s h hm).mpr (Or.inr ⟨kb_in h hn z n, e⟩))
  rw [show n + 1 + (8 - (n + 1)) = 8 by omega] at this; exact this
def cloE (F S : Nat → Int32) (C : Nat → Prop) : Prop := ∀ n, n < 8 → C n → ∀ m, m < 8 → edX F S n m → C m
theorem kb_sub {F S : Nat → Int32} {x : Int32} {C : Nat → Prop} (h : sm8 x) (hC : cloE F S C) (hx : ∀ m, m < 8 → hasB x m = true → C m) : ∀ k, k ≤ 8 → ∀ m, m < 8 → hasB (ndK F S x k) m = true → C m := by
  intro k
  induction k with
  | zero => intro _ m hm z; rw [ndK_0] at z; exact hx m hm z
  | succ k ih =>
    intro hk m hm z
    rcases (kb_s h hm).mp z with z | ⟨z, e⟩
    · exact ih (by omega) m hm z
    · exact hC k (by omega) (ih (by omega) k (by omega) z) m hm e
theorem rb_sub {F S : Nat → Int32} {x : Int32} {C : Nat → Prop} (h : sm8 x) (hC : cloE F S C) (hx : ∀ m, m < 8 → hasB x m = true → C m) : ∀ r m, m < 8 → hasB (ndR F S x r) m = true → C m := by
  intro r
  induction r with
  | zero => intro m hm z; rw [ndR_0] at z; exact hx m hm z
  | succ r ih => intro m hm z; rw [ndR_s] at z; exact kb_sub (s8_R h r) hC ih 8 (Nat.le_refl _) m hm z
theorem rb_in {F S : Nat → Int32} {x : Int32} (h : sm8 x) {m : Nat} (hm : m < 8) (z : hasB x m = true) : ∀ r, hasB (ndR F S x r) m = true := by
  intro r
  induction r with
  | zero => rw [ndR_0]; exact z
  | succ r ih => rw [ndR_s]; exact kb_in (s8_R h r) hm ih 8
/-- how many names of a set -/
def nbB (p : Nat → Bool) : Nat → Nat
  | 0 => 0
  | k + 1 => if p k = true then nbB p k + 1 else nbB p k
theorem nbB_s (p : Nat → Bool) (k : Nat) : nbB p (k + 1) = if p k = true then nbB p k + 1 else nbB p k := rfl
theorem nbB_le {p : Nat → Bool} : ∀ k, nbB p k ≤ k := by
  intro k
  induction k with
  | zero => exact Nat.le_refl _
  | succ k ih => rw [nbB_s]; split <;> omega
theorem nbB_mo {p q : Nat → Bool} : ∀ k, (∀ j, j < k → p j = true → q j = true) → nbB p k ≤ nbB q k := by
  intro k
  induction k with
  | zero => intro _; exact Nat.le_refl _
  | succ k ih =>
    intro h
    have := ih fun j hj => h j (by omega)
    have hk := h k (by omega)
    rw [nbB_s, nbB_s]
    by_cases e : p k = true
    · rw [if_pos e, if_pos (hk e)]; omega
    · rw [if_neg e]; split <;> omega
theorem nbB_st {p q : Nat → Bool} {m : Nat} (h1 : ¬ p m = true) (h2 : q m = true) : ∀ k, m < k → (∀ j, j < k → p j = true → q j = true) → nbB p k < nbB q k := by
  intro k
  induction k with
  | zero => intro h; omega
  | succ k ih =>
    intro hm h
    rw [nbB_s, nbB_s]
    by_cases e : m = k
    · subst e
      have := nbB_mo m fun j hj => h j (by omega)
      rw [if_neg h1, if_pos h2]; omega
    · have := ih (by omega) fun j hj => h j (by omega)
      have hk := h k (by omega)
      by_cases c : p k = true
      · rw [if_pos c, if_pos (hk c)]; omega
      · rw [if_neg c]; split <;> omega
theorem nbB_0 {p : Nat → Bool} {m : Nat} (h : p m = true) : ∀ k, m < k → 1 ≤ nbB p k := by
  intro k
  induction k with
  | zero => intro h; omega
  | succ k ih =>
    intro hm
    rw [nbB_s]
    by_cases e : m = k
    · subst e; rw [if_pos h]; omega
    · have := ih (by omega)
      split <;> omega
theorem rb_clo {F S : Nat → Int32} {x : Int32} (h : sm8 x) : ∀ r, cloE F S (fun m => hasB (ndR F S x r) m = true) ∨ r + 1 ≤ nbB (hasB (ndR F S x r)) 8 := by
  intro r
  induction r with
  | zero =>
    by_cases e : ∃ m, m < 8 ∧ hasB (ndR F S x 0) m = true
    · obtain ⟨m, hm, e⟩ := e
      exact Or.inr (nbB_0 e 8 hm)
    · exact Or.inl fun n hn z => absurd ⟨n, hn, z⟩ e
  | succ r ih =>
    have h8 := s8_R (F := F) (S := S) h r
    by_cases c : cloE F S (fun m => hasB (ndR F S x r) m = true)
    · left
      intro n hn z m hm e
      rw [ndR_s] at z ⊢
      exact kb_in h8 hm (c n hn (kb_sub h8 c (fun _ _ z => z) 8 (Nat.le_refl _) n hn z) m hm e) 8
    · right
      have ih := ih.resolve_left c
      obtain ⟨n, hn, z, m, hm, e, g⟩ : ∃ n, n < 8 ∧ hasB (ndR F S x r) n = true ∧ ∃ m, m < 8 ∧ edX F S n m ∧ ¬ hasB (ndR F S x r) m = true := by
        refine Classical.byContradiction fun w => c fun n hn z m hm e => Classical.byContradiction fun g => w ⟨n, hn, z, m, hm, e, g⟩
      have := nbB_st (p := hasB (ndR F S x r)) (q := hasB (ndR F S x (r + 1))) g (by rw [ndR_s]; exact kb_ed h8 hn hm z e) 8 hm fun j hj z => by rw [ndR_s]; exact kb_in h8 hj z 8
      omega
theorem rb_clo8 {F S : Nat → Int32} {x : Int32} (h : sm8 x) : cloE F S (fun m => hasB (ndR F S x 8) m = true) := by
  rcases rb_clo (F := F) (S := S) h 8 with g | g
  · exact g
  · have := nbB_le (p := hasB (ndR F S x 8)) 8
    omega
/-- a formula that its name doesn't need -/
theorem acy_new {F S F' S' : Nat → Int32} {n : Nat} {a b : Int32} (hn : n < 8) (hF : ∀ k, k < 8 → ¬ k = n → F' k = F k ∧ S' k = S k) (ha : F' n = a) (hb : S' n = b) (h : acy F S) (hno : hasB (ndR F S (needX a ||| needX b) 8) n = false) : acy F' S' := by
  obtain ⟨σ, h1, h2⟩ := sv_acy h
  have h8 := s8_nn a b
  have hcx := rb_clo8 (F := F) (S := S) h8
  have hin := fun m hm z => rb_in (F := F) (S := S) (m := m) h8 hm z 8
  generalize ndR F S (needX a ||| needX b) 8 = X at *
  refine ⟨fun j => if hasB X j = true then σ j else σ j + 8, fun k hk m hm e => ?_⟩
  show (if hasB X m = true then σ m else σ m + 8) < if hasB X k = true then σ k else σ k + 8
  have s1 := h1 m hm
  by_cases q : k = n
  · subst q
    rw [ha, hb] at e
    rw [if_pos (hin m hm ((hb_nn hm).mpr e)), if_neg (by rw [hno]; decide)]
    omega
  · rw [(hF k hk q).1, (hF k hk q).2] at e
    have s2 := h2 k hk m hm e
    by_cases z : hasB X k = true
    · rw [if_pos z, if_pos (hcx k hk z m hm e)]; exact s2
    · rw [if_neg z]; split <;> omega
theorem pF9_t {M : Mm} {n : Nat} {a c b : Int32} {t : Nat} (h : ¬ (20 ≤ t ∧ t ≤ 23)) : mI (putF M n a c b) t = mI M t := by
  unfold putF put3
  rw [mI_sI, if_neg (by omega), mI_sI, if_neg (by omega), mI_sI, if_neg (by omega), mI_sI, if_neg (by omega)]
theorem pF9_4 (M : Mm) (n : Nat) (a c b : Int32) : mI (putF M n a c b) 20 = upd (mI M 20) n a ∧ mI (putF M n a c b) 21 = upd (mI M 21) n c ∧ mI (putF M n a c b) 22 = upd (mI M 22) n b ∧ mI (putF M n a c b) 23 = rrX (upd (mI M 20) n a) (upd (mI M 21) n c) (upd (mI M 22) n b) (mI M 23) 8 := by
  unfold putF put3
  refine ⟨?_, ?_, ?_, ?_⟩
  · rw [mI_sI, if_neg (by decide), mI_sI, if_neg (by decide), mI_sI, if_neg (by decide), mI_sI, if_pos rfl]
  · rw [mI_sI, if_neg (by decide), mI_sI, if_neg (by decide), mI_sI, if_pos rfl]
  · rw [mI_sI, if_neg (by decide), mI_sI, if_pos rfl]
  · rw [mI_sI, if_pos rfl]
theorem pF9_back {M : Mm} {n : Nat} {a c b : Int32} (h : ∀ w, (∀ m, 8 ≤ m → w m = mI M 23 m) → rrX (mI M 20) (mI M 21) (mI M 22) w 8 = mI M 23) : putF (putF M n a c b) n (mI M 20 n) (mI M 21 n) (mI M 22 n) = M := by
  obtain ⟨m20, m21, m22, m23⟩ := pF9_4 M n a c b
  have ht := fun t => pF9_t (M := M) (n := n) (a := a) (c := c) (b := b) (t := t)
  have h2 : (putF M n a c b).2 = M.2 := rfl
  generalize putF M n a c b = A at *
  have e := h (mI A 23) fun m hm => by rw [m23]; exact sv_rge hm 8
  unfold putF put3
  rw [m20, m21, m22, upd_back, upd_back, upd_back, e]
  refine Prod.ext (funext fun t => ?_) h2
  show (if t = 23 then mI M 23 else if t = 22 then mI M 22 else if t = 21 then mI M 21 else if t = 20 then mI M 20 else mI A t) = mI M t
  by_cases c1 : t = 23
  · rw [if_pos c1, c1]
  rw [if_neg c1]
  by_cases c2 : t = 22
  · rw [if_pos c2, c2]
  rw [if_neg c2]
  by_cases c3 : t = 21
  · rw [if_pos c3, c3]
  rw [if_neg c3]
  by_cases c4 : t = 20
  · rw [if_pos c4, c4]
  rw [if_neg c4]
  exact ht t (by omega)
