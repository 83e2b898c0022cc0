/-! the model: its invariant; setBar, putOff, setSize -/
def MV (M : Mm) (gv cnt bar : Nat) (fr : Nat → Nat) : Prop :=
  (mI M 12 5 = nI gv ∧ gv ≤ 40) ∧ (mI M 12 6 = nI cnt ∧ cnt ≤ 12) ∧ (mI M 12 7 = nI bar ∧ bar ≤ cnt) ∧ (∀ k, k < cnt → mI M 44 k = nI (fr k) ∧ fr k < gv) ∧ (∀ i j, i < cnt → j < cnt → fr i = fr j → i = j) ∧
  (∀ g, g < 40 → (¬ mI M 47 g = 0 ↔ ∃ k, k < cnt ∧ fr k = g)) ∧ (∀ k, k < 240 → mT (mI M 46 k) = true) ∧ (∀ n, n < 8 → mT (mI M 40 n) = true ∧ mT (mI M 41 n) = true ∧ isOp (mI M 42 n) = true) ∧
  (∀ n, n < 8 → -99 ≤ (mI M 43 n).toInt ∧ (mI M 43 n).toInt ≤ 99) ∧ ∀ g, g < 40 → mI M 48 g = 0 ∨ mI M 48 g = nI 1
theorem MV_c {M M' : Mm} {gv cnt bar : Nat} {fr : Nat → Nat} (h : MV M gv cnt bar fr) (h5 : mI M' 12 5 = mI M 12 5) (h6 : mI M' 12 6 = mI M 12 6) (h7 : mI M' 12 7 = mI M 12 7) (ht : ∀ t, 40 ≤ t → t ≤ 48 → mI M' t = mI M t) : MV M' gv cnt bar fr := by
  unfold MV
  rw [h5, h6, h7, ht 44 (by omega) (by omega), ht 47 (by omega) (by omega), ht 46 (by omega) (by omega), ht 40 (by omega) (by omega), ht 41 (by omega) (by omega), ht 42 (by omega) (by omega), ht 43 (by omega) (by omega), ht 48 (by omega) (by omega)]
  exact h
theorem MV_row {M : Mm} {gv cnt bar : Nat} {fr : Nat → Nat} (h : MV M gv cnt bar fr) {k : Nat} (hk : k < cnt) : mI M 44 k = nI (fr k) ∧ fr k < 40 := ⟨(h.2.2.2.1 k hk).1, by have := (h.2.2.2.1 k hk).2; have := h.1.2; omega⟩
theorem mTm_b {v : Nat → Int32} (hv : ∀ n, n < 8 → -99 ≤ (v n).toInt ∧ (v n).toInt ≤ 99) {t : Int32} (h : mT t = true) : -99 ≤ (mTm v t).toInt ∧ (mTm v t).toInt ≤ 99 := by
  unfold mTm
  by_cases q : t < nI 100
  · rw [if_pos q]
    unfold mT at h
    rcases Bool.or_eq_true_iff.mp h with g | g
    · have g := inX_i.mp g
      have g1 := Int32.le_iff_toInt_le.mp (Int32.not_lt.mp g.1)
      have g2 := Int32.le_iff_toInt_le.mp (Int32.not_lt.mp g.2)
      rw [nI_toInt (by decide)] at g2
      have g3 : (-20 : Int32).toInt = -20 := by decide
      omega
    · exact absurd q (inX_i.mp g).1
  · rw [if_neg q]
    obtain ⟨w, h1, h2, rfl⟩ := mT_n h q
    rw [ntX_nI (by omega)]
    exact hv _ (by omega)
theorem MV_B {M : Mm} {gv cnt bar : Nat} {fr : Nat → Nat} (h : MV M gv cnt bar fr) : ∀ f, f < 40 → ∀ w, w < 6 → (dmX M f w).toInt ≤ 99 := fun f hf w hw => (mTm_b h.2.2.2.2.2.2.2.2.1 (h.2.2.2.2.2.2.1 (6 * f + w) (by omega))).2
theorem MV_pl {M : Mm} {gv cnt bar : Nat} {fr : Nat → Nat} (h : MV M gv cnt bar fr) : ∀ x, mF M x = true → ∃ p, p < cnt ∧ mI M 44 p = x ∧ ∀ j, j < p → ¬ mI M 44 j = x := by
  intro x hx
  obtain ⟨g, hg, rfl⟩ := mF_n h.1.1 h.1.2 hx
  have hg40 := h.1.2
  unfold mF at hx
  have h2 := of_decide_eq_true ((Bool.and_eq_true_iff.mp hx).2)
  rw [ntX_nI (by omega)] at h2
  obtain ⟨p, hp, e⟩ := (h.2.2.2.2.2.1 g (by omega)).mp h2
  refine ⟨p, hp, by rw [(MV_row h hp).1, e], fun j hj q => ?_⟩
  rw [(MV_row h (by omega)).1] at q
  have hj40 := (MV_row h (show j < cnt by omega)).2
  have := (nI_eq (by omega) (by omega)).mp q
  exact absurd (h.2.2.2.2.1 j p (by omega) hp (this.trans e.symm)) (by omega)
theorem MV_mF {M : Mm} {gv cnt bar : Nat} {fr : Nat → Nat} (h : MV M gv cnt bar fr) {g : Nat} (hg : g < 40) : mF M (nI g) = true ↔ ∃ k, k < cnt ∧ fr k = g := by
  have hb : ∀ a, a ≤ 40 → ∀ g, g < 40 → (inX (nI g) (nI 0) (nI a - nI 1) = true ↔ g < a) := by decide +kernel
  unfold mF
  rw [h.1.1, Bool.and_eq_true_iff, decide_eq_true_iff, ntX_nI (by omega), hb gv h.1.2 g hg, h.2.2.2.2.2.1 g hg]
  constructor
  · exact fun q => q.2
  · rintro ⟨k, hk, e⟩
    exact ⟨by rw [← e]; exact (h.2.2.2.1 k hk).2, k, hk, e⟩
def rmP (M M' : Mm) (S : Nat → Prop) : Prop := M'.2 = M.2 ∧ (∀ t, ¬ (t = 12 ∨ t = 50 ∨ t = 51 ∨ t = 52) → ¬ S t → mI M' t = mI M t) ∧ (mI M' 12 15 = mI M 12 6 ∧ mI M' 12 16 = mI M 12 7 ∧ mI M' 12 0 = nI 0 ∧ mI M' 12 27 = mI M 12 27 ∧ mI M' 12 31 = mI M 12 31) ∧ (∀ k, k < 13 → mI M' 50 k = mI M 44 k) ∧ (∀ k, k < 240 → mI M' 51 k = mTm (mI M 43) (mI M 46 k)) ∧ ∀ k, k < 40 → mI M' 52 k = mI M 48 k
abbrev reM (M : Mm) : Mm := r3S (c0 M) 40
theorem re_t {M : Mm} {t : Nat} (h : ¬ (t = 12 ∨ t = 50 ∨ t = 51 ∨ t = 52)) : mI (reM M) t = mI M t := by
  unfold reM r3S r2S r1S
  rw [mI_sI, if_neg (by omega), mI_sI, if_neg (by omega), mI_sI, if_neg (by omega), mI_sI, if_neg (by omega), mI_sI, if_neg (by omega)]
theorem re_12 (M : Mm) : mI (reM M) 12 = upd (upd (upd (mI M 12) 0 (nI 0)) 15 (mI M 12 6)) 16 (mI M 12 7) := by
  unfold reM r3S r2S r1S
  rw [mI_sI, if_neg (by decide), mI_sI, if_neg (by decide), mI_sI, if_neg (by decide), mI_sI, if_pos rfl]
  rfl
theorem re_P (M : Mm) : rmP M (reM M) (fun _ => False) := by
  refine ⟨rfl, fun t ht _ => re_t ht, ?_, fun k hk => ?_, fun k hk => ?_, fun k hk => ?_⟩
  · rw [re_12]; exact ⟨rfl, rfl, rfl, rfl, rfl⟩
  · unfold reM r3S r2S r1S
    rw [mI_sI, if_neg (by decide), mI_sI, if_neg (by decide), mI_sI, if_pos rfl]
    exact if_pos hk
  · unfold reM r3S r2S
    rw [mI_sI, if_neg (by decide), mI_sI, if_pos rfl]
    exact if_pos hk
  · unfold reM r3S
    rw [mI_sI, if_pos rfl]
    exact if_pos hk
theorem rmP_s {M M' : Mm} {S S' : Nat → Prop} {t : Nat} {f : Nat → Int32} (h : rmP M M' S) (ht : ¬ (t = 12 ∨ t = 50 ∨ t = 51 ∨ t = 52)) (h1 : S' t) (h2 : ∀ t, S t → S' t) : rmP M (sI M' t f) S' := by
  have hn : ∀ u, (u = 12 ∨ u = 50 ∨ u = 51 ∨ u = 52) → mI (sI M' t f) u = mI M' u := fun u hu => by rw [mI_sI, if_neg (show ¬ u = t from fun q => ht (by rw [← q]; exact hu))]
  unfold rmP
  rw [hn 12 (by omega), hn 50 (by omega), hn 51 (by omega), hn 52 (by omega)]
  exact ⟨h.1, fun u hu hs => by rw [mI_sI, if_neg (show ¬ u = t from fun q => hs (by rw [q]; exact h1))]; exact h.2.1 u hu (fun q => hs (h2 u q)), h.2.2⟩
theorem rmP_12 {M M' : Mm} {S : Nat → Prop} {j : Nat} {v : Int32} (h : rmP M M' S) (hj : j = 5 ∨ j = 6 ∨ j = 7) : rmP M (sI M' 12 (upd (mI M' 12) j v)) S := by
  have hn : ∀ u, ¬ u = 12 → mI (sI M' 12 (upd (mI M' 12) j v)) u = mI M' u := fun u hu => by rw [mI_sI, if_neg hu]
  have h12 : ∀ u, ¬ u = j → mI (sI M' 12 (upd (mI M' 12) j v)) 12 u = mI M' 12 u := fun u hu => by rw [mI_sI, if_pos rfl]; exact if_neg hu
  unfold rmP
  rw [hn 50 (by omega), hn 51 (by omega), hn 52 (by omega), h12 15 (by omega), h12 16 (by omega), h12 0 (by omega), h12 27 (by omega), h12 31 (by omega)]
  exact ⟨h.1, fun u hu hs => by rw [hn u (by omega)]; exact h.2.1 u hu hs, h.2.2⟩
theorem re_MV {M : Mm} {gv cnt bar : Nat} {fr : Nat → Nat} (h : MV M gv cnt bar fr) : MV (reM M) gv cnt bar fr :=
  MV_c h (by rw [re_12]; rfl) (by rw [re_12]; rfl) (by rw [re_12]; rfl) fun t h1 h2 => re_t (by omega)
theorem c_coV {l : Launch} {E : Ev} {M0 M : Mm} {S : Nat → Prop} {gv cnt bar om ob : Nat} {fr : Nat → Nat} (hr : rmP M0 M S) (h : MV M gv cnt bar fr) (hom : mI M0 12 6 = nI om) (hom12 : om ≤ 12) (hob : mI M0 12 7 = nI ob) (hob12 : ob ≤ 12) : Ct l E yX10_carriesOut cX10_carriesOut 6 none 8 0 0 [.ref (eA E 12 0)] M (fun v M1 => v = none ∧ coM M om ob bar fr M1) :=
  c_X10_carriesOut h.2.2.1.1 (by have := h.2.2.1.2; have := h.2.1.2; omega) (fun k hk => MV_row h (by have := h.2.2.1.2; omega)) h.2.2.2.2.2.2.1 (MV_B h) (by rw [hr.2.2.1.1]; exact hom) hom12 (by rw [hr.2.2.1.2.1]; exact hob) hob12
theorem co_fr {M M1 : Mm} {om ob bar : Nat} {fr : Nat → Nat} (h : coM M om ob bar fr M1) {t : Nat} (ht : ¬ crS t) : mI M1 t = mI M t := by
  obtain ⟨x, wv, M0, -, -, hz, -, hf, -⟩ := h
  rw [hf.2 t ht, hz.2.1 t (fun q => ht (by unfold crS; omega))]
theorem co_MV {M M1 : Mm} {om ob bar gv cnt br : Nat} {fr : Nat → Nat} (h : coM M om ob bar fr M1) (g : MV M gv cnt br fr) : MV M1 gv cnt br fr := by
  have h12 := co_fr h (t := 12) (by unfold crS; omega)
  exact MV_c g (by rw [h12]) (by rw [h12]) (by rw [h12]) fun t h1 h2 => co_fr h (by unfold crS; omega)
theorem c_reV {l : Launch} {E : Ev} {M : Mm} {gv cnt bar : Nat} {fr : Nat → Nat} (h : MV M gv cnt bar fr) : Ct l E yX10_remembers cX10_remembers 2 none 2 0 0 [.ref (eA E 12 0)] (c0 M) (dn (reM M)) :=
  c_X10_remembers (M := c0 M) h.2.2.2.2.2.2.1 (fun g hg => vpb (h.2.2.2.2.2.2.2.2.2 g hg))
set_option maxRecDepth 100000 in
set_option maxHeartbeats 4000000 in
theorem c_X10_setBar {l : Launch} {E : Ev} {M : Mm} {gv cnt bar : Nat} {fr : Nat → Nat} {x : Int32} (hMV : MV M gv cnt bar fr) : Ct l E yX10_setBar cX10_setBar 3 (some .int) 9 0 0 [.ref (eA E 12 0), .int x] M (fun v M1 => (inX x (nI 0) (mI M 12 6) = false ∧ v = some (.int (nI 0)) ∧ M1 = cdM (c0 M) (nI 1)) ∨ (inX x (nI 0) (mI M 12 6) = true ∧ ∃ p, p ≤ cnt ∧ x = nI p ∧ v = some (.int (nI bar)) ∧ ∃ M2, rmP M M2 (fun _ => False) ∧ MV M2 gv cnt p fr ∧ coM M2 cnt bar p fr M1)) := by
  refine Ct.of (own := RX10) rfl [some (.ref (eA E 12 0)), some (.int x), none] (by decide) (Nat.le_of_ble_eq_true rfl) rfl ?_
  refine j_aln dX10_setBar_0 rfl rfl ?_
  refine j_icN 0 dX10_setBar_1 rfl ?_
  refine p_X10_0 dX10_setBar_2 fl_X10_96 ?_
  refine j_iln dX10_setBar_5 rfl rfl ?_
  refine j_icN 0 dX10_setBar_6 rfl ?_
  refine j_aln dX10_setBar_7 rfl rfl ?_
  refine g_X10_6 dX10_setBar_8 fl_X10_131 ?_
  refine j_S3d mf_X10_in ml_X10_100 dX10_setBar_11 (Nat.le_of_ble_eq_true rfl) (Nat.le_of_ble_eq_true rfl) (Nat.le_of_ble_eq_true rfl) ⟨(Nat.le_of_ble_eq_true rfl), (Nat.le_of_ble_eq_true rfl)⟩ c_X10_in ?_
  refine j_ifne (tgt := 23) dX10_setBar_14 (by decide) (fun h14 => ?_) (fun h14 => ?_)
  · have hi : inX x (nI 0) (mI M 12 6) = true := bI_ne.mp h14
    obtain ⟨p, hp, hxp⟩ := nn_le (n := cnt) (by have := hMV.2.1.2; omega) (inX_i.mp hi).1 (by have := (inX_i.mp hi).2; rw [hMV.2.1.1] at this; exact Int32.not_lt.mp this)
    subst hxp
    refine j_aln dX10_setBar_23 rfl rfl ?_
    refine j_V0n mf_X10_remembers ml_X10_115 dX10_setBar_24 (Nat.le_of_ble_eq_true rfl) (Nat.le_of_ble_eq_true rfl) (Nat.le_of_ble_eq_true rfl) ⟨(Nat.le_of_ble_eq_true rfl), (Nat.le_of_ble_eq_true rfl)⟩ (by first | assumption | decide | (simp only [nv] at *; omega)) rfl rfl (c_reV hMV) ?_
    refine j_aln dX10_setBar_27 rfl rfl ?_
    refine g_X10_7 dX10_setBar_28 fl_X10_137 ?_
    refine j_ist_2 dX10_setBar_31 (by decide) rfl ?_
    refine j_aln dX10_setBar_32 rfl rfl ?_
    refine j_iln dX10_setBar_33 rfl rfl ?_
    refine p_X10_7 dX10_setBar_34 fl_X10_137 ?_
    have hr : rmP M (sI (reM M) 12 (upd (mI (reM M) 12) 7 (nI p))) (fun _ => False) := rmP_12 (re_P M) (by omega)
    have hb7 : mI (reM M) 12 7 = nI bar := by rw [re_12]; exact hMV.2.2.1.1
    have h9 := re_MV hMV
    have hM : MV (sI (reM M) 12 (upd (mI (reM M) 12) 7 (nI p))) gv cnt p fr := ⟨h9.1, h9.2.1, ⟨rfl, hp⟩, h9.2.2.2⟩
    refine j_aln dX10_setBar_37 rfl rfl ?_
    refine j_V0g mf_X10_carriesOut ml_X10_128 dX10_setBar_38 (Nat.le_of_ble_eq_true rfl) (Nat.le_of_ble_eq_true rfl) (Nat.le_of_ble_eq_true rfl) ⟨(Nat.le_of_ble_eq_true rfl), (Nat.le_of_ble_eq_true rfl)⟩ (by first | assumption | decide | (simp only [nv] at *; omega)) rfl rfl (c_coV hr hM hMV.2.1.1 hMV.2.1.2 hMV.2.2.1.1 (by have := hMV.2.2.1.2; have := hMV.2.1.2; omega)) ?_
    intro v M9 hpp
    obtain ⟨hv, hc⟩ := hpp
    subst hv
    refine j_eq (congrArg (fun q => [_, _, some (Value.int q)]) (show _ = nI bar from hb7)) rfl rfl ?_
    refine j_iln dX10_setBar_41 rfl rfl ?_
    exact j_iret dX10_setBar_42 rfl rfl (Nat.le_of_ble_eq_true rfl) (Nat.le_of_ble_eq_true rfl) (Or.inr ⟨hi, p, hp, rfl, rfl, _, hr, hM, hc⟩)
  · have hi : inX x (nI 0) (mI M 12 6) = false := bI_eq.mp h14
    refine j_aln dX10_setBar_17 rfl rfl ?_
    refine j_icN 1 dX10_setBar_18 rfl ?_
    refine j_V1d mf_X10_fails ml_X10_112 dX10_setBar_19 (Nat.le_of_ble_eq_true rfl) (Nat.le_of_ble_eq_true rfl) (Nat.le_of_ble_eq_true rfl) ⟨(Nat.le_of_ble_eq_true rfl), (Nat.le_of_ble_eq_true rfl)⟩ (by first | assumption | decide | (simp only [nv] at *; omega)) rfl rfl c_X10_fails ?_
    exact j_iret dX10_setBar_22 rfl rfl (Nat.le_of_ble_eq_true rfl) (Nat.le_of_ble_eq_true rfl) (Or.inl ⟨hi, rfl, rfl⟩)
set_option maxRecDepth 100000 in
set_option maxHeartbeats 4000000 in
theorem c_X10_putOff {l : Launch} {E : Ev} {M : Mm} {gv cnt bar : Nat} {fr : Nat → Nat} {x : Int32} {b : Bool} (hMV : MV M gv cnt bar fr) : Ct l E yX10_putOff cX10_putOff 4 (some .boolean) 9 0 0 [.ref (eA E 12 0), .int x, .int (bI b)] M (fun v M1 => (mF M x = false ∧ v = some (.int (nI 0)) ∧ M1 = cdM M (nI 1)) ∨ (mF M x = true ∧ ∃ g, g < gv ∧ x = nI g ∧ v = some (.int (if mI M 48 g = bI b then nI 0 else nI 1)) ∧ ∃ M2, mI M2 48 = upd (mI M 48) g (bI b) ∧ rmP M M2 (fun t => t = 48) ∧ MV M2 gv cnt bar fr ∧ coM M2 cnt bar bar fr M1)) := by
  refine Ct.of (own := RX10) rfl [some (.ref (eA E 12 0)), some (.int x), some (.int (bI b)), none] (by decide) (Nat.le_of_ble_eq_true rfl) rfl ?_
  refine j_aln dX10_putOff_0 rfl rfl ?_
  refine j_aln dX10_putOff_1 rfl rfl ?_
  refine j_iln dX10_putOff_2 rfl rfl ?_
  refine j_V1d mf_X10_isFeature ml_X10_150 dX10_putOff_3 (Nat.le_of_ble_eq_true rfl) (Nat.le_of_ble_eq_true rfl) (Nat.le_of_ble_eq_true rfl) ⟨(Nat.le_of_ble_eq_true rfl), (Nat.le_of_ble_eq_true rfl)⟩ (by first | assumption | decide | (simp only [nv] at *; omega)) rfl rfl (c_X10_isFeature hMV.1.1 hMV.1.2) ?_
  refine j_ifeq (tgt := 13) dX10_putOff_6 (by decide) (fun h6 => ?_) (fun h6 => ?_)
  · have hi : mF M x = false := bI_eq.mp h6
    refine j_icN 1 dX10_putOff_13 rfl ?_
    refine p_X10_0 dX10_putOff_14 fl_X10_96 ?_
    refine j_aln dX10_putOff_17 rfl rfl ?_
    refine g_X10_0 dX10_putOff_18 fl_X10_96 ?_
    refine j_ifle (tgt := 26) dX10_putOff_21 (by decide) (fun h21 => ?_) (fun h21 => ?_)
    · exact absurd (show nI 1 ≤ 0 from h21) (by decide)
    · refine j_icN 0 dX10_putOff_24 rfl ?_
      exact j_iret dX10_putOff_25 rfl rfl (Nat.le_of_ble_eq_true rfl) (Nat.le_of_ble_eq_true rfl) (Or.inl ⟨hi, rfl, rfl⟩)
  · have hi : mF M x = true := bI_ne.mp h6
    obtain ⟨g, hg, hxg⟩ := mF_n hMV.1.1 hMV.1.2 hi
    subst hxg
    have hg40 := hMV.1.2
    refine j_icN 0 dX10_putOff_9 rfl ?_
    refine j_goto (tgt := 14) dX10_putOff_10 (by decide) ?_
    refine p_X10_0 dX10_putOff_14 fl_X10_96 ?_
    refine j_aln dX10_putOff_17 rfl rfl ?_
    refine g_X10_0 dX10_putOff_18 fl_X10_96 ?_
    refine j_ifle (tgt := 26) dX10_putOff_21 (by decide) (fun h21 => ?_) (fun h21 => ?_)
    · refine j_aln dX10_putOff_26 rfl rfl ?_
      refine j_V0n mf_X10_remembers ml_X10_115 dX10_putOff_27 (Nat.le_of_ble_eq_true rfl) (Nat.le_of_ble_eq_true rfl) (Nat.le_of_ble_eq_true rfl) ⟨(Nat.le_of_ble_eq_true rfl), (Nat.le_of_ble_eq_true rfl)⟩ (by first | assumption | decide | (simp only [nv] at *; omega)) rfl rfl (c_reV hMV) ?_
      refine j_aln dX10_putOff_30 rfl rfl ?_
      refine g_X10_12 dX10_putOff_31 fl_X10_36 ?_
      refine j_iln dX10_putOff_34 rfl rfl ?_
      refine j_azldN dX10_putOff_35 rfl rfl rfl (by decide) (by omega) ?_
      refine j_ist_3 dX10_putOff_36 (by decide) rfl ?_
      refine j_aln dX10_putOff_37 rfl rfl ?_
      refine g_X10_12 dX10_putOff_38 fl_X10_36 ?_
      refine j_iln dX10_putOff_41 rfl rfl ?_
      refine j_iln dX10_putOff_42 rfl rfl ?_
      refine j_azstN dX10_putOff_43 rfl (fun _ => rfl) rfl (by decide) (by omega) (bI_vp b) ?_
      have hr : rmP M (sI (reM M) 48 (upd (mI (reM M) 48) g (bI b))) (fun t => t = 48) := rmP_s (re_P M) (by omega) rfl (fun _ q => q.elim)
      have h48 : mI (sI (reM M) 48 (upd (mI (reM M) 48) g (bI b))) 48 = upd (mI M 48) g (bI b) := by rw [mI_sI, if_pos rfl, re_t (by omega)]
      have h9 := re_MV hMV
      have hM : MV (sI (reM M) 48 (upd (mI (reM M) 48) g (bI b))) gv cnt bar fr := ⟨h9.1, h9.2.1, h9.2.2.1, h9.2.2.2.1, h9.2.2.2.2.1, h9.2.2.2.2.2.1, h9.2.2.2.2.2.2.1, h9.2.2.2.2.2.2.2.1, h9.2.2.2.2.2.2.2.2.1, fun k hk => by rw [h48]; unfold upd; split; exact bI01 b; exact hMV.2.2.2.2.2.2.2.2.2 k hk⟩
      refine j_aln dX10_putOff_44 rfl rfl ?_
      refine j_V0g mf_X10_carriesOut ml_X10_128 dX10_putOff_45 (Nat.le_of_ble_eq_true rfl) (Nat.le_of_ble_eq_true rfl) (Nat.le_of_ble_eq_true rfl) ⟨(Nat.le_of_ble_eq_true rfl), (Nat.le_of_ble_eq_true rfl)⟩ (by first | assumption | decide | (simp only [nv] at *; omega)) rfl rfl (c_coV hr hM hMV.2.1.1 hMV.2.1.2 hMV.2.2.1.1 (by have := hMV.2.2.1.2; have := hMV.2.1.2; omega)) ?_
      intro v M9 hpp
      obtain ⟨hv, hc⟩ := hpp
      subst hv
      refine j_eq (congrArg (fun q => [_, _, _, some (Value.int q)]) (show mI (reM M) 48 g = mI M 48 g from by rw [re_t (by omega)])) rfl rfl ?_
      refine j_iln dX10_putOff_48 rfl rfl ?_
      refine j_iln dX10_putOff_49 rfl rfl ?_
      refine j_iceq (tgt := 57) dX10_putOff_50 (by decide) (fun h50 => ?_) (fun h50 => ?_)
      · refine j_icN 0 dX10_putOff_57 rfl ?_
        exact j_iret dX10_putOff_58 rfl (by decide) (Nat.le_of_ble_eq_true rfl) (Nat.le_of_ble_eq_true rfl) (Or.inr ⟨hi, g, hg, rfl, by first | rw [if_pos h50] | rw [if_neg h50], _, h48, hr, hM, hc⟩)
      · refine j_icN 1 dX10_putOff_53 rfl ?_
        refine j_goto (tgt := 58) dX10_putOff_54 (by decide) ?_
        exact j_iret dX10_putOff_58 rfl (by decide) (Nat.le_of_ble_eq_true rfl) (Nat.le_of_ble_eq_true rfl) (Or.inr ⟨hi, g, hg, rfl, by first | rw [if_pos h50] | rw [if_neg h50], _, h48, hr, hM, hc⟩)
    · exact absurd (show nI 0 ≤ 0 by decide) h21
