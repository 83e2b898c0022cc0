/-! the law's body -/
def lsub : List (Option Value) → List (Option Value) → Prop
  | [], [] => True
  | none :: r', _ :: r => lsub r' r
  | some v :: r', o :: r => o = some v ∧ lsub r' r
  | _, _ => False
theorem lsub_0 : lsub [] [] := trivial
theorem lsub_n {o : Option Value} {r' r : List (Option Value)} (h : lsub r' r) : lsub (none :: r') (o :: r) := h
theorem lsub_s {v : Value} {r' r : List (Option Value)} (h : lsub r' r) : lsub (some v :: r') (some v :: r) := ⟨rfl, h⟩
theorem lsub_lp : ∀ (ls' ls : List (Option Value)), lsub ls' ls → ∀ j q, q ∈ lp j ls' → q ∈ lp j ls
  | [], [], _, _, _, h => h
  | none :: r', none :: r, h, j, q, hq => lsub_lp r' r h (j + 1) q hq
  | none :: r', some v :: r, h, j, q, hq => List.mem_cons_of_mem _ (lsub_lp r' r h (j + 1) q hq)
  | some v :: r', o :: r, h, j, q, hq => by
    obtain ⟨rfl, h⟩ := h
    rcases List.mem_cons.mp hq with e | e
    · rw [e]; exact List.mem_cons_self
    · exact List.mem_cons_of_mem _ (lsub_lp r' r h (j + 1) q e)
  | [], _ :: _, h, _, _, _ => False.elim h
  | none :: _, [], h, _, _, _ => False.elim h
  | some _ :: _, [], h, _, _, _ => False.elim h
theorem j_fg {l : Launch} {E : Ev} {own : String} {cc : ByteArray} {nL : Nat} {rt : Option FieldType} {tb : List ExceptionTableEntry} {R : Room} {Qf : List Frame → Array Value → State → State → Prop} {k n pc : Nat} {ls : List (Option Value)} {st : List Value} {M : Mm} (ls' : List (Option Value)) (h : lsub ls' ls) (kk : Jd l E own cc nL rt tb R Qf k n pc ls' st M) : Jd l E own cc nL rt tb R Qf k n pc ls st M :=
  fun p e s m args below meth c C H locs lsr hP hS hl => kk p e s m args below meth c C H locs lsr hP hS ⟨hl.1, hl.2.1, fun q hq => hl.2.2 q (lsub_lp ls' ls h 0 q hq)⟩
theorem i_neg {c : Int32} (h : c.toInt ≤ -1001) : c < 0 := by
  rw [Int32.lt_iff_toInt_lt]
  show c.toInt < 0
  omega
theorem i_pos {c : Int32} (h : 0 ≤ c.toInt) : ¬ c < 0 := by
  rw [Int32.lt_iff_toInt_lt]
  show ¬ c.toInt < 0
  omega
theorem i_99 {c : Int32} (h : c.toInt ≤ 99) : ¬ nI 99 < c := by
  rw [Int32.lt_iff_toInt_lt, show (nI 99).toInt = 99 from by decide]
  omega
theorem i_1010 {c : Int32} (h : -1010 ≤ c.toInt) : -1010 ≤ c := by
  rw [Int32.le_iff_toInt_le, show (-1010 : Int32).toInt = -1010 from by decide]; exact h
theorem i_1000 {c : Int32} : -1000 ≤ c ↔ -1000 ≤ c.toInt := by
  rw [Int32.le_iff_toInt_le, show (-1000 : Int32).toInt = -1000 from by decide]
theorem cmp_eq (x : Int64) : lg_cmp x x = 0 := by
  unfold lg_cmp
  simp
theorem cmp_up {w d : Nat} (h : w + d < 2 ^ 62) : ¬ lg_cmp (Int64.ofNat w + Int64.ofNat d) (Int64.ofNat w) < 0 := by
  have e : Int64.ofNat w + Int64.ofNat d = Int64.ofNat (w + d) := (Int64.ofNat_add w d).symm
  have h1 : (Int64.ofNat (w + d)).toInt = (w + d : Nat) := Int64.toInt_ofNat_of_lt (by omega)
  have h2 : (Int64.ofNat w).toInt = (w : Nat) := Int64.toInt_ofNat_of_lt (by omega)
  by_cases hd : d = 0
  · subst hd
    rw [e]
    show ¬ lg_cmp (Int64.ofNat w) (Int64.ofNat w) < 0
    rw [cmp_eq]; decide
  · rw [e]
    unfold lg_cmp
    rw [if_pos (show Int64.ofNat w < Int64.ofNat (w + d) by rw [Int64.lt_iff_toInt_lt, h1, h2]; omega)]
    decide
set_option maxRecDepth 100000 in
set_option maxHeartbeats 20000000 in
theorem law_loop {l : Launch} {E : Ev} {b L : Nat} {xs : Nat → Int32} (hl9 : l.stackTraces = false) (h0 : eN E = 0) (hL : L ≤ 260) : ∀ e, e ≤ 44 → ∀ (M : Mm) (g cnt bar : Nat) (fr : Nat → Nat) (pc mc k n : Nat), CI M g cnt bar fr pc mc → (∃ w, w ≤ 12 * e ∧ mW M 0 = Int64.ofNat w) → k + 900 * (44 - e) ≤ 50000 → n + 5500 * (44 - e) ≤ 300000 → JL l E b L xs (k) (n) 21 [some (.ref b), some (.ref (eA E 0 0)), some (.int (nI g)), some (.int (nI cnt)), some (.int (nI pc)), some (.int (nI mc)), some (.int (nI e)), none, none, none, none, none, none, none, none, none, none, none, none, none] [] M := by
  have hnse : NseR l E := nse_r hl9
  have hix : IxR l E := ix_r
  refine up_to 44 _ ?_ (fun e he ih => ?_)
  · intro M g cnt bar fr pc mc k n q hw hk hn
    obtain ⟨hg, hc12, hbc, hb12, hpc, hmc⟩ := CI_b q
    refine j_il dL_law_21 rfl ?_
    refine j_biN 44 dL_law_23 rfl ?_
    refine j_icgeN (tgt := 905) dL_law_25 (by decide) (by omega) (by omega) (fun h25 => ?_) (fun h25 => ?_)
    · refine j_aln dL_law_905 rfl rfl ?_
      refine j_biN 8 dL_law_906 rfl ?_
      refine j_iln dL_law_908 rfl rfl ?_
      refine j_icN 0 dL_law_909 rfl ?_
      refine j_icN 0 dL_law_910 rfl ?_
      refine j_icN 0 dL_law_911 rfl ?_
      refine j_lcd (sp8 hl9 hnse q) ⟨(Nat.le_of_ble_eq_true rfl), (Nat.le_of_ble_eq_true rfl)⟩ (Nat.le_of_ble_eq_true rfl) dL_law_912 ⟨by show _ + 1 ≤ 619727; omega, by show _ + 6 ≤ 7234331; omega⟩ ?_
      refine j_topi (plX_g q) ?_
      refine j_si (v := (-1005)) dL_law_915 (by decide) ?_
      refine j_icne (tgt := 992) dL_law_918 (by decide) (fun h918 => ?_) (fun h918 => ?_)
      · exact absurd rfl h918
      · refine j_aln dL_law_921 rfl rfl ?_
        refine j_icN 1 dL_law_922 rfl ?_
        refine j_biN 8 dL_law_923 rfl ?_
        refine j_icN 0 dL_law_925 rfl ?_
        refine j_icN 0 dL_law_926 rfl ?_
        refine j_icN 0 dL_law_927 rfl ?_
        refine j_lcd (sp1x hl9) ⟨(Nat.le_of_ble_eq_true rfl), (Nat.le_of_ble_eq_true rfl)⟩ (Nat.le_of_ble_eq_true rfl) dL_law_928 ⟨by show _ + 1 ≤ 619727; omega, by show _ + 6 ≤ 7234331; omega⟩ ?_
        refine j_si (v := (-1002)) dL_law_931 (by decide) ?_
        refine j_icne (tgt := 992) dL_law_934 (by decide) (fun h934 => ?_) (fun h934 => ?_)
        · exact absurd rfl h934
        · refine j_aln dL_law_937 rfl rfl ?_
          refine j_biN 13 dL_law_938 rfl ?_
          refine j_icN 0 dL_law_940 rfl ?_
          refine j_biN 6 dL_law_941 rfl ?_
          refine j_icN 0 dL_law_943 rfl ?_
          refine j_icN 0 dL_law_944 rfl ?_
          refine j_lcd (sp13x hl9 q) ⟨(Nat.le_of_ble_eq_true rfl), (Nat.le_of_ble_eq_true rfl)⟩ (Nat.le_of_ble_eq_true rfl) dL_law_945 ⟨by show _ + 1 ≤ 619727; omega, by show _ + 6 ≤ 7234331; omega⟩ ?_
          refine j_si (v := (-1002)) dL_law_948 (by decide) ?_
          refine j_icne (tgt := 992) dL_law_951 (by decide) (fun h951 => ?_) (fun h951 => ?_)
          · exact absurd rfl h951
          · refine j_aln dL_law_954 rfl rfl ?_
            refine j_biN 12 dL_law_955 rfl ?_
            refine j_biN 8 dL_law_957 rfl ?_
            refine j_icN 0 dL_law_959 rfl ?_
            refine j_icN 0 dL_law_960 rfl ?_
            refine j_icN 0 dL_law_961 rfl ?_
            refine j_lcd (sp12a hl9 hnse q) ⟨(Nat.le_of_ble_eq_true rfl), (Nat.le_of_ble_eq_true rfl)⟩ (Nat.le_of_ble_eq_true rfl) dL_law_962 ⟨by show _ + 1 ≤ 619727; omega, by show _ + 6 ≤ 7234331; omega⟩ ?_
            refine j_si (v := (-1001)) dL_law_965 (by decide) ?_
            refine j_icne (tgt := 992) dL_law_968 (by decide) (fun h968 => ?_) (fun h968 => ?_)
            · exact absurd rfl h968
            · refine j_aln dL_law_971 rfl rfl ?_
              refine j_biN 12 dL_law_972 rfl ?_
              refine j_icN 0 dL_law_974 rfl ?_
              refine j_icN 0 dL_law_975 rfl ?_
              refine j_icN 0 dL_law_976 rfl ?_
              refine j_biN 6 dL_law_977 rfl ?_
              refine j_lcd (sp12b hl9 hnse q) ⟨(Nat.le_of_ble_eq_true rfl), (Nat.le_of_ble_eq_true rfl)⟩ (Nat.le_of_ble_eq_true rfl) dL_law_979 ⟨by show _ + 1 ≤ 619727; omega, by show _ + 6 ≤ 7234331; omega⟩ ?_
              refine j_si (v := (-1002)) dL_law_982 (by decide) ?_
              refine j_icne (tgt := 992) dL_law_985 (by decide) (fun h985 => ?_) (fun h985 => ?_)
              · exact absurd rfl h985
              · refine j_icN 1 dL_law_988 rfl ?_
                refine j_goto (tgt := 993) dL_law_989 (by decide) ?_
                exact j_end dL_law_993 (by omega) (by omega)
    · exact absurd (Nat.le_refl _) h25
  · intro M g cnt bar fr pc mc k n q hw hk hn
    obtain ⟨hg, hc12, hbc, hb12, hpc, hmc⟩ := CI_b q
    obtain ⟨w0, hw1, hw2⟩ := hw
    have T846 : ∀ (M1 : Mm) (g2 cnt2 bar2 : Nat) (fr2 : Nat → Nat) (pc2 mc2 : Nat) (c : Int32) (k9 n9 : Nat), k9 ≤ k + 220 → n9 ≤ n + 1320 → CI M1 g2 cnt2 bar2 fr2 pc2 mc2 → (c < 0 → stH M1 g2 cnt2 bar2 pc2 = stH M g cnt bar pc) → (∃ d, d ≤ 12 ∧ mW M1 0 = mW M 0 + Int64.ofNat d) → JL l E b L xs (k9) (n9) 846 [some (.ref b), some (.ref (eA E 0 0)), some (.int (nI g2)), some (.int (nI cnt2)), some (.int (nI pc2)), some (.int (nI mc2)), some (.int (nI e)), none, none, none, none, some (.long (stH M g cnt bar pc)), none, some (.long (mW M 0)), none, some (.int c), none, none, none, none] [] M1 := by
      intro M1 g2 cnt2 bar2 fr2 pc2 mc2 c k9 n9 hk9 hn9 q1 hst ⟨d, hd1, hd2⟩
      obtain ⟨hg2, hc122, hbc2, hb122, hpc2, hmc2⟩ := CI_b q1
      have T864 : ∀ (M2 : Mm) (k8 n8 : Nat), bfF M1 M2 → k8 ≤ k + 420 → n8 ≤ n + 2520 → JL l E b L xs (k8) (n8) 864 [some (.ref b), some (.ref (eA E 0 0)), some (.int (nI g2)), some (.int (nI cnt2)), some (.int (nI pc2)), some (.int (nI mc2)), some (.int (nI e)), none, none, none, none, some (.long (stH M g cnt bar pc)), none, some (.long (mW M 0)), none, some (.int c), none, none, none, none] [] M2 := by
        intro M2 k8 n8 hb hk8 hn8
        have q2 := CI_bf hb q1
        have hwk : mW M2 0 = mW M 0 + Int64.ofNat d := by rw [← hd2]; exact congrFun (congrArg (fun x => x.1) hb.2.1) 0
        refine j_aln dL_law_864 rfl rfl ?_
        refine j_vR (As := []) (rest := []) mf_X9_worked ml_L_121 ⟨(Nat.le_of_ble_eq_true rfl), (Nat.le_of_ble_eq_true rfl)⟩ c_X9_worked (by decide) rfl rfl rfl rfl (Nat.le_of_ble_eq_true rfl) dL_law_865 ⟨by show _ + 0 ≤ 619727; omega, by show _ + 0 ≤ 7234331; omega⟩ (fun v9 M9 h9 => ?_)
        obtain ⟨e9, f9⟩ := h9
        subst e9
        subst M9
        refine j_ll dL_law_868 rfl ?_
        refine j_lcmp dL_law_870 ?_
        refine j_iflt (tgt := 897) dL_law_871 (by decide) (fun h871 => ?_) (fun h871 => ?_)
        · exact absurd h871 (by rw [hwk, hw2]; exact cmp_up (by omega))
        · refine j_aln dL_law_874 rfl rfl ?_
          refine j_vR (As := []) (rest := []) mf_X9_freedoms ml_L_125 ⟨(Nat.le_of_ble_eq_true rfl), (Nat.le_of_ble_eq_true rfl)⟩ c_X9_freedoms (by decide) rfl rfl rfl rfl (Nat.le_of_ble_eq_true rfl) dL_law_875 ⟨by show _ + 0 ≤ 619727; omega, by show _ + 0 ≤ 7234331; omega⟩ (fun v8 M8 h8 => ?_)
          obtain ⟨e8, f8⟩ := h8
          subst e8
          subst M8
          refine j_icN 3 dL_law_878 rfl ?_
          refine j_il dL_law_879 rfl ?_
          refine j_imul dL_law_881 ?_
          refine j_il dL_law_882 rfl ?_
          refine j_isub dL_law_884 ?_
          refine j_icne (tgt := 897) dL_law_885 (by decide) (fun h885 => ?_) (fun h885 => ?_)
          · exact absurd (by rw [q2.2.2.2.2.2.2.1.1, q2.2.2.2.2.2.2.2.1.1]) h885
          · refine j_aln dL_law_888 rfl rfl ?_
            refine j_iln dL_law_889 rfl rfl ?_
            refine j_iln dL_law_890 rfl rfl ?_
            refine j_sR (As := [.ref (eA E 0 0), .int (nI g2), .int (nI cnt2)]) (rest := []) mf_L_sound ml_L_153 ⟨(Nat.le_of_ble_eq_true rfl), (Nat.le_of_ble_eq_true rfl)⟩ (c_L_sound hl9 h0 q2) rfl rfl (Nat.le_of_ble_eq_true rfl) dL_law_891 ⟨by show _ + 400 ≤ 619727; omega, by show _ + 2500 ≤ 7234331; omega⟩ (fun v7 M7 h7 => ?_)
            obtain ⟨e7, b7⟩ := h7
            subst e7
            refine j_ifne (tgt := 899) dL_law_894 (by decide) (fun h894 => ?_) (fun h894 => ?_)
            · refine j_incN_6 1 dL_law_899 rfl (by decide) rfl ?_
              refine j_goto (tgt := 21) dL_law_902 (by decide) ?_
              refine j_fg [some (.ref b), some (.ref (eA E 0 0)), some (.int (nI g2)), some (.int (nI cnt2)), some (.int (nI pc2)), some (.int (nI mc2)), some (.int (nI (e + 1))), none, none, none, none, none, none, none, none, none, none, none, none, none] (by repeat (first | exact lsub_0 | refine lsub_s ?_ | refine lsub_n ?_)) ?_
              refine ih M7 g2 cnt2 bar2 fr2 pc2 mc2 _ _ (CI_bf b7 q2) ⟨w0 + d, by omega, ?_⟩ (by omega) (by omega)
              rw [show mW M7 0 = mW M2 0 from congrFun (congrArg (fun x => x.1) b7.2.1) 0, hwk, hw2, Int64.ofNat_add]
            · exact absurd h894 (by decide)
      refine j_il dL_law_846 rfl ?_
      refine j_ifge (tgt := 864) dL_law_848 (by decide) (fun h848 => ?_) (fun h848 => ?_)
      · exact T864 M1 _ _ (bf_rf M1) (by omega) (by omega)
      · refine j_aln dL_law_851 rfl rfl ?_
        refine j_iln dL_law_852 rfl rfl ?_
        refine j_il dL_law_853 rfl ?_
        refine j_sR (As := [.ref (eA E 0 0), .int (nI g2), .int (nI pc2)]) (rest := []) mf_L_state ml_L_143 ⟨(Nat.le_of_ble_eq_true rfl), (Nat.le_of_ble_eq_true rfl)⟩ (c_L_state hl9 hnse q1) rfl rfl (Nat.le_of_ble_eq_true rfl) dL_law_855 ⟨by show _ + 200 ≤ 619727; omega, by show _ + 1200 ≤ 7234331; omega⟩ (fun v7 M7 h7 => ?_)
        obtain ⟨e7, b7⟩ := h7
        subst e7
        refine j_ll dL_law_858 rfl ?_
        refine j_lcmp dL_law_860 ?_
        refine j_ifne (tgt := 897) dL_law_861 (by decide) (fun h861 => ?_) (fun h861 => ?_)
        · exact absurd (by rw [hst (Int32.not_le.mp h848)]; exact cmp_eq _) h861
        · exact T864 M7 _ _ b7 (by omega) (by omega)
    have T95 : ∀ (M' : Mm) (x7 x8 x10 : Int32) (f k9 n9 : Nat), bfF M M' → k9 ≤ k + 200 → n9 ≤ n + 1200 → JL l E b L xs (k9) (n9) 95 [some (.ref b), some (.ref (eA E 0 0)), some (.int (nI g)), some (.int (nI cnt)), some (.int (nI pc)), some (.int (nI mc)), some (.int (nI e)), some (.int x7), some (.int x8), some (.int (nI f)), some (.int x10), some (.long (stH M g cnt bar pc)), none, some (.long (mW M 0)), none, some (.int (nI 0)), none, none, none, none] [] M' := by
      intro M' x7 x8 x10 f k9 n9 hb hk9 hn9
      have q9 := CI_bf hb q
      have hwb : mW M' 0 = mW M 0 := congrFun (congrArg (fun x => x.1) hb.2.1) 0
      have hsb := stH_bf hb (g := g) (cnt := cnt) (pc := pc) hb12
      have B0 : ∀ (x0 x1 x2 x3 : Int32), JL l E b L xs (k9) (n9) 175 [some (.ref b), some (.ref (eA E 0 0)), some (.int (nI g)), some (.int (nI cnt)), some (.int (nI pc)), some (.int (nI mc)), some (.int (nI e)), some (.int x7), some (.int x8), some (.int (nI f)), some (.int x10), some (.long (stH M g cnt bar pc)), none, some (.long (mW M 0)), none, some (.int (nI 0)), none, none, none, none] [.int x3, .int x2, .int x1, .int x0, .int (nI 0), .ref (eA E 0 0)] M' := by
        intro x0 x1 x2 x3
        refine j_lq (sp0 hl9 q9) ⟨(Nat.le_of_ble_eq_true rfl), (Nat.le_of_ble_eq_true rfl)⟩ (Nat.le_of_ble_eq_true rfl) dL_law_175 ⟨by show _ + 1 ≤ 619727; omega, by show _ + 6 ≤ 7234331; omega⟩ (fun v9 M1 h9 => ?_)
        rcases h9 with ⟨w, hv9, hw9, bar2, fr2, q2, d, hd1, hd2⟩ | ⟨c, hv9, ⟨hc1, hc2⟩, hM9⟩
        · subst hv9
          have hpos : ¬ nI 0 < 0 := by decide
          refine j_ist_15 dL_law_178 (by decide) rfl ?_
          refine j_il dL_law_180 rfl ?_
          refine j_biN 99 dL_law_182 rfl ?_
          refine j_icgt (tgt := 195) dL_law_184 (by decide) (fun h184 => ?_) (fun h184 => ?_)
          · exact absurd h184 (i_99 hw9.2)
          · refine j_il dL_law_187 rfl ?_
            refine j_si (v := (-1010)) dL_law_189 (by decide) ?_
            refine j_icge (tgt := 197) dL_law_192 (by decide) (fun h192 => ?_) (fun h192 => ?_)
            · refine j_il dL_law_197 rfl ?_
              refine j_si (v := (-1000)) dL_law_199 (by decide) ?_
              refine j_icge (tgt := 210) dL_law_202 (by decide) (fun h202 => ?_) (fun h202 => ?_)
              · refine j_icN 0 dL_law_210 rfl ?_
                refine j_ist_15 dL_law_211 (by decide) rfl ?_
                refine j_goto (tgt := 846) dL_law_213 (by decide) ?_
                refine j_fg [some (.ref b), some (.ref (eA E 0 0)), some (.int (nI g)), some (.int (nI cnt)), some (.int (nI pc)), some (.int (nI mc)), some (.int (nI e)), none, none, none, none, some (.long (stH M g cnt bar pc)), none, some (.long (mW M 0)), none, some (.int (nI 0)), none, none, none, none] (by repeat (first | exact lsub_0 | refine lsub_s ?_ | refine lsub_n ?_)) ?_
                exact T846 M1 (g) (cnt) bar2 fr2 (pc) (mc) (nI 0) _ _ (by omega) (by omega) q2 (fun z => absurd z hpos) ⟨d, hd1, by rw [hd2, hwb]⟩
              · exact absurd (i_1000.mpr (by have := hw9.1; omega)) h202
            · exact absurd (i_1010 (by have := hw9.1; omega)) h192
        · subst hv9
          subst M1
          have hneg := i_neg hc2
          refine j_ist_15 dL_law_178 (by decide) rfl ?_
          refine j_il dL_law_180 rfl ?_
          refine j_biN 99 dL_law_182 rfl ?_
          refine j_icgt (tgt := 195) dL_law_184 (by decide) (fun h184 => ?_) (fun h184 => ?_)
          · exact absurd h184 (i_99 (by omega))
          · refine j_il dL_law_187 rfl ?_
            refine j_si (v := (-1010)) dL_law_189 (by decide) ?_
            refine j_icge (tgt := 197) dL_law_192 (by decide) (fun h192 => ?_) (fun h192 => ?_)
            · refine j_il dL_law_197 rfl ?_
              refine j_si (v := (-1000)) dL_law_199 (by decide) ?_
              refine j_icge (tgt := 210) dL_law_202 (by decide) (fun h202 => ?_) (fun h202 => ?_)
              · exact absurd (i_1000.mp h202) (by omega)
              · refine j_il dL_law_205 rfl ?_
                refine j_goto (tgt := 211) dL_law_207 (by decide) ?_
                refine j_ist_15 dL_law_211 (by decide) rfl ?_
                refine j_goto (tgt := 846) dL_law_213 (by decide) ?_
                refine j_fg [some (.ref b), some (.ref (eA E 0 0)), some (.int (nI g)), some (.int (nI cnt)), some (.int (nI pc)), some (.int (nI mc)), some (.int (nI e)), none, none, none, none, some (.long (stH M g cnt bar pc)), none, some (.long (mW M 0)), none, some (.int (c)), none, none, none, none] (by repeat (first | exact lsub_0 | refine lsub_s ?_ | refine lsub_n ?_)) ?_
                exact T846 M' g cnt bar fr pc mc c _ _ (by omega) (by omega) q9 (fun _ => hsb) ⟨0, by decide, by rw [hwb]; exact (Int64.add_zero _).symm⟩
            · exact absurd (i_1010 (by omega)) h192
      have B1 : ∀ (x16 y : Int32), JL l E b L xs (k9) (n9) 295 [some (.ref b), some (.ref (eA E 0 0)), some (.int (nI g)), some (.int (nI cnt)), some (.int (nI pc)), some (.int (nI mc)), some (.int (nI e)), some (.int x7), some (.int x8), some (.int (nI f)), some (.int x10), some (.long (stH M g cnt bar pc)), none, some (.long (mW M 0)), none, some (.int (nI 0)), some (.int x16), none, none, none] [.int y, .int x16, .int (nI 2), .ref (eA E 0 0)] M' := by
        intro x16 y
        refine j_il dL_law_295 rfl ?_
        refine j_icN 4 dL_law_297 rfl ?_
        refine j_ishr dL_law_298 ?_
        refine j_biN 7 dL_law_299 rfl ?_
        refine j_low (by omega) (by omega) ⟨(Nat.le_of_ble_eq_true rfl), (Nat.le_of_ble_eq_true rfl)⟩ (Nat.le_of_ble_eq_true rfl) dL_law_301 ⟨by show _ ≤ 619727; omega, by show _ ≤ 7234331; omega⟩ ?_
        refine j_il dL_law_304 rfl ?_
        refine j_biN 8 dL_law_306 rfl ?_
        refine j_ishr dL_law_308 ?_
        refine j_icN 4 dL_law_309 rfl ?_
        refine j_low (by omega) (by omega) ⟨(Nat.le_of_ble_eq_true rfl), (Nat.le_of_ble_eq_true rfl)⟩ (Nat.le_of_ble_eq_true rfl) dL_law_310 ⟨by show _ ≤ 619727; omega, by show _ ≤ 7234331; omega⟩ ?_
        refine j_lq (sp2 hl9 hix q9) ⟨(Nat.le_of_ble_eq_true rfl), (Nat.le_of_ble_eq_true rfl)⟩ (Nat.le_of_ble_eq_true rfl) dL_law_313 ⟨by show _ + 1 ≤ 619727; omega, by show _ + 6 ≤ 7234331; omega⟩ (fun v9 M1 h9 => ?_)
        rcases h9 with ⟨hv9, hg4, hc4, bar2, fr2, q2, d, hd1, hd2⟩ | ⟨c, hv9, ⟨hc1, hc2⟩, hM9⟩
        · subst hv9
          have hpos : ¬ nI g < 0 := nI_pos (by omega)
          refine j_ist_15 dL_law_316 (by decide) rfl ?_
          refine j_il dL_law_318 rfl ?_
          refine j_ifltN (tgt := 331) dL_law_320 (by decide) (by omega) ?_
          refine j_il dL_law_323 rfl ?_
          refine j_iln dL_law_325 rfl rfl ?_
          refine j_iceqN (tgt := 331) dL_law_326 (by decide) (by omega) (by omega) (fun h326 => ?_) (fun h326 => ?_)
          · refine j_iln dL_law_331 rfl rfl ?_
            refine j_il dL_law_332 rfl ?_
            refine j_ifltN (tgt := 341) dL_law_334 (by decide) (by omega) ?_
            refine j_icN 1 dL_law_337 rfl ?_
            refine j_goto (tgt := 342) dL_law_338 (by decide) ?_
            refine j_iaddN dL_law_342 ?_
            refine j_ist_2 dL_law_343 (by decide) rfl ?_
            refine j_iln dL_law_344 rfl rfl ?_
            refine j_il dL_law_345 rfl ?_
            refine j_ifltN (tgt := 354) dL_law_347 (by decide) (by omega) ?_
            refine j_icN 1 dL_law_350 rfl ?_
            refine j_goto (tgt := 355) dL_law_351 (by decide) ?_
            refine j_iaddN dL_law_355 ?_
            refine j_ist_3 dL_law_356 (by decide) rfl ?_
            refine j_goto (tgt := 846) dL_law_357 (by decide) ?_
            refine j_fg [some (.ref b), some (.ref (eA E 0 0)), some (.int (nI (g + 1))), some (.int (nI (cnt + 1))), some (.int (nI pc)), some (.int (nI mc)), some (.int (nI e)), none, none, none, none, some (.long (stH M g cnt bar pc)), none, some (.long (mW M 0)), none, some (.int (nI g)), none, none, none, none] (by repeat (first | exact lsub_0 | refine lsub_s ?_ | refine lsub_n ?_)) ?_
            exact T846 M1 (g + 1) (cnt + 1) bar2 fr2 (pc) (mc) (nI g) _ _ (by omega) (by omega) q2 (fun z => absurd z hpos) ⟨d, hd1, by rw [hd2, hwb]⟩
          · exact absurd rfl h326
        · subst hv9
          subst M1
          have hneg := i_neg hc2
          refine j_ist_15 dL_law_316 (by decide) rfl ?_
          refine j_il dL_law_318 rfl ?_
          refine j_iflt (tgt := 331) dL_law_320 (by decide) (fun h320 => ?_) (fun h320 => ?_)
          · refine j_iln dL_law_331 rfl rfl ?_
            refine j_il dL_law_332 rfl ?_
            refine j_iflt (tgt := 341) dL_law_334 (by decide) (fun h334 => ?_) (fun h334 => ?_)
            · refine j_icN 0 dL_law_341 rfl ?_
              refine j_iaddN dL_law_342 ?_
              refine j_ist_2 dL_law_343 (by decide) rfl ?_
              refine j_iln dL_law_344 rfl rfl ?_
              refine j_il dL_law_345 rfl ?_
              refine j_iflt (tgt := 354) dL_law_347 (by decide) (fun h347 => ?_) (fun h347 => ?_)
              · refine j_icN 0 dL_law_354 rfl ?_
                refine j_iaddN dL_law_355 ?_
                refine j_ist_3 dL_law_356 (by decide) rfl ?_
                refine j_goto (tgt := 846) dL_law_357 (by decide) ?_
                refine j_fg [some (.ref b), some (.ref (eA E 0 0)), some (.int (nI g)), some (.int (nI cnt)), some (.int (nI pc)), some (.int (nI mc)), some (.int (nI e)), none, none, none, none, some (.long (stH M g cnt bar pc)), none, some (.long (mW M 0)), none, some (.int (c)), none, none, none, none] (by repeat (first | exact lsub_0 | refine lsub_s ?_ | refine lsub_n ?_)) ?_
                exact T846 M' g cnt bar fr pc mc c _ _ (by omega) (by omega) q9 (fun _ => hsb) ⟨0, by decide, by rw [hwb]; exact (Int64.add_zero _).symm⟩
              · exact absurd hneg h347
            · exact absurd hneg h334
          · exact absurd hneg h320
      have B1a : ∀ x16 : Int32, JL l E b L xs (k9) (n9) 248 [some (.ref b), some (.ref (eA E 0 0)), some (.int (nI g)), some (.int (nI cnt)), some (.int (nI pc)), some (.int (nI mc)), some (.int (nI e)), some (.int x7), some (.int x8), some (.int (nI f)), some (.int x10), some (.long (stH M g cnt bar pc)), none, some (.long (mW M 0)), none, some (.int (nI 0)), none, none, none, none] [.int x16] M' := by
        intro x16
        refine j_ist_16 dL_law_248 (by decide) rfl ?_
        refine j_aln dL_law_250 rfl rfl ?_
        refine j_icN 2 dL_law_251 rfl ?_
        refine j_il dL_law_252 rfl ?_
        refine j_il dL_law_254 rfl ?_
        refine j_biN 101 dL_law_256 rfl ?_
        refine j_icne (tgt := 272) dL_law_258 (by decide) (fun h258 => ?_) (fun h258 => ?_)
        · refine j_il dL_law_272 rfl ?_
          refine j_biN 109 dL_law_274 rfl ?_
          refine j_icne (tgt := 288) dL_law_276 (by decide) (fun h276 => ?_) (fun h276 => ?_)
          · refine j_il dL_law_288 rfl ?_
            refine j_biN 7 dL_law_290 rfl ?_
            refine j_low (by omega) (by omega) ⟨(Nat.le_of_ble_eq_true rfl), (Nat.le_of_ble_eq_true rfl)⟩ (Nat.le_of_ble_eq_true rfl) dL_law_292 ⟨by show _ ≤ 619727; omega, by show _ ≤ 7234331; omega⟩ ?_
            exact B1 _ _
          · refine j_il dL_law_279 rfl ?_
            refine j_icN 4 dL_law_281 rfl ?_
            refine j_low (by omega) (by omega) ⟨(Nat.le_of_ble_eq_true rfl), (Nat.le_of_ble_eq_true rfl)⟩ (Nat.le_of_ble_eq_true rfl) dL_law_282 ⟨by show _ ≤ 619727; omega, by show _ ≤ 7234331; omega⟩ ?_
            refine j_goto (tgt := 295) dL_law_285 (by decide) ?_
            exact B1 _ _
        · refine j_il dL_law_261 rfl ?_
          refine j_iln dL_law_263 rfl rfl ?_
          refine j_icN 1 dL_law_264 rfl ?_
          refine j_iaddN dL_law_265 ?_
          refine j_low (by omega) (by omega) ⟨(Nat.le_of_ble_eq_true rfl), (Nat.le_of_ble_eq_true rfl)⟩ (Nat.le_of_ble_eq_true rfl) dL_law_266 ⟨by show _ ≤ 619727; omega, by show _ ≤ 7234331; omega⟩ ?_
          refine j_goto (tgt := 295) dL_law_269 (by decide) ?_
          exact B1 _ _
      have B2 : JL l E b L xs (k9) (n9) 367 [some (.ref b), some (.ref (eA E 0 0)), some (.int (nI g)), some (.int (nI cnt)), some (.int (nI pc)), some (.int (nI mc)), some (.int (nI e)), some (.int x7), some (.int x8), some (.int (nI f)), some (.int x10), some (.long (stH M g cnt bar pc)), none, some (.long (mW M 0)), none, some (.int (nI 0)), none, none, none, none] [] M' := by
        refine j_aln dL_law_367 rfl rfl ?_
        refine j_icN 3 dL_law_368 rfl ?_
        refine j_il dL_law_369 rfl ?_
        refine j_il dL_law_371 rfl ?_
        refine j_icN 4 dL_law_373 rfl ?_
        refine j_ishr dL_law_374 ?_
        refine j_biN 6 dL_law_375 rfl ?_
        refine j_low (by omega) (by omega) ⟨(Nat.le_of_ble_eq_true rfl), (Nat.le_of_ble_eq_true rfl)⟩ (Nat.le_of_ble_eq_true rfl) dL_law_377 ⟨by show _ ≤ 619727; omega, by show _ ≤ 7234331; omega⟩ ?_
        refine j_icN 1 dL_law_380 rfl ?_
        refine j_il dL_law_381 rfl ?_
        refine j_biN 7 dL_law_383 rfl ?_
        refine j_ishr dL_law_385 ?_
        refine j_icN 5 dL_law_386 rfl ?_
        refine j_low (by omega) (by omega) ⟨(Nat.le_of_ble_eq_true rfl), (Nat.le_of_ble_eq_true rfl)⟩ (Nat.le_of_ble_eq_true rfl) dL_law_387 ⟨by show _ ≤ 619727; omega, by show _ ≤ 7234331; omega⟩ ?_
        refine j_iaddN dL_law_390 ?_
        refine j_icN 1 dL_law_391 rfl ?_
        refine j_il dL_law_392 rfl ?_
        refine j_biN 10 dL_law_394 rfl ?_
        refine j_ishr dL_law_396 ?_
        refine j_icN 5 dL_law_397 rfl ?_
        refine j_low (by omega) (by omega) ⟨(Nat.le_of_ble_eq_true rfl), (Nat.le_of_ble_eq_true rfl)⟩ (Nat.le_of_ble_eq_true rfl) dL_law_398 ⟨by show _ ≤ 619727; omega, by show _ ≤ 7234331; omega⟩ ?_
        refine j_iaddN dL_law_401 ?_
        refine j_lq (sp3 hl9 hnse q9) ⟨(Nat.le_of_ble_eq_true rfl), (Nat.le_of_ble_eq_true rfl)⟩ (Nat.le_of_ble_eq_true rfl) dL_law_402 ⟨by show _ + 1 ≤ 619727; omega, by show _ + 6 ≤ 7234331; omega⟩ (fun v9 M1 h9 => ?_)
        rcases h9 with ⟨w, hv9, hw9, bar2, fr2, q2, d, hd1, hd2⟩ | ⟨c, hv9, ⟨hc1, hc2⟩, hM9⟩
        · subst hv9
          have hpos := i_pos hw9
          refine j_ist_15 dL_law_405 (by decide) rfl ?_
          refine j_goto (tgt := 846) dL_law_407 (by decide) ?_
          refine j_fg [some (.ref b), some (.ref (eA E 0 0)), some (.int (nI g)), some (.int (nI cnt)), some (.int (nI pc)), some (.int (nI mc)), some (.int (nI e)), none, none, none, none, some (.long (stH M g cnt bar pc)), none, some (.long (mW M 0)), none, some (.int (w)), none, none, none, none] (by repeat (first | exact lsub_0 | refine lsub_s ?_ | refine lsub_n ?_)) ?_
          exact T846 M1 (g) (cnt) bar2 fr2 (pc) (mc) (w) _ _ (by omega) (by omega) q2 (fun z => absurd z hpos) ⟨d, hd1, by rw [hd2, hwb]⟩
        · subst hv9
          subst M1
          have hneg := i_neg hc2
          refine j_ist_15 dL_law_405 (by decide) rfl ?_
          refine j_goto (tgt := 846) dL_law_407 (by decide) ?_
          refine j_fg [some (.ref b), some (.ref (eA E 0 0)), some (.int (nI g)), some (.int (nI cnt)), some (.int (nI pc)), some (.int (nI mc)), some (.int (nI e)), none, none, none, none, some (.long (stH M g cnt bar pc)), none, some (.long (mW M 0)), none, some (.int (c)), none, none, none, none] (by repeat (first | exact lsub_0 | refine lsub_s ?_ | refine lsub_n ?_)) ?_
          exact T846 M' g cnt bar fr pc mc c _ _ (by omega) (by omega) q9 (fun _ => hsb) ⟨0, by decide, by rw [hwb]; exact (Int64.add_zero _).symm⟩
      have B3 : JL l E b L xs (k9) (n9) 417 [some (.ref b), some (.ref (eA E 0 0)), some (.int (nI g)), some (.int (nI cnt)), some (.int (nI pc)), some (.int (nI mc)), some (.int (nI e)), some (.int x7), some (.int x8), some (.int (nI f)), some (.int x10), some (.long (stH M g cnt bar pc)), none, some (.long (mW M 0)), none, some (.int (nI 0)), none, none, none, none] [] M' := by
        refine j_aln dL_law_417 rfl rfl ?_
        refine j_icN 4 dL_law_418 rfl ?_
        refine j_il dL_law_419 rfl ?_
        refine j_icN 0 dL_law_421 rfl ?_
        refine j_icN 0 dL_law_422 rfl ?_
        refine j_icN 0 dL_law_423 rfl ?_
        refine j_lq (sp4 hl9 hnse q9) ⟨(Nat.le_of_ble_eq_true rfl), (Nat.le_of_ble_eq_true rfl)⟩ (Nat.le_of_ble_eq_true rfl) dL_law_424 ⟨by show _ + 1 ≤ 619727; omega, by show _ + 6 ≤ 7234331; omega⟩ (fun v9 M1 h9 => ?_)
        rcases h9 with ⟨hc0, hv9, bar2, fr2, q2, d, hd1, hd2⟩ | ⟨c, hv9, ⟨hc1, hc2⟩, hM9⟩
        · subst hv9
          have hpos : ¬ nI (cnt - 1) < 0 := nI_pos (by omega)
          refine j_ist_15 dL_law_427 (by decide) rfl ?_
          refine j_iln dL_law_429 rfl rfl ?_
          refine j_il dL_law_430 rfl ?_
          refine j_ifltN (tgt := 439) dL_law_432 (by decide) (by omega) ?_
          refine j_icN 1 dL_law_435 rfl ?_
          refine j_goto (tgt := 440) dL_law_436 (by decide) ?_
          refine j_isubN dL_law_440 (by omega) ?_
          refine j_ist_3 dL_law_441 (by decide) rfl ?_
          refine j_il dL_law_442 rfl ?_
          refine j_ifltN (tgt := 846) dL_law_444 (by decide) (by omega) ?_
          refine j_il dL_law_447 rfl ?_
          refine j_iln dL_law_449 rfl rfl ?_
          refine j_iceqN (tgt := 846) dL_law_450 (by decide) (by omega) (by omega) (fun h450 => ?_) (fun h450 => ?_)
          · refine j_fg [some (.ref b), some (.ref (eA E 0 0)), some (.int (nI g)), some (.int (nI (cnt - 1))), some (.int (nI pc)), some (.int (nI mc)), some (.int (nI e)), none, none, none, none, some (.long (stH M g cnt bar pc)), none, some (.long (mW M 0)), none, some (.int (nI (cnt - 1))), none, none, none, none] (by repeat (first | exact lsub_0 | refine lsub_s ?_ | refine lsub_n ?_)) ?_
            exact T846 M1 (g) (cnt - 1) bar2 fr2 (pc) (mc) (nI (cnt - 1)) _ _ (by omega) (by omega) q2 (fun z => absurd z hpos) ⟨d, hd1, by rw [hd2, hwb]⟩
          · exact absurd rfl h450
        · subst hv9
          subst M1
          have hneg := i_neg hc2
          refine j_ist_15 dL_law_427 (by decide) rfl ?_
          refine j_iln dL_law_429 rfl rfl ?_
          refine j_il dL_law_430 rfl ?_
          refine j_iflt (tgt := 439) dL_law_432 (by decide) (fun h432 => ?_) (fun h432 => ?_)
          · refine j_icN 0 dL_law_439 rfl ?_
            refine j_isubN dL_law_440 (by omega) ?_
            refine j_ist_3 dL_law_441 (by decide) rfl ?_
            refine j_il dL_law_442 rfl ?_
            refine j_iflt (tgt := 846) dL_law_444 (by decide) (fun h444 => ?_) (fun h444 => ?_)
            · refine j_fg [some (.ref b), some (.ref (eA E 0 0)), some (.int (nI g)), some (.int (nI cnt)), some (.int (nI pc)), some (.int (nI mc)), some (.int (nI e)), none, none, none, none, some (.long (stH M g cnt bar pc)), none, some (.long (mW M 0)), none, some (.int (c)), none, none, none, none] (by repeat (first | exact lsub_0 | refine lsub_s ?_ | refine lsub_n ?_)) ?_
              exact T846 M' g cnt bar fr pc mc c _ _ (by omega) (by omega) q9 (fun _ => hsb) ⟨0, by decide, by rw [hwb]; exact (Int64.add_zero _).symm⟩
            · exact absurd hneg h444
          · exact absurd hneg h432
      have B4 : JL l E b L xs (k9) (n9) 462 [some (.ref b), some (.ref (eA E 0 0)), some (.int (nI g)), some (.int (nI cnt)), some (.int (nI pc)), some (.int (nI mc)), some (.int (nI e)), some (.int x7), some (.int x8), some (.int (nI f)), some (.int x10), some (.long (stH M g cnt bar pc)), none, some (.long (mW M 0)), none, some (.int (nI 0)), none, none, none, none] [] M' := by
        refine j_il dL_law_462 rfl ?_
        refine j_biN 8 dL_law_464 rfl ?_
        refine j_ishr dL_law_466 ?_
        refine j_iln dL_law_467 rfl rfl ?_
        refine j_icN 1 dL_law_468 rfl ?_
        refine j_iaddN dL_law_469 ?_
        refine j_low (by omega) (by omega) ⟨(Nat.le_of_ble_eq_true rfl), (Nat.le_of_ble_eq_true rfl)⟩ (Nat.le_of_ble_eq_true rfl) dL_law_470 ⟨by show _ ≤ 619727; omega, by show _ ≤ 7234331; omega⟩ ?_
        refine j_ist_16 dL_law_473 (by decide) rfl ?_
        refine j_aln dL_law_475 rfl rfl ?_
        refine j_icN 5 dL_law_476 rfl ?_
        refine j_il dL_law_477 rfl ?_
        refine j_il dL_law_479 rfl ?_
        refine j_icN 0 dL_law_481 rfl ?_
        refine j_icN 0 dL_law_482 rfl ?_
        generalize hx9 : nI (lowN (x8 >>> (nI 8 &&& 31)) % (cnt + 1)) = x9
        refine j_lq (sp5 hl9 hnse q9) ⟨(Nat.le_of_ble_eq_true rfl), (Nat.le_of_ble_eq_true rfl)⟩ (Nat.le_of_ble_eq_true rfl) dL_law_483 ⟨by show _ + 1 ≤ 619727; omega, by show _ + 6 ≤ 7234331; omega⟩ (fun v9 M1 h9 => ?_)
        rcases h9 with ⟨k7, hk7, hv9, ⟨bar2, fr2, q2, d, hd1, hd2⟩, hp1, p7, hp2, hp3⟩ | ⟨c, hv9, ⟨hc1, hc2⟩, hM9⟩
        · subst hv9
          have hpos : ¬ nI k7 < 0 := nI_pos (by omega)
          refine j_ist_15 dL_law_486 (by decide) rfl ?_
          refine j_il dL_law_488 rfl ?_
          refine j_ifltN (tgt := 511) dL_law_490 (by decide) (by omega) ?_
          refine j_aln dL_law_493 rfl rfl ?_
          refine j_biN 8 dL_law_494 rfl ?_
          refine j_il dL_law_496 rfl ?_
          refine j_icN 0 dL_law_498 rfl ?_
          refine j_icN 0 dL_law_499 rfl ?_
          refine j_icN 0 dL_law_500 rfl ?_
          refine j_lcd (sp8 hl9 hnse q2) ⟨(Nat.le_of_ble_eq_true rfl), (Nat.le_of_ble_eq_true rfl)⟩ (Nat.le_of_ble_eq_true rfl) dL_law_501 ⟨by show _ + 1 ≤ 619727; omega, by show _ + 6 ≤ 7234331; omega⟩ ?_
          refine j_topi (y := x9) (by unfold plX; rw [hp1, if_neg (by rw [hp3]; exact nI_pos (by omega))]) ?_
          refine j_il dL_law_504 rfl ?_
          refine j_iceq (tgt := 511) dL_law_506 (by decide) (fun h506 => ?_) (fun h506 => ?_)
          · refine j_goto (tgt := 846) dL_law_511 (by decide) ?_
            refine j_fg [some (.ref b), some (.ref (eA E 0 0)), some (.int (nI g)), some (.int (nI cnt)), some (.int (nI pc)), some (.int (nI mc)), some (.int (nI e)), none, none, none, none, some (.long (stH M g cnt bar pc)), none, some (.long (mW M 0)), none, some (.int (nI k7)), none, none, none, none] (by repeat (first | exact lsub_0 | refine lsub_s ?_ | refine lsub_n ?_)) ?_
            exact T846 M1 (g) (cnt) bar2 fr2 (pc) (mc) (nI k7) _ _ (by omega) (by omega) q2 (fun z => absurd z hpos) ⟨d, hd1, by rw [hd2, hwb]⟩
          · exact absurd rfl h506
        · subst hv9
          subst M1
          have hneg := i_neg hc2
          refine j_ist_15 dL_law_486 (by decide) rfl ?_
          refine j_il dL_law_488 rfl ?_
          refine j_iflt (tgt := 511) dL_law_490 (by decide) (fun h490 => ?_) (fun h490 => ?_)
          · refine j_goto (tgt := 846) dL_law_511 (by decide) ?_
            refine j_fg [some (.ref b), some (.ref (eA E 0 0)), some (.int (nI g)), some (.int (nI cnt)), some (.int (nI pc)), some (.int (nI mc)), some (.int (nI e)), none, none, none, none, some (.long (stH M g cnt bar pc)), none, some (.long (mW M 0)), none, some (.int (c)), none, none, none, none] (by repeat (first | exact lsub_0 | refine lsub_s ?_ | refine lsub_n ?_)) ?_
            exact T846 M' g cnt bar fr pc mc c _ _ (by omega) (by omega) q9 (fun _ => hsb) ⟨0, by decide, by rw [hwb]; exact (Int64.add_zero _).symm⟩
          · exact absurd hneg h490
      have B5 : JL l E b L xs (k9) (n9) 521 [some (.ref b), some (.ref (eA E 0 0)), some (.int (nI g)), some (.int (nI cnt)), some (.int (nI pc)), some (.int (nI mc)), some (.int (nI e)), some (.int x7), some (.int x8), some (.int (nI f)), some (.int x10), some (.long (stH M g cnt bar pc)), none, some (.long (mW M 0)), none, some (.int (nI 0)), none, none, none, none] [] M' := by
        refine j_aln dL_law_521 rfl rfl ?_
        refine j_biN 6 dL_law_522 rfl ?_
        refine j_il dL_law_524 rfl ?_
        refine j_il dL_law_526 rfl ?_
        refine j_bi (v := 9) dL_law_528 (by decide) ?_
        refine j_ishr dL_law_530 ?_
        refine j_ic (v := 1) dL_law_531 (by decide) ?_
        refine j_iand dL_law_532 ?_
        refine j_icN 0 dL_law_533 rfl ?_
        refine j_icN 0 dL_law_534 rfl ?_
        generalize hy9 : (x8 >>> (9 &&& 31)) &&& 1 = y9
        refine j_lq (sp6 hl9 hnse q9) ⟨(Nat.le_of_ble_eq_true rfl), (Nat.le_of_ble_eq_true rfl)⟩ (Nat.le_of_ble_eq_true rfl) dL_law_535 ⟨by show _ + 1 ≤ 619727; omega, by show _ + 6 ≤ 7234331; omega⟩ (fun v9 M1 h9 => ?_)
        rcases h9 with ⟨w, hv9, hw9, ⟨bar2, fr2, q2, d, hd1, hd2⟩, hp1, f9, hp2, hp3, hp4⟩ | ⟨c, hv9, ⟨hc1, hc2⟩, hM9⟩
        · subst hv9
          have hpos := i_pos hw9
          refine j_ist_15 dL_law_538 (by decide) rfl ?_
          refine j_il dL_law_540 rfl ?_
          refine j_iflt (tgt := 846) dL_law_542 (by decide) (fun h542 => ?_) (fun h542 => ?_)
          · exact absurd h542 hpos
          · refine j_aln dL_law_545 rfl rfl ?_
            refine j_biN 9 dL_law_546 rfl ?_
            refine j_il dL_law_548 rfl ?_
            refine j_icN 0 dL_law_550 rfl ?_
            refine j_icN 0 dL_law_551 rfl ?_
            refine j_icN 0 dL_law_552 rfl ?_
            refine j_lcd (sp9 hl9 hnse q2) ⟨(Nat.le_of_ble_eq_true rfl), (Nat.le_of_ble_eq_true rfl)⟩ (Nat.le_of_ble_eq_true rfl) dL_law_553 ⟨by show _ + 1 ≤ 619727; omega, by show _ + 6 ≤ 7234331; omega⟩ ?_
            have hs9 : stX9 M1 cnt bar2 (nI f) = nI 111 ↔ y9 = nI 1 := by
              unfold stX9
              rw [if_neg hp1, hp3, ntX_nI (by omega), hp4]
              by_cases cy : y9 = nI 1
              · rw [decide_eq_true cy, if_pos (by decide)]; exact ⟨fun _ => cy, fun _ => rfl⟩
              · rw [decide_eq_false cy, if_neg (fun z => z rfl)]
                refine ⟨fun z => ?_, fun z => absurd z cy⟩
                split at z
                · have hz := q2.2.2.2.2.1.2.2.2 f9 hp2
                  rw [z] at hz
                  exact absurd hz (by unfold fch; decide)
                · exact absurd z (by decide)
            by_cases cy : y9 = nI 1
            · refine j_topi (hs9.mpr cy) ?_
              refine j_bi (v := 111) dL_law_556 (by decide) ?_
              refine j_icne (tgt := 565) dL_law_558 (by decide) (fun h558 => ?_) (fun h558 => ?_)
              · exact absurd rfl h558
              · refine j_ic (v := 1) dL_law_561 (by decide) ?_
                refine j_goto (tgt := 566) dL_law_562 (by decide) ?_
                refine j_il dL_law_566 rfl ?_
                refine j_bi (v := 9) dL_law_568 (by decide) ?_
                refine j_ishr dL_law_570 ?_
                refine j_ic (v := 1) dL_law_571 (by decide) ?_
                refine j_iand dL_law_572 ?_
                refine j_topi hy9 ?_
                refine j_ic (v := 1) dL_law_573 (by decide) ?_
                refine j_icne (tgt := 581) dL_law_574 (by decide) (fun h574 => ?_) (fun h574 => ?_)
                · exact absurd cy h574
                · refine j_ic (v := 1) dL_law_577 (by decide) ?_
                  refine j_goto (tgt := 582) dL_law_578 (by decide) ?_
                  refine j_iceq (tgt := 846) dL_law_582 (by decide) (fun h582 => ?_) (fun h582 => ?_)
                  · refine j_fg [some (.ref b), some (.ref (eA E 0 0)), some (.int (nI g)), some (.int (nI cnt)), some (.int (nI pc)), some (.int (nI mc)), some (.int (nI e)), none, none, none, none, some (.long (stH M g cnt bar pc)), none, some (.long (mW M 0)), none, some (.int (w)), none, none, none, none] (by repeat (first | exact lsub_0 | refine lsub_s ?_ | refine lsub_n ?_)) ?_
                    exact T846 M1 (g) (cnt) bar2 fr2 (pc) (mc) (w) _ _ (by omega) (by omega) q2 (fun z => absurd z hpos) ⟨d, hd1, by rw [hd2, hwb]⟩
                  · exact absurd rfl h582
            · generalize hs8 : stX9 M1 cnt bar2 (nI f) = s8 at hs9 ⊢
              refine j_bi (v := 111) dL_law_556 (by decide) ?_
              refine j_icne (tgt := 565) dL_law_558 (by decide) (fun h558 => ?_) (fun h558 => ?_)
              · refine j_ic (v := 0) dL_law_565 (by decide) ?_
                refine j_il dL_law_566 rfl ?_
                refine j_bi (v := 9) dL_law_568 (by decide) ?_
                refine j_ishr dL_law_570 ?_
                refine j_ic (v := 1) dL_law_571 (by decide) ?_
                refine j_iand dL_law_572 ?_
                refine j_topi hy9 ?_
                refine j_ic (v := 1) dL_law_573 (by decide) ?_
                refine j_icne (tgt := 581) dL_law_574 (by decide) (fun h574 => ?_) (fun h574 => ?_)
                · refine j_ic (v := 0) dL_law_581 (by decide) ?_
                  refine j_iceq (tgt := 846) dL_law_582 (by decide) (fun h582 => ?_) (fun h582 => ?_)
                  · refine j_fg [some (.ref b), some (.ref (eA E 0 0)), some (.int (nI g)), some (.int (nI cnt)), some (.int (nI pc)), some (.int (nI mc)), some (.int (nI e)), none, none, none, none, some (.long (stH M g cnt bar pc)), none, some (.long (mW M 0)), none, some (.int (w)), none, none, none, none] (by repeat (first | exact lsub_0 | refine lsub_s ?_ | refine lsub_n ?_)) ?_
                    exact T846 M1 (g) (cnt) bar2 fr2 (pc) (mc) (w) _ _ (by omega) (by omega) q2 (fun z => absurd z hpos) ⟨d, hd1, by rw [hd2, hwb]⟩
                  · exact absurd rfl h582
                · exact absurd h574 cy
              · exact absurd (hs9.mp h558) cy
        · subst hv9
          subst M1
          have hneg := i_neg hc2
          refine j_ist_15 dL_law_538 (by decide) rfl ?_
          refine j_il dL_law_540 rfl ?_
          refine j_iflt (tgt := 846) dL_law_542 (by decide) (fun h542 => ?_) (fun h542 => ?_)
          · refine j_fg [some (.ref b), some (.ref (eA E 0 0)), some (.int (nI g)), some (.int (nI cnt)), some (.int (nI pc)), some (.int (nI mc)), some (.int (nI e)), none, none, none, none, some (.long (stH M g cnt bar pc)), none, some (.long (mW M 0)), none, some (.int (c)), none, none, none, none] (by repeat (first | exact lsub_0 | refine lsub_s ?_ | refine lsub_n ?_)) ?_
            exact T846 M' g cnt bar fr pc mc c _ _ (by omega) (by omega) q9 (fun _ => hsb) ⟨0, by decide, by rw [hwb]; exact (Int64.add_zero _).symm⟩
          · exact absurd hneg h542
      have B6 : JL l E b L xs (k9) (n9) 594 [some (.ref b), some (.ref (eA E 0 0)), some (.int (nI g)), some (.int (nI cnt)), some (.int (nI pc)), some (.int (nI mc)), some (.int (nI e)), some (.int x7), some (.int x8), some (.int (nI f)), some (.int x10), some (.long (stH M g cnt bar pc)), none, some (.long (mW M 0)), none, some (.int (nI 0)), none, none, none, none] [] M' := by
        refine j_aln dL_law_594 rfl rfl ?_
        refine j_biN 7 dL_law_595 rfl ?_
        refine j_il dL_law_597 rfl ?_
        refine j_iln dL_law_599 rfl rfl ?_
        refine j_icN 2 dL_law_600 rfl ?_
        refine j_iaddN dL_law_601 ?_
        refine j_low (by omega) (by omega) ⟨(Nat.le_of_ble_eq_true rfl), (Nat.le_of_ble_eq_true rfl)⟩ (Nat.le_of_ble_eq_true rfl) dL_law_602 ⟨by show _ ≤ 619727; omega, by show _ ≤ 7234331; omega⟩ ?_
        refine j_icN 0 dL_law_605 rfl ?_
        refine j_icN 0 dL_law_606 rfl ?_
        refine j_icN 0 dL_law_607 rfl ?_
        refine j_lq (sp7 hl9 q9) ⟨(Nat.le_of_ble_eq_true rfl), (Nat.le_of_ble_eq_true rfl)⟩ (Nat.le_of_ble_eq_true rfl) dL_law_608 ⟨by show _ + 1 ≤ 619727; omega, by show _ + 6 ≤ 7234331; omega⟩ (fun v9 M1 h9 => ?_)
        rcases h9 with ⟨hv9, hb9, bar2, fr2, q2, d, hd1, hd2⟩ | ⟨c, hv9, ⟨hc1, hc2⟩, hM9⟩
        · subst hv9
          have hpos : ¬ nI bar < 0 := nI_pos (by omega)
          refine j_ist_15 dL_law_611 (by decide) rfl ?_
          refine j_goto (tgt := 846) dL_law_613 (by decide) ?_
          refine j_fg [some (.ref b), some (.ref (eA E 0 0)), some (.int (nI g)), some (.int (nI cnt)), some (.int (nI pc)), some (.int (nI mc)), some (.int (nI e)), none, none, none, none, some (.long (stH M g cnt bar pc)), none, some (.long (mW M 0)), none, some (.int (nI bar)), none, none, none, none] (by repeat (first | exact lsub_0 | refine lsub_s ?_ | refine lsub_n ?_)) ?_
          exact T846 M1 (g) (cnt) bar2 fr2 (pc) (mc) (nI bar) _ _ (by omega) (by omega) q2 (fun z => absurd z hpos) ⟨d, hd1, by rw [hd2, hwb]⟩
        · subst hv9
          subst M1
          have hneg := i_neg hc2
          refine j_ist_15 dL_law_611 (by decide) rfl ?_
          refine j_goto (tgt := 846) dL_law_613 (by decide) ?_
          refine j_fg [some (.ref b), some (.ref (eA E 0 0)), some (.int (nI g)), some (.int (nI cnt)), some (.int (nI pc)), some (.int (nI mc)), some (.int (nI e)), none, none, none, none, some (.long (stH M g cnt bar pc)), none, some (.long (mW M 0)), none, some (.int (c)), none, none, none, none] (by repeat (first | exact lsub_0 | refine lsub_s ?_ | refine lsub_n ?_)) ?_
          exact T846 M' g cnt bar fr pc mc c _ _ (by omega) (by omega) q9 (fun _ => hsb) ⟨0, by decide, by rw [hwb]; exact (Int64.add_zero _).symm⟩
      have B7 : JL l E b L xs (k9) (n9) 623 [some (.ref b), some (.ref (eA E 0 0)), some (.int (nI g)), some (.int (nI cnt)), some (.int (nI pc)), some (.int (nI mc)), some (.int (nI e)), some (.int x7), some (.int x8), some (.int (nI f)), some (.int x10), some (.long (stH M g cnt bar pc)), none, some (.long (mW M 0)), none, some (.int (nI 0)), none, none, none, none] [] M' := by
        refine j_aln dL_law_623 rfl rfl ?_
        refine j_biN 14 dL_law_624 rfl ?_
        refine j_il dL_law_626 rfl ?_
        refine j_biN 44 dL_law_628 rfl ?_
        refine j_low (by omega) (by omega) ⟨(Nat.le_of_ble_eq_true rfl), (Nat.le_of_ble_eq_true rfl)⟩ (Nat.le_of_ble_eq_true rfl) dL_law_630 ⟨by show _ ≤ 619727; omega, by show _ ≤ 7234331; omega⟩ ?_
        refine j_biN 22 dL_law_633 rfl ?_
        refine j_isub dL_law_635 ?_
        refine j_il dL_law_636 rfl ?_
        refine j_biN 6 dL_law_638 rfl ?_
        refine j_ishr dL_law_640 ?_
        refine j_biN 6 dL_law_641 rfl ?_
        refine j_low (by omega) (by omega) ⟨(Nat.le_of_ble_eq_true rfl), (Nat.le_of_ble_eq_true rfl)⟩ (Nat.le_of_ble_eq_true rfl) dL_law_643 ⟨by show _ ≤ 619727; omega, by show _ ≤ 7234331; omega⟩ ?_
        refine j_icN 0 dL_law_646 rfl ?_
        refine j_icN 0 dL_law_647 rfl ?_
        refine j_lq (sp14 hl9 q9) ⟨(Nat.le_of_ble_eq_true rfl), (Nat.le_of_ble_eq_true rfl)⟩ (Nat.le_of_ble_eq_true rfl) dL_law_648 ⟨by show _ + 1 ≤ 619727; omega, by show _ + 6 ≤ 7234331; omega⟩ (fun v9 M1 h9 => ?_)
        rcases h9 with ⟨hv9, hp6, bar2, fr2, q2, d, hd1, hd2⟩ | ⟨c, hv9, ⟨hc1, hc2⟩, hM9⟩
        · subst hv9
          have hpos : ¬ nI pc < 0 := nI_pos (by omega)
          refine j_ist_15 dL_law_651 (by decide) rfl ?_
          refine j_il dL_law_653 rfl ?_
          refine j_il dL_law_655 rfl ?_
          refine j_ifltN (tgt := 664) dL_law_657 (by decide) (by omega) ?_
          refine j_icN 1 dL_law_660 rfl ?_
          refine j_goto (tgt := 665) dL_law_661 (by decide) ?_
          refine j_iaddN dL_law_665 ?_
          refine j_ist_4 dL_law_666 (by decide) rfl ?_
          refine j_goto (tgt := 846) dL_law_668 (by decide) ?_
          refine j_fg [some (.ref b), some (.ref (eA E 0 0)), some (.int (nI g)), some (.int (nI cnt)), some (.int (nI (pc + 1))), some (.int (nI mc)), some (.int (nI e)), none, none, none, none, some (.long (stH M g cnt bar pc)), none, some (.long (mW M 0)), none, some (.int (nI pc)), none, none, none, none] (by repeat (first | exact lsub_0 | refine lsub_s ?_ | refine lsub_n ?_)) ?_
          exact T846 M1 (g) (cnt) bar2 fr2 (pc + 1) (mc) (nI pc) _ _ (by omega) (by omega) q2 (fun z => absurd z hpos) ⟨d, hd1, by rw [hd2, hwb]⟩
        · subst hv9
          subst M1
          have hneg := i_neg hc2
          refine j_ist_15 dL_law_651 (by decide) rfl ?_
          refine j_il dL_law_653 rfl ?_
          refine j_il dL_law_655 rfl ?_
          refine j_iflt (tgt := 664) dL_law_657 (by decide) (fun h657 => ?_) (fun h657 => ?_)
          · refine j_icN 0 dL_law_664 rfl ?_
            refine j_iaddN dL_law_665 ?_
            refine j_ist_4 dL_law_666 (by decide) rfl ?_
            refine j_goto (tgt := 846) dL_law_668 (by decide) ?_
            refine j_fg [some (.ref b), some (.ref (eA E 0 0)), some (.int (nI g)), some (.int (nI cnt)), some (.int (nI pc)), some (.int (nI mc)), some (.int (nI e)), none, none, none, none, some (.long (stH M g cnt bar pc)), none, some (.long (mW M 0)), none, some (.int (c)), none, none, none, none] (by repeat (first | exact lsub_0 | refine lsub_s ?_ | refine lsub_n ?_)) ?_
            exact T846 M' g cnt bar fr pc mc c _ _ (by omega) (by omega) q9 (fun _ => hsb) ⟨0, by decide, by rw [hwb]; exact (Int64.add_zero _).symm⟩
          · exact absurd hneg h657
      have B8a : ∀ x16 x17 x18 x19 : Int32, JL l E b L xs (k9) (n9) 728 [some (.ref b), some (.ref (eA E 0 0)), some (.int (nI g)), some (.int (nI cnt)), some (.int (nI pc)), some (.int (nI mc)), some (.int (nI e)), some (.int x7), some (.int x8), some (.int (nI f)), some (.int x10), some (.long (stH M g cnt bar pc)), none, some (.long (mW M 0)), none, some (.int (nI 0)), some (.int x16), some (.int x17), some (.int x18), some (.int x19)] [] M' := by
        intro x16 x17 x18 x19
        refine j_aln dL_law_728 rfl rfl ?_
        refine j_biN 16 dL_law_729 rfl ?_
        refine j_il dL_law_731 rfl ?_
        refine j_il dL_law_733 rfl ?_
        refine j_il dL_law_735 rfl ?_
        refine j_il dL_law_737 rfl ?_
        refine j_lq (sp16 hl9 q9) ⟨(Nat.le_of_ble_eq_true rfl), (Nat.le_of_ble_eq_true rfl)⟩ (Nat.le_of_ble_eq_true rfl) dL_law_739 ⟨by show _ + 1 ≤ 619727; omega, by show _ + 6 ≤ 7234331; omega⟩ (fun v9 M1 h9 => ?_)
        rcases h9 with ⟨k7, hk7, hv9, hm7, ⟨bar2, fr2, q2, d, hd1, hd2⟩, a7, p7, ha7, hp7, hx0, hx1, hy7, hap⟩ | ⟨c, hv9, ⟨hc1, hc2⟩, hM9⟩
        · subst hv9
          subst hx0
          subst hx1
          have hpos : ¬ nI k7 < 0 := nI_pos (by omega)
          refine j_ist_15 dL_law_742 (by decide) rfl ?_
          refine j_il dL_law_744 rfl ?_
          refine j_ifltN (tgt := 790) dL_law_746 (by decide) (by omega) ?_
          refine j_aln dL_law_749 rfl rfl ?_
          refine j_biN 18 dL_law_750 rfl ?_
          refine j_il dL_law_752 rfl ?_
          refine j_il dL_law_754 rfl ?_
          refine j_icN 0 dL_law_756 rfl ?_
          refine j_icN 0 dL_law_757 rfl ?_
          refine j_lcd (sp18 hl9 q2 hp7 ha7) ⟨(Nat.le_of_ble_eq_true rfl), (Nat.le_of_ble_eq_true rfl)⟩ (Nat.le_of_ble_eq_true rfl) dL_law_758 ⟨by show _ + 1 ≤ 619727; omega, by show _ + 6 ≤ 7234331; omega⟩ ?_
          rcases hy7 with hy7 | ⟨r7, hr7, hy7⟩
          · refine j_il dL_law_761 rfl ?_
            refine j_ifge (tgt := 770) dL_law_763 (by decide) (fun h763 => ?_) (fun h763 => ?_)
            · exact absurd h763 (by rw [hy7]; decide)
            · refine j_ic (v := 0) dL_law_766 (by decide) ?_
              refine j_goto (tgt := 782) dL_law_767 (by decide) ?_
              refine j_isub dL_law_782 ?_
              refine j_il dL_law_783 rfl ?_
              refine j_iceq (tgt := 790) dL_law_785 (by decide) (fun h785 => ?_) (fun h785 => ?_)
              · refine j_il dL_law_790 rfl ?_
                refine j_il dL_law_792 rfl ?_
                refine j_ifltN (tgt := 801) dL_law_794 (by decide) (by omega) ?_
                refine j_icN 1 dL_law_797 rfl ?_
                refine j_goto (tgt := 802) dL_law_798 (by decide) ?_
                refine j_iaddN dL_law_802 ?_
                refine j_ist_5 dL_law_803 (by decide) rfl ?_
                refine j_goto (tgt := 846) dL_law_805 (by decide) ?_
                refine j_fg [some (.ref b), some (.ref (eA E 0 0)), some (.int (nI g)), some (.int (nI cnt)), some (.int (nI pc)), some (.int (nI (mc + 1))), some (.int (nI e)), none, none, none, none, some (.long (stH M g cnt bar pc)), none, some (.long (mW M 0)), none, some (.int (nI k7)), none, none, none, none] (by repeat (first | exact lsub_0 | refine lsub_s ?_ | refine lsub_n ?_)) ?_
                exact T846 M1 (g) (cnt) bar2 fr2 (pc) (mc + 1) (nI k7) _ _ (by omega) (by omega) q2 (fun z => absurd z hpos) ⟨d, hd1, by rw [hd2, hwb]⟩
              · exact absurd (by rw [hy7] at hap; exact hap) h785
          · subst hy7
            refine j_il dL_law_761 rfl ?_
            refine j_ifge (tgt := 770) dL_law_763 (by decide) (fun h763 => ?_) (fun h763 => ?_)
            · refine j_aln dL_law_770 rfl rfl ?_
              refine j_biN 18 dL_law_771 rfl ?_
              refine j_il dL_law_773 rfl ?_
              refine j_il dL_law_775 rfl ?_
              refine j_icN 0 dL_law_777 rfl ?_
              refine j_icN 0 dL_law_778 rfl ?_
              refine j_lcd (sp18 hl9 q2 hr7 ha7) ⟨(Nat.le_of_ble_eq_true rfl), (Nat.le_of_ble_eq_true rfl)⟩ (Nat.le_of_ble_eq_true rfl) dL_law_779 ⟨by show _ + 1 ≤ 619727; omega, by show _ + 6 ≤ 7234331; omega⟩ ?_
              refine j_isub dL_law_782 ?_
              refine j_il dL_law_783 rfl ?_
              refine j_iceq (tgt := 790) dL_law_785 (by decide) (fun h785 => ?_) (fun h785 => ?_)
              · refine j_il dL_law_790 rfl ?_
                refine j_il dL_law_792 rfl ?_
                refine j_ifltN (tgt := 801) dL_law_794 (by decide) (by omega) ?_
                refine j_icN 1 dL_law_797 rfl ?_
                refine j_goto (tgt := 802) dL_law_798 (by decide) ?_
                refine j_iaddN dL_law_802 ?_
                refine j_ist_5 dL_law_803 (by decide) rfl ?_
                refine j_goto (tgt := 846) dL_law_805 (by decide) ?_
                refine j_fg [some (.ref b), some (.ref (eA E 0 0)), some (.int (nI g)), some (.int (nI cnt)), some (.int (nI pc)), some (.int (nI (mc + 1))), some (.int (nI e)), none, none, none, none, some (.long (stH M g cnt bar pc)), none, some (.long (mW M 0)), none, some (.int (nI k7)), none, none, none, none] (by repeat (first | exact lsub_0 | refine lsub_s ?_ | refine lsub_n ?_)) ?_
                exact T846 M1 (g) (cnt) bar2 fr2 (pc) (mc + 1) (nI k7) _ _ (by omega) (by omega) q2 (fun z => absurd z hpos) ⟨d, hd1, by rw [hd2, hwb]⟩
              · exact absurd hap h785
            · exact absurd (Int32.not_lt.mp (nI_pos (by omega))) h763
        · subst hv9
          subst M1
          have hneg := i_neg hc2
          refine j_ist_15 dL_law_742 (by decide) rfl ?_
          refine j_il dL_law_744 rfl ?_
          refine j_iflt (tgt := 790) dL_law_746 (by decide) (fun h746 => ?_) (fun h746 => ?_)
          · refine j_il dL_law_790 rfl ?_
            refine j_il dL_law_792 rfl ?_
            refine j_iflt (tgt := 801) dL_law_794 (by decide) (fun h794 => ?_) (fun h794 => ?_)
            · refine j_icN 0 dL_law_801 rfl ?_
              refine j_iaddN dL_law_802 ?_
              refine j_ist_5 dL_law_803 (by decide) rfl ?_
              refine j_goto (tgt := 846) dL_law_805 (by decide) ?_
              refine j_fg [some (.ref b), some (.ref (eA E 0 0)), some (.int (nI g)), some (.int (nI cnt)), some (.int (nI pc)), some (.int (nI mc)), some (.int (nI e)), none, none, none, none, some (.long (stH M g cnt bar pc)), none, some (.long (mW M 0)), none, some (.int (c)), none, none, none, none] (by repeat (first | exact lsub_0 | refine lsub_s ?_ | refine lsub_n ?_)) ?_
              exact T846 M' g cnt bar fr pc mc c _ _ (by omega) (by omega) q9 (fun _ => hsb) ⟨0, by decide, by rw [hwb]; exact (Int64.add_zero _).symm⟩
            · exact absurd hneg h794
          · exact absurd hneg h746
      have B8 : JL l E b L xs (k9) (n9) 678 [some (.ref b), some (.ref (eA E 0 0)), some (.int (nI g)), some (.int (nI cnt)), some (.int (nI pc)), some (.int (nI mc)), some (.int (nI e)), some (.int x7), some (.int x8), some (.int (nI f)), some (.int x10), some (.long (stH M g cnt bar pc)), none, some (.long (mW M 0)), none, some (.int (nI 0)), none, none, none, none] [] M' := by
        refine j_il dL_law_678 rfl ?_
        refine j_icN 3 dL_law_680 rfl ?_
        refine j_low (by omega) (by omega) ⟨(Nat.le_of_ble_eq_true rfl), (Nat.le_of_ble_eq_true rfl)⟩ (Nat.le_of_ble_eq_true rfl) dL_law_681 ⟨by show _ ≤ 619727; omega, by show _ ≤ 7234331; omega⟩ ?_
        refine j_ist_16 dL_law_684 (by decide) rfl ?_
        refine j_il dL_law_686 rfl ?_
        refine j_icN 2 dL_law_688 rfl ?_
        refine j_ishr dL_law_689 ?_
        refine j_il dL_law_690 rfl ?_
        refine j_icN 1 dL_law_692 rfl ?_
        refine j_iaddN dL_law_693 ?_
        refine j_low (by omega) (by omega) ⟨(Nat.le_of_ble_eq_true rfl), (Nat.le_of_ble_eq_true rfl)⟩ (Nat.le_of_ble_eq_true rfl) dL_law_694 ⟨by show _ ≤ 619727; omega, by show _ ≤ 7234331; omega⟩ ?_
        refine j_ist_17 dL_law_697 (by decide) rfl ?_
        refine j_il dL_law_699 rfl ?_
        refine j_icN 5 dL_law_701 rfl ?_
        refine j_ishr dL_law_702 ?_
        refine j_il dL_law_703 rfl ?_
        refine j_icN 1 dL_law_705 rfl ?_
        refine j_iaddN dL_law_706 ?_
        refine j_low (by omega) (by omega) ⟨(Nat.le_of_ble_eq_true rfl), (Nat.le_of_ble_eq_true rfl)⟩ (Nat.le_of_ble_eq_true rfl) dL_law_707 ⟨by show _ ≤ 619727; omega, by show _ ≤ 7234331; omega⟩ ?_
        refine j_icN 1 dL_law_710 rfl ?_
        refine j_isub dL_law_711 ?_
        refine j_ist_18 dL_law_712 (by decide) rfl ?_
        refine j_il dL_law_714 rfl ?_
        refine j_biN 9 dL_law_716 rfl ?_
        refine j_ishr dL_law_718 ?_
        refine j_biN 9 dL_law_719 rfl ?_
        refine j_low (by omega) (by omega) ⟨(Nat.le_of_ble_eq_true rfl), (Nat.le_of_ble_eq_true rfl)⟩ (Nat.le_of_ble_eq_true rfl) dL_law_721 ⟨by show _ ≤ 619727; omega, by show _ ≤ 7234331; omega⟩ ?_
        refine j_icN 4 dL_law_724 rfl ?_
        refine j_isub dL_law_725 ?_
        refine j_ist_19 dL_law_726 (by decide) rfl ?_
        exact B8a _ _ _ _
      have B9 : JL l E b L xs (k9) (n9) 808 [some (.ref b), some (.ref (eA E 0 0)), some (.int (nI g)), some (.int (nI cnt)), some (.int (nI pc)), some (.int (nI mc)), some (.int (nI e)), some (.int x7), some (.int x8), some (.int (nI f)), some (.int x10), some (.long (stH M g cnt bar pc)), none, some (.long (mW M 0)), none, some (.int (nI 0)), none, none, none, none] [] M' := by
        refine j_aln dL_law_808 rfl rfl ?_
        refine j_biN 17 dL_law_809 rfl ?_
        refine j_il dL_law_811 rfl ?_
        refine j_il dL_law_813 rfl ?_
        refine j_icN 1 dL_law_815 rfl ?_
        refine j_iaddN dL_law_816 ?_
        refine j_low (by omega) (by omega) ⟨(Nat.le_of_ble_eq_true rfl), (Nat.le_of_ble_eq_true rfl)⟩ (Nat.le_of_ble_eq_true rfl) dL_law_817 ⟨by show _ ≤ 619727; omega, by show _ ≤ 7234331; omega⟩ ?_
        refine j_il dL_law_820 rfl ?_
        refine j_icN 4 dL_law_822 rfl ?_
        refine j_ishr dL_law_823 ?_
        refine j_icN 4 dL_law_824 rfl ?_
        refine j_low (by omega) (by omega) ⟨(Nat.le_of_ble_eq_true rfl), (Nat.le_of_ble_eq_true rfl)⟩ (Nat.le_of_ble_eq_true rfl) dL_law_825 ⟨by show _ ≤ 619727; omega, by show _ ≤ 7234331; omega⟩ ?_
        refine j_il dL_law_828 rfl ?_
        refine j_biN 7 dL_law_830 rfl ?_
        refine j_ishr dL_law_832 ?_
        refine j_biN 11 dL_law_833 rfl ?_
        refine j_low (by omega) (by omega) ⟨(Nat.le_of_ble_eq_true rfl), (Nat.le_of_ble_eq_true rfl)⟩ (Nat.le_of_ble_eq_true rfl) dL_law_835 ⟨by show _ ≤ 619727; omega, by show _ ≤ 7234331; omega⟩ ?_
        refine j_icN 5 dL_law_838 rfl ?_
        refine j_isub dL_law_839 ?_
        refine j_icN 0 dL_law_840 rfl ?_
        refine j_lq (sp17 hl9 q9) ⟨(Nat.le_of_ble_eq_true rfl), (Nat.le_of_ble_eq_true rfl)⟩ (Nat.le_of_ble_eq_true rfl) dL_law_841 ⟨by show _ + 1 ≤ 619727; omega, by show _ + 6 ≤ 7234331; omega⟩ (fun v9 M1 h9 => ?_)
        rcases h9 with ⟨k7, hk7, hv9, bar2, fr2, q2, d, hd1, hd2⟩ | ⟨c, hv9, ⟨hc1, hc2⟩, hM9⟩
        · subst hv9
          have hpos : ¬ nI k7 < 0 := nI_pos (by omega)
          refine j_ist_15 dL_law_844 (by decide) rfl ?_
          refine j_fg [some (.ref b), some (.ref (eA E 0 0)), some (.int (nI g)), some (.int (nI cnt)), some (.int (nI pc)), some (.int (nI mc)), some (.int (nI e)), none, none, none, none, some (.long (stH M g cnt bar pc)), none, some (.long (mW M 0)), none, some (.int (nI k7)), none, none, none, none] (by repeat (first | exact lsub_0 | refine lsub_s ?_ | refine lsub_n ?_)) ?_
          exact T846 M1 (g) (cnt) bar2 fr2 (pc) (mc) (nI k7) _ _ (by omega) (by omega) q2 (fun z => absurd z hpos) ⟨d, hd1, by rw [hd2, hwb]⟩
        · subst hv9
          subst M1
          have hneg := i_neg hc2
          refine j_ist_15 dL_law_844 (by decide) rfl ?_
          refine j_fg [some (.ref b), some (.ref (eA E 0 0)), some (.int (nI g)), some (.int (nI cnt)), some (.int (nI pc)), some (.int (nI mc)), some (.int (nI e)), none, none, none, none, some (.long (stH M g cnt bar pc)), none, some (.long (mW M 0)), none, some (.int (c)), none, none, none, none] (by repeat (first | exact lsub_0 | refine lsub_s ?_ | refine lsub_n ?_)) ?_
          exact T846 M' g cnt bar fr pc mc c _ _ (by omega) (by omega) q9 (fun _ => hsb) ⟨0, by decide, by rw [hwb]; exact (Int64.add_zero _).symm⟩
      refine j_il dL_law_95 rfl ?_
      refine j_ic (v := 2) dL_law_97 (by decide) ?_
      refine j_icge (tgt := 216) dL_law_98 (by decide) (fun h98 => ?_) (fun h98 => ?_)
      · refine j_il dL_law_216 rfl ?_
        refine j_biN 11 dL_law_218 rfl ?_
        refine j_icge (tgt := 360) dL_law_220 (by decide) (fun h220 => ?_) (fun h220 => ?_)
        · refine j_il dL_law_360 rfl ?_
          refine j_biN 16 dL_law_362 rfl ?_
          refine j_icge (tgt := 410) dL_law_364 (by decide) (fun h364 => ?_) (fun h364 => ?_)
          · refine j_il dL_law_410 rfl ?_
            refine j_biN 18 dL_law_412 rfl ?_
            refine j_icge (tgt := 455) dL_law_414 (by decide) (fun h414 => ?_) (fun h414 => ?_)
            · refine j_il dL_law_455 rfl ?_
              refine j_biN 21 dL_law_457 rfl ?_
              refine j_icge (tgt := 514) dL_law_459 (by decide) (fun h459 => ?_) (fun h459 => ?_)
              · refine j_il dL_law_514 rfl ?_
                refine j_biN 23 dL_law_516 rfl ?_
                refine j_icge (tgt := 587) dL_law_518 (by decide) (fun h518 => ?_) (fun h518 => ?_)
                · refine j_il dL_law_587 rfl ?_
                  refine j_biN 25 dL_law_589 rfl ?_
                  refine j_icge (tgt := 616) dL_law_591 (by decide) (fun h591 => ?_) (fun h591 => ?_)
                  · refine j_il dL_law_616 rfl ?_
                    refine j_biN 27 dL_law_618 rfl ?_
                    refine j_icge (tgt := 671) dL_law_620 (by decide) (fun h620 => ?_) (fun h620 => ?_)
                    · refine j_il dL_law_671 rfl ?_
                      refine j_biN 30 dL_law_673 rfl ?_
                      refine j_icge (tgt := 808) dL_law_675 (by decide) (fun h675 => ?_) (fun h675 => ?_)
                      · exact B9
                      · exact B8
                    · exact B7
                  · exact B6
                · exact B5
              · exact B4
            · exact B3
          · exact B2
        · refine j_il dL_law_223 rfl ?_
          refine j_icN 2 dL_law_225 rfl ?_
          refine j_icgeN (tgt := 234) dL_law_226 (by decide) (by omega) (by omega) (fun h226 => ?_) (fun h226 => ?_)
          · refine j_ldcX dL_law_234 (fun sa va => ?_)
            refine j_il dL_law_236 rfl ?_
            refine j_icN 5 dL_law_238 rfl ?_
            refine j_ishr dL_law_239 ?_
            refine j_biN 8 dL_law_240 rfl ?_
            refine j_low (by omega) (by omega) ⟨(Nat.le_of_ble_eq_true rfl), (Nat.le_of_ble_eq_true rfl)⟩ (Nat.le_of_ble_eq_true rfl) dL_law_242 ⟨by show _ ≤ 619727; omega, by show _ ≤ 7234331; omega⟩ ?_
            refine j_charX (Nat.mod_lt _ (by decide)) ⟨(Nat.le_of_ble_eq_true rfl), (Nat.le_of_ble_eq_true rfl)⟩ (Nat.le_of_ble_eq_true rfl) dL_law_245 ⟨by show _ ≤ 619727; omega, by show _ ≤ 7234331; omega⟩ ?_
            exact B1a _
          · refine j_biN 98 dL_law_229 rfl ?_
            refine j_goto (tgt := 248) dL_law_231 (by decide) ?_
            exact B1a _
      · refine j_aln dL_law_101 rfl rfl ?_
        refine j_icN 0 dL_law_102 rfl ?_
        refine j_il dL_law_103 rfl ?_
        refine j_biN 9 dL_law_105 rfl ?_
        refine j_low (by omega) (by omega) ⟨(Nat.le_of_ble_eq_true rfl), (Nat.le_of_ble_eq_true rfl)⟩ (Nat.le_of_ble_eq_true rfl) dL_law_107 ⟨by show _ ≤ 619727; omega, by show _ ≤ 7234331; omega⟩ ?_
        refine j_il dL_law_110 rfl ?_
        refine j_icN 4 dL_law_112 rfl ?_
        refine j_ishr dL_law_113 ?_
        refine j_icN 2 dL_law_114 rfl ?_
        refine j_low (by omega) (by omega) ⟨(Nat.le_of_ble_eq_true rfl), (Nat.le_of_ble_eq_true rfl)⟩ (Nat.le_of_ble_eq_true rfl) dL_law_115 ⟨by show _ ≤ 619727; omega, by show _ ≤ 7234331; omega⟩ ?_
        refine j_ifneN (tgt := 135) dL_law_118 (by decide) (by omega) (fun h118 => ?_) (fun h118 => ?_)
        · refine j_biN 100 dL_law_135 rfl ?_
          refine j_il dL_law_137 rfl ?_
          refine j_icN 5 dL_law_139 rfl ?_
          refine j_ishr dL_law_140 ?_
          refine j_biN 8 dL_law_141 rfl ?_
          refine j_low (by omega) (by omega) ⟨(Nat.le_of_ble_eq_true rfl), (Nat.le_of_ble_eq_true rfl)⟩ (Nat.le_of_ble_eq_true rfl) dL_law_143 ⟨by show _ ≤ 619727; omega, by show _ ≤ 7234331; omega⟩ ?_
          refine j_iaddN dL_law_146 ?_
          refine j_il dL_law_147 rfl ?_
          refine j_biN 9 dL_law_149 rfl ?_
          refine j_ishr dL_law_151 ?_
          refine j_icN 2 dL_law_152 rfl ?_
          refine j_low (by omega) (by omega) ⟨(Nat.le_of_ble_eq_true rfl), (Nat.le_of_ble_eq_true rfl)⟩ (Nat.le_of_ble_eq_true rfl) dL_law_153 ⟨by show _ ≤ 619727; omega, by show _ ≤ 7234331; omega⟩ ?_
          refine j_ifneN (tgt := 164) dL_law_156 (by decide) (by omega) (fun h156 => ?_) (fun h156 => ?_)
          · refine j_biN 45 dL_law_164 rfl ?_
            refine j_il dL_law_166 rfl ?_
            refine j_biN 10 dL_law_168 rfl ?_
            refine j_ishr dL_law_170 ?_
            refine j_icN 5 dL_law_171 rfl ?_
            refine j_low (by omega) (by omega) ⟨(Nat.le_of_ble_eq_true rfl), (Nat.le_of_ble_eq_true rfl)⟩ (Nat.le_of_ble_eq_true rfl) dL_law_172 ⟨by show _ ≤ 619727; omega, by show _ ≤ 7234331; omega⟩ ?_
            exact B0 _ _ _ _
          · refine j_biN 43 dL_law_159 rfl ?_
            refine j_goto (tgt := 166) dL_law_161 (by decide) ?_
            refine j_il dL_law_166 rfl ?_
            refine j_biN 10 dL_law_168 rfl ?_
            refine j_ishr dL_law_170 ?_
            refine j_icN 5 dL_law_171 rfl ?_
            refine j_low (by omega) (by omega) ⟨(Nat.le_of_ble_eq_true rfl), (Nat.le_of_ble_eq_true rfl)⟩ (Nat.le_of_ble_eq_true rfl) dL_law_172 ⟨by show _ ≤ 619727; omega, by show _ ≤ 7234331; omega⟩ ?_
            exact B0 _ _ _ _
        · refine j_il dL_law_121 rfl ?_
          refine j_icN 5 dL_law_123 rfl ?_
          refine j_ishr dL_law_124 ?_
          refine j_biN 9 dL_law_125 rfl ?_
          refine j_low (by omega) (by omega) ⟨(Nat.le_of_ble_eq_true rfl), (Nat.le_of_ble_eq_true rfl)⟩ (Nat.le_of_ble_eq_true rfl) dL_law_127 ⟨by show _ ≤ 619727; omega, by show _ ≤ 7234331; omega⟩ ?_
          refine j_icN 2 dL_law_130 rfl ?_
          refine j_isub dL_law_131 ?_
          refine j_goto (tgt := 147) dL_law_132 (by decide) ?_
          refine j_il dL_law_147 rfl ?_
          refine j_biN 9 dL_law_149 rfl ?_
          refine j_ishr dL_law_151 ?_
          refine j_icN 2 dL_law_152 rfl ?_
          refine j_low (by omega) (by omega) ⟨(Nat.le_of_ble_eq_true rfl), (Nat.le_of_ble_eq_true rfl)⟩ (Nat.le_of_ble_eq_true rfl) dL_law_153 ⟨by show _ ≤ 619727; omega, by show _ ≤ 7234331; omega⟩ ?_
          refine j_ifneN (tgt := 164) dL_law_156 (by decide) (by omega) (fun h156 => ?_) (fun h156 => ?_)
          · refine j_biN 45 dL_law_164 rfl ?_
            refine j_il dL_law_166 rfl ?_
            refine j_biN 10 dL_law_168 rfl ?_
            refine j_ishr dL_law_170 ?_
            refine j_icN 5 dL_law_171 rfl ?_
            refine j_low (by omega) (by omega) ⟨(Nat.le_of_ble_eq_true rfl), (Nat.le_of_ble_eq_true rfl)⟩ (Nat.le_of_ble_eq_true rfl) dL_law_172 ⟨by show _ ≤ 619727; omega, by show _ ≤ 7234331; omega⟩ ?_
            exact B0 _ _ _ _
          · refine j_biN 43 dL_law_159 rfl ?_
            refine j_goto (tgt := 166) dL_law_161 (by decide) ?_
            refine j_il dL_law_166 rfl ?_
            refine j_biN 10 dL_law_168 rfl ?_
            refine j_ishr dL_law_170 ?_
            refine j_icN 5 dL_law_171 rfl ?_
            refine j_low (by omega) (by omega) ⟨(Nat.le_of_ble_eq_true rfl), (Nat.le_of_ble_eq_true rfl)⟩ (Nat.le_of_ble_eq_true rfl) dL_law_172 ⟨by show _ ≤ 619727; omega, by show _ ≤ 7234331; omega⟩ ?_
            exact B0 _ _ _ _
    have T75 : ∀ (x7 x8 x10 : Int32) (f : Nat), JL l E b L xs (k) (n) 75 [some (.ref b), some (.ref (eA E 0 0)), some (.int (nI g)), some (.int (nI cnt)), some (.int (nI pc)), some (.int (nI mc)), some (.int (nI e)), some (.int x7), some (.int x8), some (.int (nI f)), none, none, none, none, none, none, none, none, none, none] [.int x10] M := by
      intro x7 x8 x10 f
      refine j_ist_10 dL_law_75 (by decide) rfl ?_
      refine j_aln dL_law_77 rfl rfl ?_
      refine j_iln dL_law_78 rfl rfl ?_
      refine j_il dL_law_79 rfl ?_
      refine j_sR (As := [.ref (eA E 0 0), .int (nI g), .int (nI pc)]) (rest := []) mf_L_state ml_L_143 ⟨(Nat.le_of_ble_eq_true rfl), (Nat.le_of_ble_eq_true rfl)⟩ (c_L_state hl9 hnse q) rfl rfl (Nat.le_of_ble_eq_true rfl) dL_law_81 ⟨by show _ + 200 ≤ 619727; omega, by show _ + 1200 ≤ 7234331; omega⟩ (fun v7 M7 h7 => ?_)
      obtain ⟨e7, b7⟩ := h7
      subst e7
      refine j_lst_11 dL_law_84 (by decide) rfl ?_
      refine j_aln dL_law_86 rfl rfl ?_
      refine j_vR (As := []) (rest := []) mf_X9_worked ml_L_121 ⟨(Nat.le_of_ble_eq_true rfl), (Nat.le_of_ble_eq_true rfl)⟩ c_X9_worked (by decide) rfl rfl rfl rfl (Nat.le_of_ble_eq_true rfl) dL_law_87 ⟨by show _ + 0 ≤ 619727; omega, by show _ + 0 ≤ 7234331; omega⟩ (fun v9 M9 h9 => ?_)
      obtain ⟨e9, f9⟩ := h9
      subst e9
      subst M9
      rw [show mW M7 0 = mW M 0 from congrFun (congrArg (fun x => x.1) b7.2.1) 0]
      refine j_lst_13 dL_law_90 (by decide) rfl ?_
      refine j_icN 0 dL_law_92 rfl ?_
      refine j_ist_15 dL_law_93 (by decide) rfl ?_
      exact T95 M7 x7 x8 x10 f _ _ b7 (by omega) (by omega)
    refine j_il dL_law_21 rfl ?_
    refine j_biN 44 dL_law_23 rfl ?_
    refine j_icgeN (tgt := 905) dL_law_25 (by decide) (by omega) (by omega) (fun h25 => ?_) (fun h25 => ?_)
    · exact absurd h25 (by omega)
    · refine j_aln dL_law_28 rfl rfl ?_
      refine j_icN 2 dL_law_29 rfl ?_
      refine j_il dL_law_30 rfl ?_
      refine j_imulN dL_law_32 ?_
      refine j_cell (by omega) (by omega) (Nat.le_of_ble_eq_true rfl) dL_law_33 (by omega) (by omega) (fun x7 => ?_)
      refine j_ist_7 dL_law_36 (by decide) rfl ?_
      refine j_aln dL_law_38 rfl rfl ?_
      refine j_icN 2 dL_law_39 rfl ?_
      refine j_il dL_law_40 rfl ?_
      refine j_imulN dL_law_42 ?_
      refine j_icN 1 dL_law_43 rfl ?_
      refine j_iaddN dL_law_44 ?_
      refine j_cell (by omega) (by omega) (Nat.le_of_ble_eq_true rfl) dL_law_45 (by omega) (by omega) (fun x8 => ?_)
      refine j_ist_8 dL_law_48 (by decide) rfl ?_
      refine j_il dL_law_50 rfl ?_
      refine j_iln dL_law_52 rfl rfl ?_
      refine j_icN 1 dL_law_53 rfl ?_
      refine j_iaddN dL_law_54 ?_
      refine j_low (by omega) (by omega) ⟨(Nat.le_of_ble_eq_true rfl), (Nat.le_of_ble_eq_true rfl)⟩ (Nat.le_of_ble_eq_true rfl) dL_law_55 ⟨by show _ ≤ 619727; omega, by show _ ≤ 7234331; omega⟩ ?_
      refine j_ist_9 dL_law_58 (by decide) rfl ?_
      refine j_il dL_law_60 rfl ?_
      refine j_icN 2 dL_law_62 rfl ?_
      refine j_icgeN (tgt := 70) dL_law_63 (by decide) (by omega) (by omega) (fun h63 => ?_) (fun h63 => ?_)
      · refine j_il dL_law_70 rfl ?_
        refine j_biN 31 dL_law_72 rfl ?_
        refine j_iand dL_law_74 ?_
        exact T75 _ _ _ _
      · refine j_icN 2 dL_law_66 rfl ?_
        refine j_goto (tgt := 75) dL_law_67 (by decide) ?_
        exact T75 _ _ _ _
