theorem a_plan0 {X : XT} {d T N : Nat} {h : HT} {τ : CT} {A : Nat → Int32} {n : Nat} {w : Int32} (H : CQ h T τ N A) (hn1 : 1 ≤ n) (hn : n ≤ 60) (w0 : w = 0) : ∃ best, fL (bvS (plP τ (aN A)) (plV τ A n) pcN) none (2 ^ τ 0 1) = some best ∧ best < 128 ∧ An X (d + 10) 162 [some (.ref 1), some (.int (nI n)), some (.int w), none, none, none] h (nI (plV τ A n best)) := by
  have hp := cq_p H
  have hk := cq_k H
  have h7 := o_mn hk
  have h8 := p2_7 h7
  have h01 : 0 < 2 ^ τ 0 1 := Nat.two_pow_pos _
  have hn8 := cq_n H
  have hc := sCity_lt (n := aN A) hk
  have ix := cnt_in hn1 hn
  have hV : ∀ i, plV τ A n i < 2 ^ 31 := fun i => by
    have := aCs_le (A := plA A i) hk n
    unfold plV
    omega
  have hCC : ∀ i, i < 128 → pcN i < 2 ^ 31 := fun i hi => by
    have := pcN_le i hi
    omega
  have hlt := fO_lt (bvS_o (p := plP τ (aN A)) (V := plV τ A n) (C := pcN))
  have h0 : bvS (plP τ (aN A)) (plV τ A n) pcN 0 none = some 0 := by
    refine if_pos ?_
    unfold plP
    rw [Nat.zero_and, decide_eq_true rfl, Bool.true_and]
    decide
  have hsome : ∀ n', 0 < n' → ∃ q, fL (bvS (plP τ (aN A)) (plV τ A n) pcN) none n' = some q := fO_some (s := bvS (plP τ (aN A)) (plV τ A n) pcN) bvS_n (by rw [h0]; exact Option.some_ne_none _)
  obtain ⟨best, hbest⟩ := hsome (2 ^ τ 0 1) h01
  have cl : ∃ g, Same h (hP g (bvP (plV τ A n) pcN (some best))) ∧ ∃ l5, (fun Q : QT => wq X (d + 10) 162 18 [some (.ref 1), some (.int (nI n)), some (.int w), none, none, none] [] h Q) = fun Q => wq X (d + 10) 162 87 [some (.ref 1), some (.int (nI n)), some (.int w), some (.int (nI (sCity τ (aN A)))), some (.int (nI 128)), l5] [] (hP g (bvP (plV τ A n) pcN (some best))) Q := by
    obtain ⟨p, i1, e⟩ := q_loopI (fun i (p : HT × Option Value) (Q : QT) => wq X (d + 10) 162 33 [some (.ref 1), some (.int (nI n)), some (.int w), some (.int (nI (sCity τ (aN A)))), some (.int (nI i)), p.2] [] (hP p.1 (bvP (plV τ A n) pcN (fL (bvS (plP τ (aN A)) (plV τ A n) pcN) none i))) Q) (fun _ p => Same h p.1) 128 (by
      intro i hi p hs
      have hl := hlt i
      rw [fL_s]
      generalize fL (bvS (plP τ (aN A)) (plV τ A n) pcN) none i = o at hl ⊢
      have C : ∀ o, CQ (hP p.1 o) T τ N A := fun o => CQ_same (Same_tr hs Same_hP) H
      have e1 : (nI i < 128) = True := eq_true (nI_lt (b := 128) hi (by decide))
      have hpi := pcN_le i hi
      have e3 : (3 < nI (pcN i)) = ¬ pcN i ≤ 3 := by
        have := nI_ltB (a := 3) (b := pcN i) (by omega) (by omega)
        rw [show (3 : Int32) = nI 3 from rfl, this]
        exact propext ⟨fun _ => by omega, fun _ => by omega⟩
      by_cases z : i &&& (127 ^^^ sCity τ (aN A)) = 0
      · by_cases y : pcN i ≤ 3
        · have z2 := z
          rw [city_sub h7 hi] at z2
          obtain ⟨g, f1, f2⟩ := c_lostIf (X := X) (d := d + 4) (C (bvP (plV τ A n) pcN o)) z2.1 z2.2 hn
          have eg := hP_fr f1
          refine ⟨(g, some (.int (nI (pcN i)))), Same_tr (Same_tr hs Same_hP) (Fr_Same (Or.inl rfl) f1), funext fun Q => ?_⟩
          have Cg := CQ_same (Fr_Same (Or.inl rfl) f1) (C (bvP (plV τ A n) pcN o))
          have es : bvS (plP τ (aN A)) (plV τ A n) pcN i o = bvM (plV τ A n) pcN i o := by
            refine if_pos ?_
            unfold plP
            rw [decide_eq_true z, decide_eq_true y]
            rfl
          have ct := fun (Q : QT) => c_take (X := X) (d := d + 8) (h := g) (Q := Q) (o := bvP (plV τ A n) pcN o) (s := nI i) (w := nI (plV τ A n i)) (c := nI (pcN i))
          rw [eg, bvP_take hV hCC hi o (fun q hq => by have := hl q hq; omega)] at ct
          rw [u162_33, es]
          simp only [u162_35, u162_38, u162_41, u162_43, u162_46, u162_48, u162_50, u162_51, u162_52, u162_53, u162_54, u162_57, u162_59, u162_60, u162_63, u162_64, u162_67, u162_69, u162_70, u162_72, u162_73, eq_self, q_nl0, q_nlI, q_nlR, not_false_eq_true, q_nz0, q_nz1, q_zv0, q_zv1, q_tl1, q_tl0, q_wif, q_swc, q_swn, List.cons_append, List.nil_append, if_true, if_false, e10, e01, Bool.false_eq_true, sh_1, sh_178, e1, c_bitCount hi, nI_not _ hi _ hc, nI_0eq (and_128 hi), eq_true z, e3, eq_true y, not_true_eq_false, p_1_9 (cq_p (C _)), f2]
          simp only [u162_76, u162_78, eq_self, q_nl0, q_nlI, q_nlR, not_false_eq_true, q_nz0, q_nz1, q_zv0, q_zv1, q_tl1, q_tl0, q_wif, q_swc, q_swn, List.cons_append, List.nil_append, if_true, if_false, e10, e01, Bool.false_eq_true, sh_1, sh_178, ct]
          simp only [u162_81, u162_84, eq_self, q_nl0, q_nlI, q_nlR, not_false_eq_true, q_nz0, q_nz1, q_zv0, q_zv1, q_tl1, q_tl0, q_wif, q_swc, q_swn, List.cons_append, List.nil_append, if_true, if_false, e10, e01, Bool.false_eq_true, nI_1]
        · refine ⟨(p.1, some (.int (nI (pcN i)))), hs, funext fun Q => ?_⟩
          have es : bvS (plP τ (aN A)) (plV τ A n) pcN i o = o := by
            refine if_neg ?_
            unfold plP
            rw [decide_eq_false y, Bool.and_false]
            decide
          rw [u162_33, es]
          simp only [u162_35, u162_38, u162_41, u162_43, u162_46, u162_48, u162_50, u162_51, u162_52, u162_53, u162_54, u162_57, u162_59, u162_60, u162_81, u162_84, eq_self, q_nl0, q_nlI, q_nlR, not_false_eq_true, q_nz0, q_nz1, q_zv0, q_zv1, q_tl1, q_tl0, q_wif, q_swc, q_swn, List.cons_append, List.nil_append, if_true, if_false, e10, e01, Bool.false_eq_true, e1, c_bitCount hi, nI_not _ hi _ hc, nI_0eq (and_128 hi), eq_true z, e3, eq_false y, not_false_eq_true, nI_1]
      · refine ⟨(p.1, some (.int (nI (pcN i)))), hs, funext fun Q => ?_⟩
        have es : bvS (plP τ (aN A)) (plV τ A n) pcN i o = o := by
          refine if_neg ?_
          unfold plP
          rw [decide_eq_false z, Bool.false_and]
          decide
        rw [u162_33, es]
        simp only [u162_35, u162_38, u162_41, u162_43, u162_46, u162_48, u162_50, u162_51, u162_52, u162_53, u162_54, u162_57, u162_59, u162_60, u162_81, u162_84, eq_self, q_nl0, q_nlI, q_nlR, not_false_eq_true, q_nz0, q_nz1, q_zv0, q_zv1, q_tl1, q_tl0, q_wif, q_swc, q_swn, List.cons_append, List.nil_append, if_true, if_false, e10, e01, Bool.false_eq_true, e1, c_bitCount hi, nI_not _ hi _ hc, nI_0eq (and_128 hi), eq_false z, nI_1]) (h, none) Same_rf
    have hb2 : fL (bvS (plP τ (aN A)) (plV τ A n) pcN) none 128 = some best := by
      rw [fL_to2 (s := bvS (plP τ (aN A)) (plV τ A n) pcN) h8 (fun i o h1 h2 => if_neg (by rw [plP_ge h7 h2 h1]; decide)), hbest]
    refine ⟨p.1, Same_tr i1 Same_hP, p.2, funext fun Q => ?_⟩
    simp only [u162_18, u162_19, u162_22, u162_25, u162_26, u162_29, u162_30, u162_31, eq_self, q_nl0, q_nlI, q_nlR, not_false_eq_true, q_nz0, q_nz1, q_zv0, q_zv1, q_tl1, q_tl0, q_wif, q_swc, q_swn, List.cons_append, List.nil_append, if_true, if_false, e10, e01, Bool.false_eq_true, sh_1, sh_178, p_1_9 hp, c_pClear, c_inCity (CQ_same Same_hP H)]
    refine (congrFun e Q).trans ?_
    rw [hb2, u162_33]
    simp only [u162_35, u162_38, eq_self, q_nl0, q_nlI, q_nlR, not_false_eq_true, q_nz0, q_nz1, q_zv0, q_zv1, q_tl1, q_tl0, q_wif, q_swc, q_swn, List.cons_append, List.nil_append, if_true, if_false, e10, e01, Bool.false_eq_true, eq_false (show ¬ nI 128 < 128 by decide)]
  obtain ⟨gc, gc1, l5, ec⟩ := cl
  have pg : m_gR gc 1 9 = 178 := by
    have := p_1_9 (Same_p gc1 hp)
    exact this
  refine ⟨best, hbest, Nat.lt_of_lt_of_le (hlt _ _ hbest) h8, ?_⟩
  refine ⟨_, gc1, fun Q => ?_⟩
  simp only [u162_0, u162_1, u162_4, u162_7, u162_8, u162_11, u162_12, u162_13, u162_16, u162_17, eq_self, q_nl0, q_nlI, q_nlR, not_false_eq_true, q_nz0, q_nz1, q_zv0, q_zv1, q_tl1, q_tl0, q_wif, q_swc, q_swn, List.cons_append, List.nil_append, if_true, if_false, e10, e01, Bool.false_eq_true, c_isCount, ix, eq_true w0]
  refine (congrFun ec Q).trans ?_
  simp only [u162_87, u162_88, u162_91, u162_92, u162_95, u162_98, u162_101, u162_102, u162_105, u162_108, eq_self, q_nl0, q_nlI, q_nlR, not_false_eq_true, q_nz0, q_nz1, q_zv0, q_zv1, q_tl1, q_tl0, q_wif, q_swc, q_swn, List.cons_append, List.nil_append, if_true, if_false, e10, e01, Bool.false_eq_true, sh_1, sh_178, eq_true w0, gR_hP, pg, gI_hP1, bvP]
theorem a_plan1 {X : XT} {d T N : Nat} {h : HT} {τ : CT} {A : Nat → Int32} {n : Nat} {w : Int32} (H : CQ h T τ N A) (hn1 : 1 ≤ n) (hn : n ≤ 60) (w1 : w = 1) : ∃ best, fL (bvS (plP τ (aN A)) (plV τ A n) pcN) none (2 ^ τ 0 1) = some best ∧ best < 128 ∧ An X (d + 10) 162 [some (.ref 1), some (.int (nI n)), some (.int w), none, none, none] h (nI best) := by
  have w0 : ¬ w = 0 := by rw [w1]; decide
  have hp := cq_p H
  have hk := cq_k H
  have h7 := o_mn hk
  have h8 := p2_7 h7
  have h01 : 0 < 2 ^ τ 0 1 := Nat.two_pow_pos _
  have hn8 := cq_n H
  have hc := sCity_lt (n := aN A) hk
  have ix := cnt_in hn1 hn
  have hV : ∀ i, plV τ A n i < 2 ^ 31 := fun i => by
    have := aCs_le (A := plA A i) hk n
    unfold plV
    omega
  have hCC : ∀ i, i < 128 → pcN i < 2 ^ 31 := fun i hi => by
    have := pcN_le i hi
    omega
  have hlt := fO_lt (bvS_o (p := plP τ (aN A)) (V := plV τ A n) (C := pcN))
  have h0 : bvS (plP τ (aN A)) (plV τ A n) pcN 0 none = some 0 := by
    refine if_pos ?_
    unfold plP
    rw [Nat.zero_and, decide_eq_true rfl, Bool.true_and]
    decide
  have hsome : ∀ n', 0 < n' → ∃ q, fL (bvS (plP τ (aN A)) (plV τ A n) pcN) none n' = some q := fO_some (s := bvS (plP τ (aN A)) (plV τ A n) pcN) bvS_n (by rw [h0]; exact Option.some_ne_none _)
  obtain ⟨best, hbest⟩ := hsome (2 ^ τ 0 1) h01
  have cl : ∃ g, Same h (hP g (bvP (plV τ A n) pcN (some best))) ∧ ∃ l5, (fun Q : QT => wq X (d + 10) 162 18 [some (.ref 1), some (.int (nI n)), some (.int w), none, none, none] [] h Q) = fun Q => wq X (d + 10) 162 87 [some (.ref 1), some (.int (nI n)), some (.int w), some (.int (nI (sCity τ (aN A)))), some (.int (nI 128)), l5] [] (hP g (bvP (plV τ A n) pcN (some best))) Q := by
    obtain ⟨p, i1, e⟩ := q_loopI (fun i (p : HT × Option Value) (Q : QT) => wq X (d + 10) 162 33 [some (.ref 1), some (.int (nI n)), some (.int w), some (.int (nI (sCity τ (aN A)))), some (.int (nI i)), p.2] [] (hP p.1 (bvP (plV τ A n) pcN (fL (bvS (plP τ (aN A)) (plV τ A n) pcN) none i))) Q) (fun _ p => Same h p.1) 128 (by
      intro i hi p hs
      have hl := hlt i
      rw [fL_s]
      generalize fL (bvS (plP τ (aN A)) (plV τ A n) pcN) none i = o at hl ⊢
      have C : ∀ o, CQ (hP p.1 o) T τ N A := fun o => CQ_same (Same_tr hs Same_hP) H
      have e1 : (nI i < 128) = True := eq_true (nI_lt (b := 128) hi (by decide))
      have hpi := pcN_le i hi
      have e3 : (3 < nI (pcN i)) = ¬ pcN i ≤ 3 := by
        have := nI_ltB (a := 3) (b := pcN i) (by omega) (by omega)
        rw [show (3 : Int32) = nI 3 from rfl, this]
        exact propext ⟨fun _ => by omega, fun _ => by omega⟩
      by_cases z : i &&& (127 ^^^ sCity τ (aN A)) = 0
      · by_cases y : pcN i ≤ 3
        · have z2 := z
          rw [city_sub h7 hi] at z2
          obtain ⟨g, f1, f2⟩ := c_lostIf (X := X) (d := d + 4) (C (bvP (plV τ A n) pcN o)) z2.1 z2.2 hn
          have eg := hP_fr f1
          refine ⟨(g, some (.int (nI (pcN i)))), Same_tr (Same_tr hs Same_hP) (Fr_Same (Or.inl rfl) f1), funext fun Q => ?_⟩
          have Cg := CQ_same (Fr_Same (Or.inl rfl) f1) (C (bvP (plV τ A n) pcN o))
          have es : bvS (plP τ (aN A)) (plV τ A n) pcN i o = bvM (plV τ A n) pcN i o := by
            refine if_pos ?_
            unfold plP
            rw [decide_eq_true z, decide_eq_true y]
            rfl
          have ct := fun (Q : QT) => c_take (X := X) (d := d + 8) (h := g) (Q := Q) (o := bvP (plV τ A n) pcN o) (s := nI i) (w := nI (plV τ A n i)) (c := nI (pcN i))
          rw [eg, bvP_take hV hCC hi o (fun q hq => by have := hl q hq; omega)] at ct
          rw [u162_33, es]
          simp only [u162_35, u162_38, u162_41, u162_43, u162_46, u162_48, u162_50, u162_51, u162_52, u162_53, u162_54, u162_57, u162_59, u162_60, u162_63, u162_64, u162_67, u162_69, u162_70, u162_72, u162_73, eq_self, q_nl0, q_nlI, q_nlR, not_false_eq_true, q_nz0, q_nz1, q_zv0, q_zv1, q_tl1, q_tl0, q_wif, q_swc, q_swn, List.cons_append, List.nil_append, if_true, if_false, e10, e01, Bool.false_eq_true, sh_1, sh_178, e1, c_bitCount hi, nI_not _ hi _ hc, nI_0eq (and_128 hi), eq_true z, e3, eq_true y, not_true_eq_false, p_1_9 (cq_p (C _)), f2]
          simp only [u162_76, u162_78, eq_self, q_nl0, q_nlI, q_nlR, not_false_eq_true, q_nz0, q_nz1, q_zv0, q_zv1, q_tl1, q_tl0, q_wif, q_swc, q_swn, List.cons_append, List.nil_append, if_true, if_false, e10, e01, Bool.false_eq_true, sh_1, sh_178, ct]
          simp only [u162_81, u162_84, eq_self, q_nl0, q_nlI, q_nlR, not_false_eq_true, q_nz0, q_nz1, q_zv0, q_zv1, q_tl1, q_tl0, q_wif, q_swc, q_swn, List.cons_append, List.nil_append, if_true, if_false, e10, e01, Bool.false_eq_true, nI_1]
        · refine ⟨(p.1, some (.int (nI (pcN i)))), hs, funext fun Q => ?_⟩
          have es : bvS (plP τ (aN A)) (plV τ A n) pcN i o = o := by
            refine if_neg ?_
            unfold plP
            rw [decide_eq_false y, Bool.and_false]
            decide
          rw [u162_33, es]
          simp only [u162_35, u162_38, u162_41, u162_43, u162_46, u162_48, u162_50, u162_51, u162_52, u162_53, u162_54, u162_57, u162_59, u162_60, u162_81, u162_84, eq_self, q_nl0, q_nlI, q_nlR, not_false_eq_true, q_nz0, q_nz1, q_zv0, q_zv1, q_tl1, q_tl0, q_wif, q_swc, q_swn, List.cons_append, List.nil_append, if_true, if_false, e10, e01, Bool.false_eq_true, e1, c_bitCount hi, nI_not _ hi _ hc, nI_0eq (and_128 hi), eq_true z, e3, eq_false y, not_false_eq_true, nI_1]
      · refine ⟨(p.1, some (.int (nI (pcN i)))), hs, funext fun Q => ?_⟩
        have es : bvS (plP τ (aN A)) (plV τ A n) pcN i o = o := by
          refine if_neg ?_
          unfold plP
          rw [decide_eq_false z, Bool.false_and]
          decide
        rw [u162_33, es]
        simp only [u162_35, u162_38, u162_41, u162_43, u162_46, u162_48, u162_50, u162_51, u162_52, u162_53, u162_54, u162_57, u162_59, u162_60, u162_81, u162_84, eq_self, q_nl0, q_nlI, q_nlR, not_false_eq_true, q_nz0, q_nz1, q_zv0, q_zv1, q_tl1, q_tl0, q_wif, q_swc, q_swn, List.cons_append, List.nil_append, if_true, if_false, e10, e01, Bool.false_eq_true, e1, c_bitCount hi, nI_not _ hi _ hc, nI_0eq (and_128 hi), eq_false z, nI_1]) (h, none) Same_rf
    have hb2 : fL (bvS (plP τ (aN A)) (plV τ A n) pcN) none 128 = some best := by
      rw [fL_to2 (s := bvS (plP τ (aN A)) (plV τ A n) pcN) h8 (fun i o h1 h2 => if_neg (by rw [plP_ge h7 h2 h1]; decide)), hbest]
    refine ⟨p.1, Same_tr i1 Same_hP, p.2, funext fun Q => ?_⟩
    simp only [u162_18, u162_19, u162_22, u162_25, u162_26, u162_29, u162_30, u162_31, eq_self, q_nl0, q_nlI, q_nlR, not_false_eq_true, q_nz0, q_nz1, q_zv0, q_zv1, q_tl1, q_tl0, q_wif, q_swc, q_swn, List.cons_append, List.nil_append, if_true, if_false, e10, e01, Bool.false_eq_true, sh_1, sh_178, p_1_9 hp, c_pClear, c_inCity (CQ_same Same_hP H)]
    refine (congrFun e Q).trans ?_
    rw [hb2, u162_33]
    simp only [u162_35, u162_38, eq_self, q_nl0, q_nlI, q_nlR, not_false_eq_true, q_nz0, q_nz1, q_zv0, q_zv1, q_tl1, q_tl0, q_wif, q_swc, q_swn, List.cons_append, List.nil_append, if_true, if_false, e10, e01, Bool.false_eq_true, eq_false (show ¬ nI 128 < 128 by decide)]
  obtain ⟨gc, gc1, l5, ec⟩ := cl
  have pg : m_gR gc 1 9 = 178 := by
    have := p_1_9 (Same_p gc1 hp)
    exact this
  refine ⟨best, hbest, Nat.lt_of_lt_of_le (hlt _ _ hbest) h8, ?_⟩
  refine ⟨_, gc1, fun Q => ?_⟩
  simp only [u162_0, u162_1, u162_4, u162_7, u162_8, u162_11, u162_12, u162_13, u162_16, u162_17, eq_self, q_nl0, q_nlI, q_nlR, not_false_eq_true, q_nz0, q_nz1, q_zv0, q_zv1, q_tl1, q_tl0, q_wif, q_swc, q_swn, List.cons_append, List.nil_append, if_true, if_false, e10, e01, Bool.false_eq_true, c_isCount, ix, eq_false w0, eq_true w1]
  refine (congrFun ec Q).trans ?_
  simp only [u162_87, u162_88, u162_91, u162_92, u162_95, u162_98, u162_101, u162_102, u162_105, u162_108, eq_self, q_nl0, q_nlI, q_nlR, not_false_eq_true, q_nz0, q_nz1, q_zv0, q_zv1, q_tl1, q_tl0, q_wif, q_swc, q_swn, List.cons_append, List.nil_append, if_true, if_false, e10, e01, Bool.false_eq_true, sh_1, sh_178, eq_false w0, gR_hP, pg, gI_hP3, bvP]
