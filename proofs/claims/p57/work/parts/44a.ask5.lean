theorem a_spark0 {X : XT} {d T N : Nat} {h : HT} {τ : CT} {A : Nat → Int32} {w : Int32} (H : CQ h T τ N A) (w0 : w = 0) : ∃ best, fL (miS (spP τ (aN A))) none (2 ^ τ 0 1) = some best ∧ best < 128 ∧ An X (d + 10) 132 [some (.ref 1), some (.int w), none, none] h (nI (pcN best)) := by
  have h7 := o_mn (cq_k H)
  have hp := cq_p H
  have hn := cq_n H
  have hT := ct_T (cq_t H)
  have h8 := p2_7 h7
  have hc := sCity_lt (n := aN A) (cq_k H)
  have hlt := fO_lt (miS_o (p := spP τ (aN A)))
  have h0 : miS (spP τ (aN A)) (sCity τ (aN A)) none ≠ none := by
    unfold miS spP
    simp only [city_sub h7 hc]
    rw [or_city h7 (cq_a H).1.2, sSpread_all]
    have e1 : sCity τ (aN A) < 2 ^ τ 0 1 := by
      have : sCity τ (aN A) ≤ sAll τ := Nat.and_le_left
      have h9 : 0 < 2 ^ τ 0 1 := Nat.two_pow_pos _
      have : sAll τ = 2 ^ τ 0 1 - 1 := rfl
      omega
    have e2 : sCity τ (aN A) &&& aN A = 0 := by
      apply Nat.eq_of_testBit_eq
      intro j
      rw [Nat.testBit_and, Nat.zero_testBit]
      by_cases u : j < 7
      · rw [sCity_bit u]
        cases (aN A).testBit j <;> simp
      · rw [bit_ge (k := 7) hn (by omega), Bool.and_false]
    rw [decide_eq_true ⟨e1, e2⟩, decide_eq_true rfl]
    exact Option.some_ne_none _
  have hci : sCity τ (aN A) < 2 ^ τ 0 1 := by
    have : sCity τ (aN A) ≤ sAll τ := Nat.and_le_left
    have h9 : 0 < 2 ^ τ 0 1 := Nat.two_pow_pos _
    have : sAll τ = 2 ^ τ 0 1 - 1 := rfl
    omega
  obtain ⟨best, hbest⟩ := fO_some miS_n h0 (2 ^ τ 0 1) hci
  have hbl : best < 128 := by
    have := hlt _ _ hbest
    omega
  have cl : ∀ (Q : QT) (w : Int32), (w = 0 ∨ w = 1) → wq X (d + 10) 132 11 [some (.ref 1), some (.int w), none, none] [] h Q = wq X (d + 10) 132 85 [some (.ref 1), some (.int w), some (.int (nI (sCity τ (aN A)))), some (.int (nI 128))] [] (hP h (miP (some best))) Q := by
    intro Q w _
    simp only [u132_11, u132_12, u132_15, u132_18, u132_19, u132_22, u132_23, u132_24, eq_self, q_nl0, q_nlI, q_nlR, not_false_eq_true, q_nz0, q_nz1, q_zv0, q_zv1, q_tl1, q_tl0, q_wif, q_swc, q_swn, List.cons_append, List.nil_append, if_true, if_false, e10, e01, Bool.false_eq_true, sh_1, sh_38, sh_178, p_1_9 hp, c_pClear, c_inCity (CQ_same Same_hP H)]
    refine (q_loop (fun i => wq X (d + 10) 132 25 [some (.ref 1), some (.int w), some (.int (nI (sCity τ (aN A)))), some (.int (nI i))] [] (hP h (miP (fL (miS (spP τ (aN A))) none i))) Q) 128 ?_).trans ?_
    · intro i hi
      have hl := hlt i
      show wq X (d + 10) 132 25 _ _ _ _ = _
      rw [u132_25, fL_s]
      generalize fL (miS (spP τ (aN A))) none i = o at hl ⊢
      have H' : ∀ p, CQ (hP h p) T τ N A := fun p => CQ_same Same_hP H
      have e1 : (nI i < 128) = True := eq_true (nI_lt (b := 128) hi (by decide))
      have hu := or_128 hn hi
      have hsp := sSpread_lt (cq_k H) hu
      have hal := sAll_lt (cq_k H)
      unfold miS spP
      simp only [u132_26, u132_29, u132_32, u132_33, u132_34, u132_35, u132_36, u132_37, u132_40, u132_41, u132_44, u132_45, u132_48, u132_51, u132_52, u132_53, u132_56, u132_57, u132_60, u132_63, u132_66, u132_67, u132_70, u132_71, u132_72, u132_73, u132_76, u132_79, u132_82, eq_self, q_nl0, q_nlI, q_nlR, not_false_eq_true, q_nz0, q_nz1, q_zv0, q_zv1, q_tl1, q_tl0, q_wif, q_swc, q_swn, List.cons_append, List.nil_append, if_true, if_false, e10, e01, Bool.false_eq_true, sh_1, sh_38, sh_178, shT_0 hT, e1, nI_not _ hi _ hc, nI_0eq (and_128 hi), cq_T (H' _), p_1_3 (cq_p (H' _)), p_1_9 (cq_p (H' _)), cq_o (H' _), nI_or, c_spreadOf (cq_t (H' _)) hu, c_every (cq_t (H' _)), nI_eqB (show sSpread τ (aN A ||| i) < 2 ^ 31 by omega) (show sAll τ < 2 ^ 31 by omega), c_bitCount hi, c_take, miP_take hi o (fun q hq => by have := hl q hq; omega), nI_1, Bool.and_eq_true, decide_eq_true_eq]
      by_cases z : i &&& (127 ^^^ sCity τ (aN A)) = 0
      · by_cases y : sSpread τ (aN A ||| i) = sAll τ
        · simp only [z, y, if_true, and_self]
        · simp only [z, y, if_true, if_false, and_false]
      · simp only [z, if_false, false_and]
    · show wq X (d + 10) 132 25 _ _ _ _ = _
      rw [u132_25, fL_to2 (s := miS (spP τ (aN A))) h8 (fun i o h1 h2 => if_neg (by rw [spP_ge h7 h2 h1]; decide)), hbest]
      simp only [u132_26, u132_29, eq_self, q_nl0, q_nlI, q_nlR, not_false_eq_true, q_nz0, q_nz1, q_zv0, q_zv1, q_tl1, q_tl0, q_wif, q_swc, q_swn, List.cons_append, List.nil_append, if_true, if_false, e10, e01, Bool.false_eq_true, eq_false (show ¬ nI 128 < 128 by decide)]
  have wi : (if w < 0 then (0 : Int32) else if 1 < w then 0 else 1) = 1 := by rw [w0]; decide
  refine ⟨best, hbest, hbl, ?_⟩
  refine ⟨hP h (miP (some best)), Same_hP, fun Q => ?_⟩
  simp only [u132_0, u132_1, u132_4, u132_5, u132_6, u132_9, u132_10, eq_self, q_nl0, q_nlI, q_nlR, not_false_eq_true, q_nz0, q_nz1, q_zv0, q_zv1, q_tl1, q_tl0, q_wif, q_swc, q_swn, List.cons_append, List.nil_append, if_true, if_false, e10, e01, Bool.false_eq_true, eq_true w0, cl Q w (Or.inl w0)]
  simp only [u132_85, u132_86, u132_89, u132_90, u132_93, u132_96, u132_99, u132_100, u132_103, u132_106, eq_self, q_nl0, q_nlI, q_nlR, not_false_eq_true, q_nz0, q_nz1, q_zv0, q_zv1, q_tl1, q_tl0, q_wif, q_swc, q_swn, List.cons_append, List.nil_append, if_true, if_false, e10, e01, Bool.false_eq_true, sh_1, sh_178, eq_true w0, gR_hP, p_1_9 hp, gI_hP2, miP]
theorem a_spark1 {X : XT} {d T N : Nat} {h : HT} {τ : CT} {A : Nat → Int32} {w : Int32} (H : CQ h T τ N A) (w1 : w = 1) : ∃ best, fL (miS (spP τ (aN A))) none (2 ^ τ 0 1) = some best ∧ best < 128 ∧ An X (d + 10) 132 [some (.ref 1), some (.int w), none, none] h (nI best) := by
  have h7 := o_mn (cq_k H)
  have hp := cq_p H
  have hn := cq_n H
  have hT := ct_T (cq_t H)
  have h8 := p2_7 h7
  have hc := sCity_lt (n := aN A) (cq_k H)
  have hlt := fO_lt (miS_o (p := spP τ (aN A)))
  have h0 : miS (spP τ (aN A)) (sCity τ (aN A)) none ≠ none := by
    unfold miS spP
    simp only [city_sub h7 hc]
    rw [or_city h7 (cq_a H).1.2, sSpread_all]
    have e1 : sCity τ (aN A) < 2 ^ τ 0 1 := by
      have : sCity τ (aN A) ≤ sAll τ := Nat.and_le_left
      have h9 : 0 < 2 ^ τ 0 1 := Nat.two_pow_pos _
      have : sAll τ = 2 ^ τ 0 1 - 1 := rfl
      omega
    have e2 : sCity τ (aN A) &&& aN A = 0 := by
      apply Nat.eq_of_testBit_eq
      intro j
      rw [Nat.testBit_and, Nat.zero_testBit]
      by_cases u : j < 7
      · rw [sCity_bit u]
        cases (aN A).testBit j <;> simp
      · rw [bit_ge (k := 7) hn (by omega), Bool.and_false]
    rw [decide_eq_true ⟨e1, e2⟩, decide_eq_true rfl]
    exact Option.some_ne_none _
  have hci : sCity τ (aN A) < 2 ^ τ 0 1 := by
    have : sCity τ (aN A) ≤ sAll τ := Nat.and_le_left
    have h9 : 0 < 2 ^ τ 0 1 := Nat.two_pow_pos _
    have : sAll τ = 2 ^ τ 0 1 - 1 := rfl
    omega
  obtain ⟨best, hbest⟩ := fO_some miS_n h0 (2 ^ τ 0 1) hci
  have hbl : best < 128 := by
    have := hlt _ _ hbest
    omega
  have cl : ∀ (Q : QT) (w : Int32), (w = 0 ∨ w = 1) → wq X (d + 10) 132 11 [some (.ref 1), some (.int w), none, none] [] h Q = wq X (d + 10) 132 85 [some (.ref 1), some (.int w), some (.int (nI (sCity τ (aN A)))), some (.int (nI 128))] [] (hP h (miP (some best))) Q := by
    intro Q w _
    simp only [u132_11, u132_12, u132_15, u132_18, u132_19, u132_22, u132_23, u132_24, eq_self, q_nl0, q_nlI, q_nlR, not_false_eq_true, q_nz0, q_nz1, q_zv0, q_zv1, q_tl1, q_tl0, q_wif, q_swc, q_swn, List.cons_append, List.nil_append, if_true, if_false, e10, e01, Bool.false_eq_true, sh_1, sh_38, sh_178, p_1_9 hp, c_pClear, c_inCity (CQ_same Same_hP H)]
    refine (q_loop (fun i => wq X (d + 10) 132 25 [some (.ref 1), some (.int w), some (.int (nI (sCity τ (aN A)))), some (.int (nI i))] [] (hP h (miP (fL (miS (spP τ (aN A))) none i))) Q) 128 ?_).trans ?_
    · intro i hi
      have hl := hlt i
      show wq X (d + 10) 132 25 _ _ _ _ = _
      rw [u132_25, fL_s]
      generalize fL (miS (spP τ (aN A))) none i = o at hl ⊢
      have H' : ∀ p, CQ (hP h p) T τ N A := fun p => CQ_same Same_hP H
      have e1 : (nI i < 128) = True := eq_true (nI_lt (b := 128) hi (by decide))
      have hu := or_128 hn hi
      have hsp := sSpread_lt (cq_k H) hu
      have hal := sAll_lt (cq_k H)
      unfold miS spP
      simp only [u132_26, u132_29, u132_32, u132_33, u132_34, u132_35, u132_36, u132_37, u132_40, u132_41, u132_44, u132_45, u132_48, u132_51, u132_52, u132_53, u132_56, u132_57, u132_60, u132_63, u132_66, u132_67, u132_70, u132_71, u132_72, u132_73, u132_76, u132_79, u132_82, eq_self, q_nl0, q_nlI, q_nlR, not_false_eq_true, q_nz0, q_nz1, q_zv0, q_zv1, q_tl1, q_tl0, q_wif, q_swc, q_swn, List.cons_append, List.nil_append, if_true, if_false, e10, e01, Bool.false_eq_true, sh_1, sh_38, sh_178, shT_0 hT, e1, nI_not _ hi _ hc, nI_0eq (and_128 hi), cq_T (H' _), p_1_3 (cq_p (H' _)), p_1_9 (cq_p (H' _)), cq_o (H' _), nI_or, c_spreadOf (cq_t (H' _)) hu, c_every (cq_t (H' _)), nI_eqB (show sSpread τ (aN A ||| i) < 2 ^ 31 by omega) (show sAll τ < 2 ^ 31 by omega), c_bitCount hi, c_take, miP_take hi o (fun q hq => by have := hl q hq; omega), nI_1, Bool.and_eq_true, decide_eq_true_eq]
      by_cases z : i &&& (127 ^^^ sCity τ (aN A)) = 0
      · by_cases y : sSpread τ (aN A ||| i) = sAll τ
        · simp only [z, y, if_true, and_self]
        · simp only [z, y, if_true, if_false, and_false]
      · simp only [z, if_false, false_and]
    · show wq X (d + 10) 132 25 _ _ _ _ = _
      rw [u132_25, fL_to2 (s := miS (spP τ (aN A))) h8 (fun i o h1 h2 => if_neg (by rw [spP_ge h7 h2 h1]; decide)), hbest]
      simp only [u132_26, u132_29, eq_self, q_nl0, q_nlI, q_nlR, not_false_eq_true, q_nz0, q_nz1, q_zv0, q_zv1, q_tl1, q_tl0, q_wif, q_swc, q_swn, List.cons_append, List.nil_append, if_true, if_false, e10, e01, Bool.false_eq_true, eq_false (show ¬ nI 128 < 128 by decide)]
  have w0 : ¬ w = 0 := by rw [w1]; decide
  have wi : (if w < 0 then (0 : Int32) else if 1 < w then 0 else 1) = 1 := by rw [w1]; decide
  refine ⟨best, hbest, hbl, ?_⟩
  refine ⟨hP h (miP (some best)), Same_hP, fun Q => ?_⟩
  simp only [u132_0, u132_1, u132_4, u132_5, u132_6, u132_9, u132_10, eq_self, q_nl0, q_nlI, q_nlR, not_false_eq_true, q_nz0, q_nz1, q_zv0, q_zv1, q_tl1, q_tl0, q_wif, q_swc, q_swn, List.cons_append, List.nil_append, if_true, if_false, e10, e01, Bool.false_eq_true, eq_false w0, eq_true w1, cl Q w (Or.inr w1)]
  simp only [u132_85, u132_86, u132_89, u132_90, u132_93, u132_96, u132_99, u132_100, u132_103, u132_106, eq_self, q_nl0, q_nlI, q_nlR, not_false_eq_true, q_nz0, q_nz1, q_zv0, q_zv1, q_tl1, q_tl0, q_wif, q_swc, q_swn, List.cons_append, List.nil_append, if_true, if_false, e10, e01, Bool.false_eq_true, sh_1, sh_178, eq_false w0, gR_hP, p_1_9 hp, gI_hP3, miP]
