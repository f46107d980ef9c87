theorem a_weight0 {X : XT} {d T N : Nat} {h : HT} {τ : CT} {A : Nat → Int32} {m : Nat} {w : Int32} (H : CQ h T τ N A) (hm : m < τ 0 1) (w0 : w = 0) : An X (d + 10) 144 [some (.ref 1), some (.int (nI m)), some (.int w), none] h (nI (fL (wS τ m) 0 (2 ^ τ 0 1)) / nI (Nat.gcd (fL (wS τ m) 0 (2 ^ τ 0 1)) (fct (τ 0 1)))) := by
  have h7 := o_mn (cq_k H)
  have hp := cq_p H
  have hT := ct_T (cq_t H)
  have h8 := p2_7 h7
  have hal := sAll_lt (cq_k H)
  have ix : ixB (nI m) (τ 0 1) = true := ixB_in hm (by omega)
  have hs2 := wS_le (cq_k H) hm 128
  have he : fL (wS τ m) 0 128 = fL (wS τ m) 0 (2 ^ τ 0 1) := fL_to (s := wS τ m) h8 (fun i o hi => if_neg (fun z => by omega))
  have hf := fct_7 (τ 0 1) (by omega)
  have hf0 := fct_pos (τ 0 1)
  have e1 : nI (τ 0 1) - 1 = nI (τ 0 1 - 1) := by rw [show (1 : Int32) = nI 1 from rfl, pk_sub (by omega)]
  have hp2 := p2_lt (show m < 7 by omega)
  have cs : ∀ (Q : QT), wq X (d + 9) 145 0 [some (.ref 1), some (.int (nI m)), none, none, none, none, none, none] [] h Q = Q (some (.int (nI (fL (wS τ m) 0 128)))) h := by
    intro Q
    simp only [u145_0, u145_1, u145_2, u145_3, u145_4, u145_5, u145_6, u145_7, eq_self, q_nl0, q_nlI, q_nlR, not_false_eq_true, q_nz0, q_nz1, q_zv0, q_zv1, q_tl1, q_tl0, q_wif, q_swc, q_swn, List.cons_append, List.nil_append, if_true, if_false, e10, e01, Bool.false_eq_true, nI_sh m (by omega)]
    obtain ⟨l', e⟩ := q_loopL (fun i (l : Option Value × Option Value × Option Value) => wq X (d + 9) 145 9 [some (.ref 1), some (.int (nI m)), some (.int (nI (fL (wS τ m) 0 i))), some (.int (nI (2 ^ m))), some (.int (nI i)), l.1, l.2.1, l.2.2] [] h Q) 128 (by
      intro i hi l
      have f1 : (nI i < 128) = True := eq_true (nI_lt (b := 128) hi (by decide))
      have f2 : (nI i &&& (nI (sAll τ) ^^^ (-1)) = 0) = (i < 2 ^ τ 0 1) := by
        rw [nI_not _ hi _ hal, nI_0eq (and_128 hi)]
        exact p2m_iff _ (by omega) i hi
      by_cases z : i < 2 ^ τ 0 1 ∧ i.testBit m = false
      · refine ⟨(some (.int (nI (pcN i))), some (.int (nI (τ 0 1 - 1 - pcN i))), some (.int (nI (sLoss τ (i ||| 2 ^ m) - sLoss τ i)))), ?_⟩
        have g1 := pc_men h7 hm z.1 z.2
        have g2 : nI (τ 0 1 - 1) - nI (pcN i) = nI (τ 0 1 - 1 - pcN i) := pk_sub (by omega)
        have g3 : (nI (pcN i) < Int32.ofNat 8) = True := eq_true (nI_lt (b := 8) (by omega) (by omega))
        have g4 : (nI (τ 0 1 - 1 - pcN i) < Int32.ofNat 8) = True := eq_true (nI_lt (b := 8) (by omega) (by omega))
        have g5 : (nI (τ 0 1 - 1 - pcN i) < 0) = False := oI_lt0 (by omega)
        have g6 : m_in (nI (pcN i)) 8 = true := q_in (by omega) (by decide)
        have g7 : m_in (nI (τ 0 1 - 1 - pcN i)) 8 = true := q_in (by omega) (by decide)
        have g8 : nI (sLoss τ (i ||| 2 ^ m)) - nI (sLoss τ i) = nI (sLoss τ (i ||| 2 ^ m) - sLoss τ i) := pk_sub (sLoss_mono (cq_k H) i (2 ^ m))
        have es : wS τ m i (fL (wS τ m) 0 i) = fL (wS τ m) 0 i + wT τ m i := if_pos z
        show wq X (d + 9) 145 9 _ _ _ _ = _
        rw [u145_9, fL_s, es]
        simp only [u145_11, u145_14, u145_17, u145_18, u145_20, u145_23, u145_26, u145_28, u145_29, u145_30, u145_33, u145_35, u145_38, u145_40, u145_41, u145_44, u145_47, u145_48, u145_49, u145_51, u145_52, u145_54, u145_56, u145_59, u145_60, u145_63, u145_65, u145_68, u145_70, u145_73, u145_74, u145_77, u145_78, u145_81, u145_83, u145_84, u145_85, u145_88, u145_89, u145_92, u145_94, u145_97, u145_98, u145_100, u145_101, u145_104, u145_106O, u145_107, u145_110, u145_112O, u145_113, u145_114, u145_116, u145_117, u145_118, u145_119, u145_122, u145_59O, u145_73O, eq_self, q_nl0, q_nlI, q_nlR, not_false_eq_true, q_nz0, q_nz1, q_zv0, q_zv1, q_tl1, q_tl0, q_wif, q_swc, q_swn, List.cons_append, List.nil_append, if_true, if_false, e10, e01, Bool.false_eq_true, sh_1, shT_0 hT, f1, c_isSet (cq_t H) (cq_T H), f2, eq_true z.1, nI_and, and_b0 _ hi m (by omega), z.2, c_bitCount hi, cq_T H, ct_mn (cq_t H), e1, g2, g3, g4, g5, g6, g7, nI_or, c_lossBy (cq_t H) (or_128 hi hp2), c_lossBy (cq_t H) hi, g8, q_cl (show pcN i < 2 ^ 31 by omega), q_cl (show τ 0 1 - 1 - pcN i < 2 ^ 31 by omega), ord_f _ (show pcN i < 8 by omega), ord_f _ (show τ 0 1 - 1 - pcN i < 8 by omega), pk_mul, nI_add, nI_1]
        rfl
      · refine ⟨l, ?_⟩
        have es : wS τ m i (fL (wS τ m) 0 i) = fL (wS τ m) 0 i := if_neg z
        show wq X (d + 9) 145 9 _ _ _ _ = _
        rw [u145_9, fL_s, es]
        by_cases y : i < 2 ^ τ 0 1
        · have y2 : i.testBit m = true := by simpa using fun q => z ⟨y, q⟩
          simp only [u145_11, u145_14, u145_17, u145_18, u145_20, u145_23, u145_26, u145_28, u145_29, u145_30, u145_119, u145_122, eq_self, q_nl0, q_nlI, q_nlR, not_false_eq_true, q_nz0, q_nz1, q_zv0, q_zv1, q_tl1, q_tl0, q_wif, q_swc, q_swn, List.cons_append, List.nil_append, if_true, if_false, e10, e01, Bool.false_eq_true, sh_1, shT_0 hT, f1, c_isSet (cq_t H) (cq_T H), f2, eq_true y, nI_and, and_b0 _ hi m (by omega), y2, Bool.true_eq_false, nI_1]
        · simp only [u145_11, u145_14, u145_17, u145_18, u145_20, u145_23, u145_26, u145_28, u145_29, u145_30, u145_119, u145_122, eq_self, q_nl0, q_nlI, q_nlR, not_false_eq_true, q_nz0, q_nz1, q_zv0, q_zv1, q_tl1, q_tl0, q_wif, q_swc, q_swn, List.cons_append, List.nil_append, if_true, if_false, e10, e01, Bool.false_eq_true, sh_1, shT_0 hT, f1, c_isSet (cq_t H) (cq_T H), f2, eq_false y, nI_1]) (none, none, none)
    refine Eq.trans e ?_
    show wq X (d + 9) 145 9 _ _ _ _ = _
    rw [u145_9]
    simp only [u145_11, u145_14, u145_125, u145_126, eq_self, q_nl0, q_nlI, q_nlR, not_false_eq_true, q_nz0, q_nz1, q_zv0, q_zv1, q_tl1, q_tl0, q_wif, q_swc, q_swn, List.cons_append, List.nil_append, if_true, if_false, e10, e01, Bool.false_eq_true, eq_false (show ¬ nI 128 < 128 by decide)]
  rw [he] at cs hs2
  have e8 : m_in (nI (τ 0 1)) 8 = true := q_in (by omega) (by decide)
  have e9 : (nI (τ 0 1)).toNatClampNeg = τ 0 1 := q_cl (by omega)
  have e7 : (nI (τ 0 1) < Int32.ofNat 8) = True := eq_true (nI_lt (b := 8) (by omega) (by omega))
  have hs3 : fL (wS τ m) 0 (2 ^ τ 0 1) < 2 ^ 31 := by omega
  have hf3 : fct (τ 0 1) < 2 ^ 31 := by omega
  have hg : Nat.gcd (fL (wS τ m) 0 (2 ^ τ 0 1)) (fct (τ 0 1)) ≤ fct (τ 0 1) := Nat.le_of_dvd hf0 (Nat.gcd_dvd_right _ _)
  have hg0 := Nat.gcd_pos_of_pos_right (fL (wS τ m) 0 (2 ^ τ 0 1)) hf0
  have eg : (nI (Nat.gcd (fL (wS τ m) 0 (2 ^ τ 0 1)) (fct (τ 0 1))) = 0) = False := eq_false (nI_ne0 hg0 (by omega))
  refine An_pure (fun Q => ?_)
  simp only [u144_0, u144_1, u144_2, u144_5, u144_8, u144_9, u144_12, u144_13, u144_14, u144_17, u144_18, u144_19, u144_20, u144_23, u144_26, u144_27, u144_28, u144_31, u144_32, u144_35, u144_36, u144_37, u144_38, u144_39, u144_42, u144_45, u144_46O, u144_47, u144_48, u144_51, u144_31O, eq_self, q_nl0, q_nlI, q_nlR, not_false_eq_true, q_nz0, q_nz1, q_zv0, q_zv1, q_tl1, q_tl0, q_wif, q_swc, q_swn, List.cons_append, List.nil_append, if_true, if_false, e10, e01, Bool.false_eq_true, sh_1, shT_0 hT, c_isIx (cq_t H) (cq_T H), ix, eq_true w0, cq_T H, ct_mn (cq_t H), e7, cs, e8, e9, ord_f _ (show τ 0 1 < 8 by omega), c_lowest hs3 hf3 hf0]
theorem a_weight1 {X : XT} {d T N : Nat} {h : HT} {τ : CT} {A : Nat → Int32} {m : Nat} {w : Int32} (H : CQ h T τ N A) (hm : m < τ 0 1) (w1 : w = 1) : An X (d + 10) 144 [some (.ref 1), some (.int (nI m)), some (.int w), none] h (nI (fct (τ 0 1)) / nI (Nat.gcd (fL (wS τ m) 0 (2 ^ τ 0 1)) (fct (τ 0 1)))) := by
  have h7 := o_mn (cq_k H)
  have hp := cq_p H
  have hT := ct_T (cq_t H)
  have h8 := p2_7 h7
  have hal := sAll_lt (cq_k H)
  have ix : ixB (nI m) (τ 0 1) = true := ixB_in hm (by omega)
  have hs2 := wS_le (cq_k H) hm 128
  have he : fL (wS τ m) 0 128 = fL (wS τ m) 0 (2 ^ τ 0 1) := fL_to (s := wS τ m) h8 (fun i o hi => if_neg (fun z => by omega))
  have hf := fct_7 (τ 0 1) (by omega)
  have hf0 := fct_pos (τ 0 1)
  have e1 : nI (τ 0 1) - 1 = nI (τ 0 1 - 1) := by rw [show (1 : Int32) = nI 1 from rfl, pk_sub (by omega)]
  have hp2 := p2_lt (show m < 7 by omega)
  have cs : ∀ (Q : QT), wq X (d + 9) 145 0 [some (.ref 1), some (.int (nI m)), none, none, none, none, none, none] [] h Q = Q (some (.int (nI (fL (wS τ m) 0 128)))) h := by
    intro Q
    simp only [u145_0, u145_1, u145_2, u145_3, u145_4, u145_5, u145_6, u145_7, eq_self, q_nl0, q_nlI, q_nlR, not_false_eq_true, q_nz0, q_nz1, q_zv0, q_zv1, q_tl1, q_tl0, q_wif, q_swc, q_swn, List.cons_append, List.nil_append, if_true, if_false, e10, e01, Bool.false_eq_true, nI_sh m (by omega)]
    obtain ⟨l', e⟩ := q_loopL (fun i (l : Option Value × Option Value × Option Value) => wq X (d + 9) 145 9 [some (.ref 1), some (.int (nI m)), some (.int (nI (fL (wS τ m) 0 i))), some (.int (nI (2 ^ m))), some (.int (nI i)), l.1, l.2.1, l.2.2] [] h Q) 128 (by
      intro i hi l
      have f1 : (nI i < 128) = True := eq_true (nI_lt (b := 128) hi (by decide))
      have f2 : (nI i &&& (nI (sAll τ) ^^^ (-1)) = 0) = (i < 2 ^ τ 0 1) := by
        rw [nI_not _ hi _ hal, nI_0eq (and_128 hi)]
        exact p2m_iff _ (by omega) i hi
      by_cases z : i < 2 ^ τ 0 1 ∧ i.testBit m = false
      · refine ⟨(some (.int (nI (pcN i))), some (.int (nI (τ 0 1 - 1 - pcN i))), some (.int (nI (sLoss τ (i ||| 2 ^ m) - sLoss τ i)))), ?_⟩
        have g1 := pc_men h7 hm z.1 z.2
        have g2 : nI (τ 0 1 - 1) - nI (pcN i) = nI (τ 0 1 - 1 - pcN i) := pk_sub (by omega)
        have g3 : (nI (pcN i) < Int32.ofNat 8) = True := eq_true (nI_lt (b := 8) (by omega) (by omega))
        have g4 : (nI (τ 0 1 - 1 - pcN i) < Int32.ofNat 8) = True := eq_true (nI_lt (b := 8) (by omega) (by omega))
        have g5 : (nI (τ 0 1 - 1 - pcN i) < 0) = False := oI_lt0 (by omega)
        have g6 : m_in (nI (pcN i)) 8 = true := q_in (by omega) (by decide)
        have g7 : m_in (nI (τ 0 1 - 1 - pcN i)) 8 = true := q_in (by omega) (by decide)
        have g8 : nI (sLoss τ (i ||| 2 ^ m)) - nI (sLoss τ i) = nI (sLoss τ (i ||| 2 ^ m) - sLoss τ i) := pk_sub (sLoss_mono (cq_k H) i (2 ^ m))
        have es : wS τ m i (fL (wS τ m) 0 i) = fL (wS τ m) 0 i + wT τ m i := if_pos z
        show wq X (d + 9) 145 9 _ _ _ _ = _
        rw [u145_9, fL_s, es]
        simp only [u145_11, u145_14, u145_17, u145_18, u145_20, u145_23, u145_26, u145_28, u145_29, u145_30, u145_33, u145_35, u145_38, u145_40, u145_41, u145_44, u145_47, u145_48, u145_49, u145_51, u145_52, u145_54, u145_56, u145_59, u145_60, u145_63, u145_65, u145_68, u145_70, u145_73, u145_74, u145_77, u145_78, u145_81, u145_83, u145_84, u145_85, u145_88, u145_89, u145_92, u145_94, u145_97, u145_98, u145_100, u145_101, u145_104, u145_106O, u145_107, u145_110, u145_112O, u145_113, u145_114, u145_116, u145_117, u145_118, u145_119, u145_122, u145_59O, u145_73O, eq_self, q_nl0, q_nlI, q_nlR, not_false_eq_true, q_nz0, q_nz1, q_zv0, q_zv1, q_tl1, q_tl0, q_wif, q_swc, q_swn, List.cons_append, List.nil_append, if_true, if_false, e10, e01, Bool.false_eq_true, sh_1, shT_0 hT, f1, c_isSet (cq_t H) (cq_T H), f2, eq_true z.1, nI_and, and_b0 _ hi m (by omega), z.2, c_bitCount hi, cq_T H, ct_mn (cq_t H), e1, g2, g3, g4, g5, g6, g7, nI_or, c_lossBy (cq_t H) (or_128 hi hp2), c_lossBy (cq_t H) hi, g8, q_cl (show pcN i < 2 ^ 31 by omega), q_cl (show τ 0 1 - 1 - pcN i < 2 ^ 31 by omega), ord_f _ (show pcN i < 8 by omega), ord_f _ (show τ 0 1 - 1 - pcN i < 8 by omega), pk_mul, nI_add, nI_1]
        rfl
      · refine ⟨l, ?_⟩
        have es : wS τ m i (fL (wS τ m) 0 i) = fL (wS τ m) 0 i := if_neg z
        show wq X (d + 9) 145 9 _ _ _ _ = _
        rw [u145_9, fL_s, es]
        by_cases y : i < 2 ^ τ 0 1
        · have y2 : i.testBit m = true := by simpa using fun q => z ⟨y, q⟩
          simp only [u145_11, u145_14, u145_17, u145_18, u145_20, u145_23, u145_26, u145_28, u145_29, u145_30, u145_119, u145_122, eq_self, q_nl0, q_nlI, q_nlR, not_false_eq_true, q_nz0, q_nz1, q_zv0, q_zv1, q_tl1, q_tl0, q_wif, q_swc, q_swn, List.cons_append, List.nil_append, if_true, if_false, e10, e01, Bool.false_eq_true, sh_1, shT_0 hT, f1, c_isSet (cq_t H) (cq_T H), f2, eq_true y, nI_and, and_b0 _ hi m (by omega), y2, Bool.true_eq_false, nI_1]
        · simp only [u145_11, u145_14, u145_17, u145_18, u145_20, u145_23, u145_26, u145_28, u145_29, u145_30, u145_119, u145_122, eq_self, q_nl0, q_nlI, q_nlR, not_false_eq_true, q_nz0, q_nz1, q_zv0, q_zv1, q_tl1, q_tl0, q_wif, q_swc, q_swn, List.cons_append, List.nil_append, if_true, if_false, e10, e01, Bool.false_eq_true, sh_1, shT_0 hT, f1, c_isSet (cq_t H) (cq_T H), f2, eq_false y, nI_1]) (none, none, none)
    refine Eq.trans e ?_
    show wq X (d + 9) 145 9 _ _ _ _ = _
    rw [u145_9]
    simp only [u145_11, u145_14, u145_125, u145_126, eq_self, q_nl0, q_nlI, q_nlR, not_false_eq_true, q_nz0, q_nz1, q_zv0, q_zv1, q_tl1, q_tl0, q_wif, q_swc, q_swn, List.cons_append, List.nil_append, if_true, if_false, e10, e01, Bool.false_eq_true, eq_false (show ¬ nI 128 < 128 by decide)]
  rw [he] at cs hs2
  have e8 : m_in (nI (τ 0 1)) 8 = true := q_in (by omega) (by decide)
  have e9 : (nI (τ 0 1)).toNatClampNeg = τ 0 1 := q_cl (by omega)
  have e7 : (nI (τ 0 1) < Int32.ofNat 8) = True := eq_true (nI_lt (b := 8) (by omega) (by omega))
  have hs3 : fL (wS τ m) 0 (2 ^ τ 0 1) < 2 ^ 31 := by omega
  have hf3 : fct (τ 0 1) < 2 ^ 31 := by omega
  have hg : Nat.gcd (fL (wS τ m) 0 (2 ^ τ 0 1)) (fct (τ 0 1)) ≤ fct (τ 0 1) := Nat.le_of_dvd hf0 (Nat.gcd_dvd_right _ _)
  have hg0 := Nat.gcd_pos_of_pos_right (fL (wS τ m) 0 (2 ^ τ 0 1)) hf0
  have eg : (nI (Nat.gcd (fL (wS τ m) 0 (2 ^ τ 0 1)) (fct (τ 0 1))) = 0) = False := eq_false (nI_ne0 hg0 (by omega))
  have w0 : ¬ w = 0 := by rw [w1]; decide
  refine An_pure (fun Q => ?_)
  simp only [u144_0, u144_1, u144_2, u144_5, u144_8, u144_9, u144_12, u144_13, u144_14, u144_17, u144_18, u144_19, u144_20, u144_23, u144_26, u144_27, u144_28, u144_31, u144_32, u144_35, u144_36, u144_37, u144_38, u144_39, u144_42, u144_45, u144_46O, u144_47, u144_48, u144_51, u144_31O, eq_self, q_nl0, q_nlI, q_nlR, not_false_eq_true, q_nz0, q_nz1, q_zv0, q_zv1, q_tl1, q_tl0, q_wif, q_swc, q_swn, List.cons_append, List.nil_append, if_true, if_false, e10, e01, Bool.false_eq_true, sh_1, shT_0 hT, c_isIx (cq_t H) (cq_T H), ix, eq_false w0, eq_true w1, cq_T H, ct_mn (cq_t H), e7, cs, e8, e9, ord_f _ (show τ 0 1 < 8 by omega), c_lowest hs3 hf3 hf0]
