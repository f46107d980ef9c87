theorem a_longest {X : XT} {d T N : Nat} {h : HT} {τ : CT} {A : Nat → Int32} (H : CQ h T τ N A) (hN : N < 100000) : An X (d + 10) 101 [some (.ref 1), none, none, none] h (oI (fL (lgS A) none (τ 0 1))) := by
  have h7 := o_mn (cq_k H)
  have hp := cq_p H
  have hn := cq_n H
  have hT := ct_T (cq_t H)
  have s38 : (m_sh (KS X) 38).1 = 7 := by rw [sh_38]
  have hlt := fO_lt (lgS_o (A := A))
  have hd : ∀ m, m < τ 0 1 → ((-1 : Int32) < A (7 + m)) = True := by
    intro m hm
    obtain ⟨_, _, _, y, y1, _, hd⟩ := cq_a H
    obtain ⟨z, z1, e, _⟩ := hd m hm
    rw [e]
    exact m1_lt (by omega)
  refine An_pure (fun Q => ?_)
  rw [← fL_to (n := 7) h7 (s := lgS A) (fun i o hi => if_neg (by rw [bit_ge (cq_a H).1.2 hi]; decide))]
  simp only [u101_0, u101_1, u101_2, u101_3, u101_4, u101_5, eq_self, q_nl0, q_nlI, q_nlR, not_false_eq_true, q_nz0, q_nz1, q_zv0, q_zv1, q_tl1, q_tl0, q_wif, q_swc, q_swn, List.cons_append, List.nil_append, if_true, if_false, e10, e01, Bool.false_eq_true]
  refine (q_loop (fun i => wq X (d + 10) 101 6 [some (.ref 1), some (.int (oI (fL (lgS A) none i))), some (.int (mI (fun b => A (7 + b)) (fL (lgS A) none i))), some (.int (nI i))] [] h Q) 7 ?_).trans ?_
  · intro i hi
    show wq X (d + 10) 101 6 _ _ _ _ = _
    rw [u101_6, fL_s]
    have hl := hlt i
    generalize fL (lgS A) none i = o at hl ⊢
    have hb := bit01 hn (show i < 8 by omega)
    have e2 : (nI i < 7) = True := eq_true (nI_lt (b := 7) (by omega) (by omega))
    have e3 : m_in (nI i) 7 = true := q_in (by omega) (by decide)
    have e4 : (nI i).toNatClampNeg = i := q_cl (by omega)
    by_cases z : (aN A).testBit i = true
    · have hm := bit_lt (cq_a H).1.2 z
      have es : lgS A i o = lgM A i o := if_pos z
      rw [es]
      cases o with
      | none =>
        simp only [u101_7, u101_9, u101_12, u101_13, u101_16, u101_17, u101_20, u101_23, u101_24, u101_27, u101_30, u101_31, u101_32, u101_33, u101_36, u101_37, u101_38, u101_39, u101_42, u101_45, u101_46, u101_47, u101_48, u101_51, eq_self, q_nl0, q_nlI, q_nlR, not_false_eq_true, q_nz0, q_nz1, q_zv0, q_zv1, q_tl1, q_tl0, q_wif, q_swc, q_swn, List.cons_append, List.nil_append, if_true, if_false, e10, e01, Bool.false_eq_true, sh_1, sh_38, shS_1 is38, pS_1 is38 hp, e2, e3, e4, p_1_3 hp, c_isOut s38, cq_o H, hb, z, cq_dy H i hm z, mI, oI, lgM, hd i hm, nI_1]
      | some b =>
        simp only [u101_7, u101_9, u101_12, u101_13, u101_16, u101_17, u101_20, u101_23, u101_24, u101_27, u101_30, u101_31, u101_32, u101_33, u101_36, u101_37, u101_38, u101_39, u101_42, u101_45, u101_46, u101_47, u101_48, u101_51, eq_self, q_nl0, q_nlI, q_nlR, not_false_eq_true, q_nz0, q_nz1, q_zv0, q_zv1, q_tl1, q_tl0, q_wif, q_swc, q_swn, List.cons_append, List.nil_append, if_true, if_false, e10, e01, Bool.false_eq_true, sh_1, sh_38, shS_1 is38, pS_1 is38 hp, e2, e3, e4, p_1_3 hp, c_isOut s38, cq_o H, hb, z, cq_dy H i hm z, mI, oI, lgM, nI_1]
        by_cases y : A (7 + b) < A (7 + i)
        · simp only [y, if_true]
        · simp only [y, if_false]
    · have es : lgS A i o = o := if_neg z
      rw [es]
      simp only [u101_7, u101_9, u101_12, u101_13, u101_16, u101_17, u101_20, u101_23, u101_24, u101_27, u101_30, u101_31, u101_32, u101_33, u101_36, u101_37, u101_38, u101_39, u101_42, u101_45, u101_46, u101_47, u101_48, u101_51, eq_self, q_nl0, q_nlI, q_nlR, not_false_eq_true, q_nz0, q_nz1, q_zv0, q_zv1, q_tl1, q_tl0, q_wif, q_swc, q_swn, List.cons_append, List.nil_append, if_true, if_false, e10, e01, Bool.false_eq_true, sh_1, sh_38, e2, p_1_3 hp, c_isOut s38, cq_o H, hb, z, nI_1]
  · rw [u101_6]
    simp only [u101_7, u101_9, u101_12, u101_13, u101_16, u101_17, u101_20, u101_23, u101_24, u101_27, u101_30, u101_31, u101_32, u101_33, u101_36, u101_37, u101_38, u101_39, u101_42, u101_45, u101_46, u101_47, u101_48, u101_51, u101_54, u101_55, eq_self, q_nl0, q_nlI, q_nlR, not_false_eq_true, q_nz0, q_nz1, q_zv0, q_zv1, q_tl1, q_tl0, q_wif, q_swc, q_swn, List.cons_append, List.nil_append, if_true, if_false, e10, e01, Bool.false_eq_true, eq_false (show ¬ nI 7 < 7 by decide)]
theorem a_pillars {X : XT} {d T N : Nat} {h : HT} {τ : CT} {A : Nat → Int32} (H : CQ h T τ N A) : An X (d + 10) 138 [some (.ref 1), none, none, none, none] h (nI (fL (bS (piP τ (aN A))) 0 (τ 0 1))) := by
  have h7 := o_mn (cq_k H)
  have hp := cq_p H
  have hn := cq_n H
  have hT := ct_T (cq_t H)
  have s38 : (m_sh (KS X) 38).1 = 7 := by rw [sh_38]
  have hs := s128 (cq_k H) (aN A)
  refine An_pure (fun Q => ?_)
  rw [← fL_to (n := 7) h7 (s := bS (piP τ (aN A))) (fun i o hi => if_neg (by unfold piP; rw [bit_ge (cq_a H).1.2 hi]; simp))]
  simp only [u138_0, u138_1, u138_2, u138_3, u138_6, u138_7, u138_10, u138_13, u138_16, u138_17, u138_18, eq_self, q_nl0, q_nlI, q_nlR, not_false_eq_true, q_nz0, q_nz1, q_zv0, q_zv1, q_tl1, q_tl0, q_wif, q_swc, q_swn, List.cons_append, List.nil_append, if_true, if_false, e10, e01, Bool.false_eq_true, sh_1, sh_38, shT_0 hT, cq_T H, p_1_3 hp, cq_o H, c_shortBy (cq_t H) hn]
  obtain ⟨l', e⟩ := q_loopL (fun i (l4 : Option Value) => wq X (d + 10) 138 19 [some (.ref 1), some (.int (nI (fL (bS (piP τ (aN A))) 0 i))), some (.int (nI (sShort τ (aN A)))), some (.int (nI i)), l4] [] h Q) 7 (by
    intro i hi l4
    refine ⟨some (.int (nI (2 ^ i))), ?_⟩
    have hb := bit01 hn (show i < 8 by omega)
    have e2 : (nI i < 7) = True := eq_true (nI_lt (b := 7) (by omega) (by omega))
    have hp2 := p2_lt hi
    show wq X (d + 10) 138 19 _ _ _ _ = _
    rw [u138_19, fL_s, bS_b]
    unfold piP
    simp only [u138_20, u138_22, u138_25, u138_26, u138_27, u138_28, u138_30, u138_31, u138_34, u138_35, u138_38, u138_41, u138_42, u138_43, u138_46, u138_47, u138_50, u138_53, u138_55, u138_56, u138_57, u138_58, u138_61, u138_62, u138_63, u138_64, u138_67, u138_68, u138_70, u138_71, u138_72, u138_75, eq_self, q_nl0, q_nlI, q_nlR, not_false_eq_true, q_nz0, q_nz1, q_zv0, q_zv1, q_tl1, q_tl0, q_wif, q_swc, q_swn, List.cons_append, List.nil_append, if_true, if_false, e10, e01, Bool.false_eq_true, sh_1, sh_38, shT_0 hT, e2, cq_T H, p_1_3 hp, c_isOut s38, cq_o H, hb, if_b1, if_b0, nI_sh i (by omega), nI_not _ hn _ hp2, c_shortBy (cq_t H) (and_128 hn), nI_not _ hs _ (s128 (cq_k H) _), nI_0eq (and_128 hs), nI_or, nI_1, Bool.and_eq_true, decide_eq_true_eq]
    by_cases z : (aN A).testBit i = true
    · by_cases y : sShort τ (aN A) &&& (127 ^^^ sShort τ (aN A &&& (127 ^^^ 2 ^ i))) = 0
      · simp only [z, y, not_true_eq_false, if_false, if_true, ne_eq, and_false]
      · simp only [z, y, not_true_eq_false, not_false_eq_true, if_false, if_true, ne_eq, and_self]
    · simp only [z, not_false_eq_true, if_true, if_false, false_and, Bool.false_eq_true]) none
  refine Eq.trans e ?_
  show wq X (d + 10) 138 19 _ _ _ _ = _
  rw [u138_19]
  simp only [u138_20, u138_22, u138_25, u138_26, u138_27, u138_28, u138_30, u138_31, u138_34, u138_35, u138_38, u138_41, u138_42, u138_43, u138_46, u138_47, u138_50, u138_53, u138_55, u138_56, u138_57, u138_58, u138_61, u138_62, u138_63, u138_64, u138_67, u138_68, u138_70, u138_71, u138_72, u138_75, u138_78, u138_79, eq_self, q_nl0, q_nlI, q_nlR, not_false_eq_true, q_nz0, q_nz1, q_zv0, q_zv1, q_tl1, q_tl0, q_wif, q_swc, q_swn, List.cons_append, List.nil_append, if_true, if_false, e10, e01, Bool.false_eq_true, eq_false (show ¬ nI 7 < 7 by decide)]
theorem a_idle {X : XT} {d T N : Nat} {h : HT} {τ : CT} {A : Nat → Int32} (H : CQ h T τ N A) : An X (d + 10) 139 [some (.ref 1), none, none, none, none, none] h (nI (fL (bS (idP τ (aN A))) 0 (τ 0 1))) := by
  have h7 := o_mn (cq_k H)
  have hp := cq_p H
  have hn := cq_n H
  have hT := ct_T (cq_t H)
  have hs : ∀ n, sShort τ n < 2 ^ 31 := fun n => by
    have := s128 (cq_k H) n
    omega
  have hc := sCity_lt (n := aN A) (cq_k H)
  refine An_pure (fun Q => ?_)
  rw [← fL_to (n := 7) h7 (s := bS (idP τ (aN A))) (fun i o hi => if_neg (by unfold idP; rw [city_ge hi]; simp))]
  simp only [u139_0, u139_1, u139_2, u139_3, u139_6, u139_7, u139_8, u139_11, u139_12, u139_15, u139_18, u139_21, u139_22, u139_23, eq_self, q_nl0, q_nlI, q_nlR, not_false_eq_true, q_nz0, q_nz1, q_zv0, q_zv1, q_tl1, q_tl0, q_wif, q_swc, q_swn, List.cons_append, List.nil_append, if_true, if_false, e10, e01, Bool.false_eq_true, sh_1, sh_38, shT_0 hT, cq_T H, c_inCity H, p_1_3 hp, cq_o H, c_shortBy (cq_t H) hn]
  obtain ⟨l', e⟩ := q_loopL (fun i (l5 : Option Value) => wq X (d + 10) 139 25 [some (.ref 1), some (.int (nI (fL (bS (idP τ (aN A))) 0 i))), some (.int (nI (sCity τ (aN A)))), some (.int (nI (sShort τ (aN A)))), some (.int (nI i)), l5] [] h Q) 7 (by
    intro i hi l5
    refine ⟨some (.int (nI (2 ^ i))), ?_⟩
    have e2 : (nI i < 7) = True := eq_true (nI_lt (b := 7) (by omega) (by omega))
    have hp2 := p2_lt hi
    have hs1 := hs (aN A ||| 2 ^ i)
    show wq X (d + 10) 139 25 _ _ _ _ = _
    rw [u139_25, fL_s, bS_b]
    unfold idP
    simp only [u139_27, u139_29, u139_32, u139_33, u139_35, u139_36, u139_38, u139_39, u139_41, u139_42, u139_45, u139_46, u139_49, u139_50, u139_53, u139_56, u139_58, u139_59, u139_62, u139_63, u139_66, u139_67, u139_69, u139_70, u139_71, u139_74, eq_self, q_nl0, q_nlI, q_nlR, not_false_eq_true, q_nz0, q_nz1, q_zv0, q_zv1, q_tl1, q_tl0, q_wif, q_swc, q_swn, List.cons_append, List.nil_append, if_true, if_false, e10, e01, Bool.false_eq_true, sh_1, sh_38, shT_0 hT, e2, cq_T H, p_1_3 hp, cq_o H, nI_sh i (by omega), nI_and, and_b0 _ hc i hi, nI_or, c_shortBy (cq_t H) (or_128 hn hp2), nI_eqB hs1 (hs (aN A)), nI_1, Bool.and_eq_true, decide_eq_true_eq]
    by_cases z : (sCity τ (aN A)).testBit i = true
    · by_cases y : sShort τ (aN A ||| 2 ^ i) = sShort τ (aN A)
      · simp only [z, y, if_false, if_true, Bool.true_eq_false, and_self]
      · simp only [z, y, if_false, and_false, Bool.true_eq_false]
    · have z' : (sCity τ (aN A)).testBit i = false := by simpa using z
      simp only [z', if_true, if_false, false_and, Bool.false_eq_true]) none
  refine Eq.trans e ?_
  show wq X (d + 10) 139 25 _ _ _ _ = _
  rw [u139_25]
  simp only [u139_27, u139_29, u139_32, u139_33, u139_35, u139_36, u139_38, u139_39, u139_41, u139_42, u139_45, u139_46, u139_49, u139_50, u139_53, u139_56, u139_58, u139_59, u139_62, u139_63, u139_66, u139_67, u139_69, u139_70, u139_71, u139_74, u139_77, u139_78, eq_self, q_nl0, q_nlI, q_nlR, not_false_eq_true, q_nz0, q_nz1, q_zv0, q_zv1, q_tl1, q_tl0, q_wif, q_swc, q_swn, List.cons_append, List.nil_append, if_true, if_false, e10, e01, Bool.false_eq_true, eq_false (show ¬ nI 7 < 7 by decide)]
theorem a_dearest {X : XT} {d T N : Nat} {h : HT} {τ : CT} {A : Nat → Int32} (H : CQ h T τ N A) : An X (d + 10) 140 [some (.ref 1), none, none, none, none, none] h (oI (fL (deS τ (aN A)) none (τ 0 1))) := by
  have h7 := o_mn (cq_k H)
  have hp := cq_p H
  have hn := cq_n H
  have hT := ct_T (cq_t H)
  have hs : ∀ n, sLoss τ n < 2 ^ 31 := fun n => by
    have := sLoss_le (cq_k H) n
    omega
  have hc := sCity_lt (n := aN A) (cq_k H)
  have hlt := fO_lt (deS_o (τ := τ) (n := aN A))
  refine An_pure (fun Q => ?_)
  rw [← fL_to (n := 7) h7 (s := deS τ (aN A)) (fun i o hi => if_neg (by rw [city_ge hi]; decide))]
  simp only [u140_0, u140_1, u140_2, u140_3, u140_4, u140_5, u140_8, u140_9, u140_10, eq_self, q_nl0, q_nlI, q_nlR, not_false_eq_true, q_nz0, q_nz1, q_zv0, q_zv1, q_tl1, q_tl0, q_wif, q_swc, q_swn, List.cons_append, List.nil_append, if_true, if_false, e10, e01, Bool.false_eq_true, sh_1, sh_38, c_inCity H]
  obtain ⟨l', e⟩ := q_loopL (fun i (l5 : Option Value) => wq X (d + 10) 140 12 [some (.ref 1), some (.int (oI (fL (deS τ (aN A)) none i))), some (.int (mI (fun b => nI (sLoss τ (aN A ||| 2 ^ b))) (fL (deS τ (aN A)) none i))), some (.int (nI (sCity τ (aN A)))), some (.int (nI i)), l5] [] h Q) 7 (by
    intro i hi l5
    refine ⟨some (.int (nI (2 ^ i))), ?_⟩
    have e2 : (nI i < 7) = True := eq_true (nI_lt (b := 7) (by omega) (by omega))
    have hp2 := p2_lt hi
    show wq X (d + 10) 140 12 _ _ _ _ = _
    rw [u140_12, fL_s]
    generalize fL (deS τ (aN A)) none i = o
    by_cases z : (sCity τ (aN A)).testBit i = true
    · have es : deS τ (aN A) i o = deM τ (aN A) i o := if_pos z
      rw [es]
      cases o with
      | none =>
        simp only [u140_14, u140_16, u140_19, u140_20, u140_22, u140_23, u140_25, u140_26, u140_28, u140_29, u140_32, u140_33, u140_36, u140_37, u140_40, u140_43, u140_45, u140_46, u140_49, u140_50, u140_53, u140_55, u140_56, u140_57, u140_60, u140_61, u140_64, u140_67, u140_69, u140_70, u140_73, u140_74, u140_77, eq_self, q_nl0, q_nlI, q_nlR, not_false_eq_true, q_nz0, q_nz1, q_zv0, q_zv1, q_tl1, q_tl0, q_wif, q_swc, q_swn, List.cons_append, List.nil_append, if_true, if_false, e10, e01, Bool.false_eq_true, sh_1, sh_38, shT_0 hT, e2, cq_T H, p_1_3 hp, cq_o H, nI_sh i (by omega), nI_and, and_b0 _ hc i hi, z, Bool.true_eq_false, nI_or, c_lossBy (cq_t H) (or_128 hn hp2), mI, oI, deM, m1_lt (hs _), nI_1]
      | some b =>
        simp only [u140_14, u140_16, u140_19, u140_20, u140_22, u140_23, u140_25, u140_26, u140_28, u140_29, u140_32, u140_33, u140_36, u140_37, u140_40, u140_43, u140_45, u140_46, u140_49, u140_50, u140_53, u140_55, u140_56, u140_57, u140_60, u140_61, u140_64, u140_67, u140_69, u140_70, u140_73, u140_74, u140_77, eq_self, q_nl0, q_nlI, q_nlR, not_false_eq_true, q_nz0, q_nz1, q_zv0, q_zv1, q_tl1, q_tl0, q_wif, q_swc, q_swn, List.cons_append, List.nil_append, if_true, if_false, e10, e01, Bool.false_eq_true, sh_1, sh_38, shT_0 hT, e2, cq_T H, p_1_3 hp, cq_o H, nI_sh i (by omega), nI_and, and_b0 _ hc i hi, z, Bool.true_eq_false, nI_or, c_lossBy (cq_t H) (or_128 hn hp2), mI, oI, deM, nI_ltB (hs _) (hs _), nI_1]
        by_cases y : sLoss τ (aN A ||| 2 ^ b) < sLoss τ (aN A ||| 2 ^ i)
        · simp only [y, if_true]
        · simp only [y, if_false]
    · have es : deS τ (aN A) i o = o := if_neg z
      have z' : (sCity τ (aN A)).testBit i = false := by simpa using z
      rw [es]
      simp only [u140_14, u140_16, u140_19, u140_20, u140_22, u140_23, u140_25, u140_26, u140_28, u140_29, u140_32, u140_33, u140_36, u140_37, u140_40, u140_43, u140_45, u140_46, u140_49, u140_50, u140_53, u140_55, u140_56, u140_57, u140_60, u140_61, u140_64, u140_67, u140_69, u140_70, u140_73, u140_74, u140_77, eq_self, q_nl0, q_nlI, q_nlR, not_false_eq_true, q_nz0, q_nz1, q_zv0, q_zv1, q_tl1, q_tl0, q_wif, q_swc, q_swn, List.cons_append, List.nil_append, if_true, if_false, e10, e01, Bool.false_eq_true, sh_1, sh_38, e2, nI_sh i (by omega), nI_and, and_b0 _ hc i hi, z', nI_1]) none
  refine Eq.trans e ?_
  show wq X (d + 10) 140 12 _ _ _ _ = _
  rw [u140_12]
  simp only [u140_14, u140_16, u140_19, u140_20, u140_22, u140_23, u140_25, u140_26, u140_28, u140_29, u140_32, u140_33, u140_36, u140_37, u140_40, u140_43, u140_45, u140_46, u140_49, u140_50, u140_53, u140_55, u140_56, u140_57, u140_60, u140_61, u140_64, u140_67, u140_69, u140_70, u140_73, u140_74, u140_77, u140_80, u140_81, eq_self, q_nl0, q_nlI, q_nlR, not_false_eq_true, q_nz0, q_nz1, q_zv0, q_zv1, q_tl1, q_tl0, q_wif, q_swc, q_swn, List.cons_append, List.nil_append, if_true, if_false, e10, e01, Bool.false_eq_true, eq_false (show ¬ nI 7 < 7 by decide)]
