theorem set_in {k s : Nat} (hk : k ≤ 7) (hs : s < 2 ^ k) : nI s &&& (nI (2 ^ k - 1) ^^^ (-1)) = 0 := by
  rcases set_cases (nI s) hk with ⟨_, _, _, z, _⟩ | ⟨_, ix⟩
  · exact z
  · rw [ixB_in hs (Nat.pow_lt_pow_right (a := 2) (m := k) (by decide) (by omega))] at ix
    cases ix
theorem a_twins {X : XT} {d T N : Nat} {h : HT} {τ : CT} {A : Nat → Int32} (H : CQ h T τ N A) : An X (d + 10) 141 [some (.ref 1), none, none, none] h (nI (fL (twS τ) 0 (τ 0 1))) := by
  have h7 := o_mn (cq_k H)
  have hp := cq_p H
  have hT := ct_T (cq_t H)
  have sk : ∀ m, τ 3 m < 2 ^ 31 := fun m => by
    have := o_sk (cq_k H) m
    omega
  refine An_pure (fun Q => ?_)
  simp only [u141_0, u141_1, u141_2, u141_3, eq_self, q_nl0, q_nlI, q_nlR, not_false_eq_true, q_nz0, q_nz1, q_zv0, q_zv1, q_tl1, q_tl0, q_wif, q_swc, q_swn, List.cons_append, List.nil_append, if_true, if_false, e10, e01, Bool.false_eq_true]
  obtain ⟨l', e⟩ := q_loopL (fun i (l3 : Option Value) => wq X (d + 10) 141 4 [some (.ref 1), some (.int (nI (fL (twS τ) 0 i))), some (.int (nI i)), l3] [] h Q) (τ 0 1) (by
    intro i hi l3
    refine ⟨some (.int (nI i)), ?_⟩
    have e1 : (nI i < nI (τ 0 1)) = True := eq_true (nI_lt (by omega) (by omega))
    have e2 : (nI i < 7) = True := eq_true (nI_lt (b := 7) (by omega) (by omega))
    have e3 : m_in (nI i) 7 = true := q_in (by omega) (by decide)
    have e4 : (nI i).toNatClampNeg = i := q_cl (by omega)
    show wq X (d + 10) 141 4 _ _ _ _ = _
    rw [u141_4, fL_s]
    unfold twS
    generalize fL (fun i c => fL (twI τ i) c i) 0 i = c
    simp only [u141_5, u141_6, u141_9, u141_12, u141_15, u141_16, u141_18, u141_21, u141_22, eq_self, q_nl0, q_nlI, q_nlR, not_false_eq_true, q_nz0, q_nz1, q_zv0, q_zv1, q_tl1, q_tl0, q_wif, q_swc, q_swn, List.cons_append, List.nil_append, if_true, if_false, e10, e01, Bool.false_eq_true, sh_1, shT_0 hT, cq_T H, ct_mn (cq_t H), e1, e2]
    refine (q_loop (fun j => wq X (d + 10) 141 23 [some (.ref 1), some (.int (nI (fL (twI τ i) c j))), some (.int (nI i)), some (.int (nI j))] [] h Q) i ?_).trans ?_
    · intro j hj
      have f1 : (nI j < nI i) = True := eq_true (nI_lt (by omega) (by omega))
      have f3 : m_in (nI j) 7 = true := q_in (by omega) (by decide)
      have f4 : (nI j).toNatClampNeg = j := q_cl (by omega)
      show wq X (d + 10) 141 23 _ _ _ _ = _
      rw [u141_23, fL_s]
      unfold twI
      simp only [u141_24, u141_25, u141_28, u141_29, u141_32, u141_35, u141_36, u141_37, u141_38, u141_41, u141_44, u141_45, u141_46, u141_49, u141_52, u141_55, eq_self, q_nl0, q_nlI, q_nlR, not_false_eq_true, q_nz0, q_nz1, q_zv0, q_zv1, q_tl1, q_tl0, q_wif, q_swc, q_swn, List.cons_append, List.nil_append, if_true, if_false, e10, e01, Bool.false_eq_true, sh_1, shT_0 hT, shT_4 hT, pT_5 hT hp, cq_T H, f1, e3, e4, f3, f4, ct_sk (cq_t H) i hi, ct_sk (cq_t H) j (by omega), nI_eqB (sk i) (sk j), nI_1]
      by_cases z : τ 3 i = τ 3 j
      · simp only [z, if_true]
      · simp only [z, if_false]
    · rw [u141_23]
      simp only [u141_24, u141_25, u141_28, u141_29, u141_32, u141_35, u141_36, u141_37, u141_38, u141_41, u141_44, u141_45, u141_46, u141_49, u141_52, u141_55, u141_58, u141_61, eq_self, q_nl0, q_nlI, q_nlR, not_false_eq_true, q_nz0, q_nz1, q_zv0, q_zv1, q_tl1, q_tl0, q_wif, q_swc, q_swn, List.cons_append, List.nil_append, if_true, if_false, e10, e01, Bool.false_eq_true, eq_false (nI_nlt (Nat.le_refl i) (by omega)), nI_1]) none
  refine Eq.trans e ?_
  show wq X (d + 10) 141 4 _ _ _ _ = _
  rw [u141_4]
  simp only [u141_5, u141_6, u141_9, u141_12, u141_15, u141_16, u141_18, u141_21, u141_22, u141_23, u141_24, u141_25, u141_28, u141_29, u141_32, u141_35, u141_36, u141_37, u141_38, u141_41, u141_44, u141_45, u141_46, u141_49, u141_52, u141_55, u141_58, u141_61, u141_64, u141_65, eq_self, q_nl0, q_nlI, q_nlR, not_false_eq_true, q_nz0, q_nz1, q_zv0, q_zv1, q_tl1, q_tl0, q_wif, q_swc, q_swn, List.cons_append, List.nil_append, if_true, if_false, e10, e01, Bool.false_eq_true, sh_1, shT_0 hT, cq_T H, ct_mn (cq_t H), eq_false (nI_nlt (Nat.le_refl (τ 0 1)) (by omega))]
theorem a_stock {X : XT} {d T N : Nat} {h : HT} {τ : CT} {A : Nat → Int32} (H : CQ h T τ N A) : An X (d + 10) 148 [some (.ref 1), none, none, none] h (if aN A = 0 then -1 else fL (stS A) 0 (τ 0 1) / nI (pcN (aN A))) := by
  have h7 := o_mn (cq_k H)
  have hp := cq_p H
  have hn := cq_n H
  have s38 : (m_sh (KS X) 38).1 = 7 := by rw [sh_38]
  have h8 := pcN_le _ hn
  have e0 : (nI (pcN (aN A)) = 0) = (aN A = 0) := (propext (nI_eq (b := 0) (by omega) (by omega))).trans (pc_0 _ hn)
  have e00 : (nI (aN A) = 0) = (aN A = 0) := nI_0eq hn
  refine An_pure (fun Q => ?_)
  rw [← fL_to (n := 7) h7 (s := stS A) (fun i o hi => if_neg (by rw [bit_ge (cq_a H).1.2 hi]; decide))]
  simp only [u148_0, u148_1, u148_4, u148_7, u148_10, u148_11, u148_12, u148_15, u148_16, u148_17, u148_18, u148_19, u148_20, eq_self, q_nl0, q_nlI, q_nlR, not_false_eq_true, q_nz0, q_nz1, q_zv0, q_zv1, q_tl1, q_tl0, q_wif, q_swc, q_swn, List.cons_append, List.nil_append, if_true, if_false, e10, e01, Bool.false_eq_true, sh_1, sh_38, p_1_3 hp, cq_o H, c_bitCount hn, e0]
  by_cases z0 : aN A = 0
  · rw [if_pos z0, if_pos z0]
  · rw [if_neg z0, if_neg z0]
    refine (q_loop (fun i => wq X (d + 10) 148 21 [some (.ref 1), some (.int (nI (pcN (aN A)))), some (.int (fL (stS A) 0 i)), some (.int (nI i))] [] h Q) 7 ?_).trans ?_
    · intro i hi
      have hb := bit01 hn (show i < 8 by omega)
      have e2 : (nI i < 7) = True := eq_true (nI_lt (b := 7) (by omega) (by omega))
      have e3 : m_in (nI i) 7 = true := q_in (by omega) (by decide)
      have e4 : (nI i).toNatClampNeg = i := q_cl (by omega)
      show wq X (d + 10) 148 21 _ _ _ _ = _
      rw [u148_21, fL_s]
      unfold stS
      by_cases z : (aN A).testBit i = true
      · have hm := bit_lt (cq_a H).1.2 z
        simp only [u148_22, u148_24, u148_27, u148_28, u148_31, u148_32, u148_35, u148_38, u148_39, u148_40, u148_43, u148_46, u148_47, u148_48, u148_49, u148_50, u148_53, eq_self, q_nl0, q_nlI, q_nlR, not_false_eq_true, q_nz0, q_nz1, q_zv0, q_zv1, q_tl1, q_tl0, q_wif, q_swc, q_swn, List.cons_append, List.nil_append, if_true, if_false, e10, e01, Bool.false_eq_true, sh_1, sh_38, shS_2 is38, pS_2 is38 hp, p_1_3 hp, e2, e3, e4, c_isOut s38, cq_o H, hb, z, cq_lv H i hm, nI_1]
      · simp only [u148_22, u148_24, u148_27, u148_28, u148_31, u148_32, u148_35, u148_38, u148_39, u148_40, u148_43, u148_46, u148_47, u148_48, u148_49, u148_50, u148_53, eq_self, q_nl0, q_nlI, q_nlR, not_false_eq_true, q_nz0, q_nz1, q_zv0, q_zv1, q_tl1, q_tl0, q_wif, q_swc, q_swn, List.cons_append, List.nil_append, if_true, if_false, e10, e01, Bool.false_eq_true, sh_1, sh_38, p_1_3 hp, e2, c_isOut s38, cq_o H, hb, z, nI_1]
    · rw [u148_21]
      simp only [u148_22, u148_24, u148_27, u148_28, u148_31, u148_32, u148_35, u148_38, u148_39, u148_40, u148_43, u148_46, u148_47, u148_48, u148_49, u148_50, u148_53, u148_56, u148_57, u148_58, u148_59, eq_self, q_nl0, q_nlI, q_nlR, not_false_eq_true, q_nz0, q_nz1, q_zv0, q_zv1, q_tl1, q_tl0, q_wif, q_swc, q_swn, List.cons_append, List.nil_append, if_true, if_false, e10, e01, Bool.false_eq_true, eq_false (show ¬ nI 7 < 7 by decide), e0, z0, not_false_eq_true]
theorem a_pays {X : XT} {d T N : Nat} {h : HT} {τ : CT} {A : Nat → Int32} {m : Nat} (H : CQ h T τ N A) (hm : m < τ 0 2) : An X (d + 10) 143 [some (.ref 1), some (.int (nI m)), none, none] h (if τ 7 m = 0 then 0 else if sLoss τ (sAll τ) = 0 then -1 else (nI (τ 7 m) + nI (sLoss τ (sAll τ)) - 1) / nI (sLoss τ (sAll τ))) := by
  have h5 := o_dm (cq_k H)
  have hp := cq_p H
  have hT := ct_T (cq_t H)
  have hl := sLoss_le (cq_k H) (sAll τ)
  have ix : ixB (nI m) (τ 0 2) = true := ixB_in hm (by omega)
  have e1 : m_in (nI m) 5 = true := q_in (by omega) (by decide)
  have e2 : (nI m).toNatClampNeg = m := q_cl (by omega)
  have hc := o_co (cq_k H) m
  have c0 : (nI (τ 7 m) = 0) = (τ 7 m = 0) := propext (nI_eq (b := 0) (by omega) (by omega))
  have l0 : (nI (sLoss τ (sAll τ)) = 0) = (sLoss τ (sAll τ) = 0) := propext (nI_eq (b := 0) (by omega) (by omega))
  have l1 : (0 < nI (sLoss τ (sAll τ))) = (0 < sLoss τ (sAll τ)) := nI_ltB (a := 0) (by omega) (by omega)
  refine An_pure (fun Q => ?_)
  simp only [u143_0, u143_1, u143_2, u143_5, u143_8, u143_9, u143_10, u143_11, u143_14, u143_17, u143_18, u143_19, u143_20, u143_21, u143_24, u143_25, u143_28, u143_31, u143_34, u143_35, u143_36, u143_39, u143_40, u143_41, u143_42, u143_45, u143_46, u143_56, eq_self, q_nl0, q_nlI, q_nlR, not_false_eq_true, q_nz0, q_nz1, q_zv0, q_zv1, q_tl1, q_tl0, q_wif, q_swc, q_swn, List.cons_append, List.nil_append, if_true, if_false, e10, e01, Bool.false_eq_true, sh_1, sh_38, shT_0 hT, shT_8 hT, pT_11 hT hp, c_isDemand (cq_t H) (cq_T H), ix, cq_T H, e1, e2, ct_co (cq_t H) m hm, c_every (cq_t H), c_lossBy (cq_t H) (sAll_lt (cq_k H)), c0, l1]
  by_cases z : τ 7 m = 0
  · rw [if_pos z, if_pos z]
  · rw [if_neg z, if_neg z]
    by_cases y : sLoss τ (sAll τ) = 0
    · rw [if_neg (by omega), if_pos y]
    · rw [if_pos (by omega), if_neg y]
      simp only [u143_49, u143_50, u143_51, u143_52, u143_53, u143_54, u143_55, u143_56, eq_self, q_nl0, q_nlI, q_nlR, not_false_eq_true, q_nz0, q_nz1, q_zv0, q_zv1, q_tl1, q_tl0, q_wif, q_swc, q_swn, List.cons_append, List.nil_append, if_true, if_false, e10, e01, Bool.false_eq_true, l0, y, not_false_eq_true]
theorem a_spread {X : XT} {d T N : Nat} {h : HT} {τ : CT} {A : Nat → Int32} {s : Nat} (H : CQ h T τ N A) (hs : s < 2 ^ τ 0 1) : An X (d + 10) 129 [some (.ref 1), some (.int (nI s))] h (nI (sSpread τ (aN A ||| s))) := by
  have h7 := o_mn (cq_k H)
  have hp := cq_p H
  have hn := cq_n H
  have hT := ct_T (cq_t H)
  have h8 := p2_7 h7
  have z := set_in (k := τ 0 1) h7 hs
  have z' : nI s &&& (nI (sAll τ) ^^^ (-1)) = 0 := z
  have hu := or_128 hn (show s < 128 by omega)
  refine An_pure (fun Q => ?_)
  simp only [u129_0, u129_1, u129_2, u129_5, u129_8, u129_9, u129_10, u129_11, u129_14, u129_15, u129_18, u129_21, u129_22, u129_23, u129_26, eq_self, q_nl0, q_nlI, q_nlR, not_false_eq_true, q_nz0, q_nz1, q_zv0, q_zv1, q_tl1, q_tl0, q_wif, q_swc, q_swn, List.cons_append, List.nil_append, if_true, if_false, e10, e01, Bool.false_eq_true, sh_1, sh_38, shT_0 hT, c_isSet (cq_t H) (cq_T H), z', cq_T H, p_1_3 hp, cq_o H, nI_or, c_spreadOf (cq_t H) hu]
