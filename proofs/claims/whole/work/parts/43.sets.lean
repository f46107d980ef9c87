/-! twins, stock, pays -/
def twI (τ : CT) (i : Nat) (j c : Nat) : Nat := if τ 3 i = τ 3 j then c + 1 else c
def twS (τ : CT) (i : Nat) (c : Nat) : Nat := fL (twI τ i) c i
theorem b_twins {X : XT} {d T b f N : Nat} {h : HT} {τ : CT} {A : Nat → Int32} (H : CQ h T τ N A) (K : KQ h b f τ N A) : Pr X (d + 10) 141 [some (.ref 1), none, none, none] 250 [some (.ref 195), none, none, none, none] h := by
  have h7 := o_mn (cq_k H)
  have hp := cq_p H
  have hT := ct_T (cq_t H)
  have hbb := mt_b (mq_t K)
  have sk : ∀ m, τ 3 m < 2 ^ 31 := fun m => by
    have := o_sk (cq_k H) m
    omega
  refine Pr_pure (nI (fL (twS τ) 0 (τ 0 1))) (fun Q => ?_) (fun Q => ?_)
  · simp only [u141_0, u141_1, u141_2, u141_3, eq_self, q_nl0, q_nlI, q_nlR, not_false_eq_true, q_nz0, q_nz1, q_zv0, q_zv1, q_tl1, q_tl0, q_wif, q_swc, q_swn, List.cons_append, List.nil_append, if_true, if_false, e10, e01, Bool.false_eq_true]
    obtain ⟨l', e⟩ := q_loopL (fun i (l3 : Option Value) => wq X (d + 10) 141 4 [some (.ref 1), some (.int (nI (fL (twS τ) 0 i))), some (.int (nI i)), l3] [] h Q) (τ 0 1) (by
      intro i hi l3
      refine ⟨some (.int (nI i)), ?_⟩
      have e1 : (nI i < nI (τ 0 1)) = True := eq_true (nI_lt (by omega) (by omega))
      have e2 : (nI i < 7) = True := eq_true (nI_lt (b := 7) (by omega) (by omega))
      have e3 : m_in (nI i) 7 = true := q_in (by omega) (by decide)
      have e4 : (nI i).toNatClampNeg = i := q_cl (by omega)
      show wq X (d + 10) 141 4 _ _ _ _ = _
      rw [u141_4, fL_s]
      unfold twS
      generalize fL (fun i c => fL (twI τ i) c i) 0 i = c
      simp only [u141_5, u141_6, u141_9, u141_12, u141_15, u141_16, u141_18, u141_21, u141_22, eq_self, q_nl0, q_nlI, q_nlR, not_false_eq_true, q_nz0, q_nz1, q_zv0, q_zv1, q_tl1, q_tl0, q_wif, q_swc, q_swn, List.cons_append, List.nil_append, if_true, if_false, e10, e01, Bool.false_eq_true, sh_1, shT_0 hT, cq_T H, ct_mn (cq_t H), e1, e2]
      refine (q_loop (fun j => wq X (d + 10) 141 23 [some (.ref 1), some (.int (nI (fL (twI τ i) c j))), some (.int (nI i)), some (.int (nI j))] [] h Q) i ?_).trans ?_
      · intro j hj
        have f1 : (nI j < nI i) = True := eq_true (nI_lt (by omega) (by omega))
        have f3 : m_in (nI j) 7 = true := q_in (by omega) (by decide)
        have f4 : (nI j).toNatClampNeg = j := q_cl (by omega)
        show wq X (d + 10) 141 23 _ _ _ _ = _
        rw [u141_23, fL_s]
        unfold twI
        simp only [u141_24, u141_25, u141_28, u141_29, u141_32, u141_35, u141_36, u141_37, u141_38, u141_41, u141_44, u141_45, u141_46, u141_49, u141_52, u141_55, eq_self, q_nl0, q_nlI, q_nlR, not_false_eq_true, q_nz0, q_nz1, q_zv0, q_zv1, q_tl1, q_tl0, q_wif, q_swc, q_swn, List.cons_append, List.nil_append, if_true, if_false, e10, e01, Bool.false_eq_true, sh_1, shT_0 hT, shT_4 hT, pT_5 hT hp, cq_T H, f1, e3, e4, f3, f4, ct_sk (cq_t H) i hi, ct_sk (cq_t H) j (by omega), nI_eqB (sk i) (sk j), nI_1]
        by_cases z : τ 3 i = τ 3 j
        · simp only [z, if_true]
        · simp only [z, if_false]
      · rw [u141_23]
        simp only [u141_24, u141_25, u141_28, u141_29, u141_32, u141_35, u141_36, u141_37, u141_38, u141_41, u141_44, u141_45, u141_46, u141_49, u141_52, u141_55, u141_58, u141_61, eq_self, q_nl0, q_nlI, q_nlR, not_false_eq_true, q_nz0, q_nz1, q_zv0, q_zv1, q_tl1, q_tl0, q_wif, q_swc, q_swn, List.cons_append, List.nil_append, if_true, if_false, e10, e01, Bool.false_eq_true, eq_false (nI_nlt (Nat.le_refl i) (by omega)), nI_1]) none
    refine Eq.trans e ?_
    show wq X (d + 10) 141 4 _ _ _ _ = _
    rw [u141_4]
    simp only [u141_5, u141_6, u141_9, u141_12, u141_15, u141_16, u141_18, u141_21, u141_22, u141_23, u141_24, u141_25, u141_28, u141_29, u141_32, u141_35, u141_36, u141_37, u141_38, u141_41, u141_44, u141_45, u141_46, u141_49, u141_52, u141_55, u141_58, u141_61, u141_64, u141_65, eq_self, q_nl0, q_nlI, q_nlR, not_false_eq_true, q_nz0, q_nz1, q_zv0, q_zv1, q_tl1, q_tl0, q_wif, q_swc, q_swn, List.cons_append, List.nil_append, if_true, if_false, e10, e01, Bool.false_eq_true, sh_1, shT_0 hT, cq_T H, ct_mn (cq_t H), eq_false (nI_nlt (Nat.le_refl (τ 0 1)) (by omega))]
  · simp only [u250_0, u250_1, u250_2, u250_3, eq_self, q_nl0, q_nlI, q_nlR, not_false_eq_true, q_nz0, q_nz1, q_zv0, q_zv1, q_tl1, q_tl0, q_wif, q_swc, q_swn, List.cons_append, List.nil_append, if_true, if_false, e10, e01, Bool.false_eq_true]
    obtain ⟨l', e⟩ := q_loopL (fun i (l : Option Value × Option Value) => wq X (d + 10) 250 4 [some (.ref 195), some (.int (nI (fL (twS τ) 0 i))), some (.int (nI i)), l.1, l.2] [] h Q) (τ 0 1) (by
      intro i hi l
      refine ⟨(some (.int (nI (τ 3 i))), some (.int (nI i))), ?_⟩
      have e1 : (nI i < nI (τ 0 1)) = True := eq_true (nI_lt (by omega) (by omega))
      have e3 : m_in (nI (7 * b + i)) 14 = true := m_7b hbb hi h7
      have e4 : (nI (7 * b + i)).toNatClampNeg = 7 * b + i := q_cl (by omega)
      show wq X (d + 10) 250 4 _ _ _ _ = _
      rw [u250_4, fL_s]
      unfold twS
      generalize fL (fun i c => fL (twI τ i) c i) 0 i = c
      simp only [u250_5, u250_6, u250_9, u250_12, u250_13, u250_16, u250_18, u250_19, u250_22, u250_23, u250_24, u250_25, u250_26, u250_27, u250_28, eq_self, q_nl0, q_nlI, q_nlR, not_false_eq_true, q_nz0, q_nz1, q_zv0, q_zv1, q_tl1, q_tl0, q_wif, q_swc, q_swn, List.cons_append, List.nil_append, if_true, if_false, e10, e01, Bool.false_eq_true, sh_195, sh_208, k_many (mq_t K), e1, p_195_21 hp, mt_k (mq_t K), nI_7b, e3, e4, mt_sk (mq_t K) i hi]
      refine (q_loop (fun j => wq X (d + 10) 250 30 [some (.ref 195), some (.int (nI (fL (twI τ i) c j))), some (.int (nI i)), some (.int (nI (τ 3 i))), some (.int (nI j))] [] h Q) i ?_).trans ?_
      · intro j hj
        have f1 : (nI j < nI i) = True := eq_true (nI_lt (by omega) (by omega))
        have f3 : m_in (nI (7 * b + j)) 14 = true := m_7b hbb (show j < τ 0 1 by omega) h7
        have f4 : (nI (7 * b + j)).toNatClampNeg = 7 * b + j := q_cl (by omega)
        show wq X (d + 10) 250 30 _ _ _ _ = _
        rw [u250_30, fL_s]
        unfold twI
        simp only [u250_32, u250_33, u250_36, u250_37, u250_40, u250_42, u250_43, u250_46, u250_47, u250_49, u250_50, u250_51, u250_52, u250_55, u250_58, u250_61, eq_self, q_nl0, q_nlI, q_nlR, not_false_eq_true, q_nz0, q_nz1, q_zv0, q_zv1, q_tl1, q_tl0, q_wif, q_swc, q_swn, List.cons_append, List.nil_append, if_true, if_false, e10, e01, Bool.false_eq_true, sh_195, sh_208, p_195_21 hp, mt_k (mq_t K), nI_7b, f1, f3, f4, mt_sk (mq_t K) j (by omega), nI_eqB (sk j) (sk i), nI_1]
        by_cases z : τ 3 i = τ 3 j
        · simp only [z, if_true]
        · simp only [z, fun w => z (Eq.symm w), if_false]
          rw [if_neg (fun w => z (Eq.symm w))]
      · rw [u250_30]
        simp only [u250_32, u250_33, u250_36, u250_37, u250_40, u250_42, u250_43, u250_46, u250_47, u250_49, u250_50, u250_51, u250_52, u250_55, u250_58, u250_61, u250_64, u250_67, eq_self, q_nl0, q_nlI, q_nlR, not_false_eq_true, q_nz0, q_nz1, q_zv0, q_zv1, q_tl1, q_tl0, q_wif, q_swc, q_swn, List.cons_append, List.nil_append, if_true, if_false, e10, e01, Bool.false_eq_true, eq_false (nI_nlt (Nat.le_refl i) (by omega)), nI_1]) (none, none)
    refine Eq.trans e ?_
    show wq X (d + 10) 250 4 _ _ _ _ = _
    rw [u250_4]
    simp only [u250_5, u250_6, u250_9, u250_12, u250_13, u250_16, u250_18, u250_19, u250_22, u250_23, u250_24, u250_25, u250_26, u250_27, u250_28, u250_30, u250_32, u250_33, u250_36, u250_37, u250_40, u250_42, u250_43, u250_46, u250_47, u250_49, u250_50, u250_51, u250_52, u250_55, u250_58, u250_61, u250_64, u250_67, u250_70, u250_71, eq_self, q_nl0, q_nlI, q_nlR, not_false_eq_true, q_nz0, q_nz1, q_zv0, q_zv1, q_tl1, q_tl0, q_wif, q_swc, q_swn, List.cons_append, List.nil_append, if_true, if_false, e10, e01, Bool.false_eq_true, sh_195, k_many (mq_t K), eq_false (nI_nlt (Nat.le_refl (τ 0 1)) (by omega))]
def stS (A : Nat → Int32) (i : Nat) (s : Int32) : Int32 := if (aN A).testBit i = true then s + A i else s
theorem b_stock {X : XT} {d T b f N : Nat} {h : HT} {τ : CT} {A : Nat → Int32} (H : CQ h T τ N A) (K : KQ h b f τ N A) : Pr X (d + 10) 148 [some (.ref 1), none, none, none] 251 [some (.ref 195), none, none] h := by
  have h7 := o_mn (cq_k H)
  have hp := cq_p H
  have hn := cq_n H
  have s38 : (m_sh KS 38).1 = 7 := by rw [sh_38]
  have h8 := pcN_le _ hn
  have e0 : (nI (pcN (aN A)) = 0) = (aN A = 0) := (propext (nI_eq (b := 0) (by omega) (by omega))).trans (pc_0 _ hn)
  have e00 : (nI (aN A) = 0) = (aN A = 0) := nI_0eq hn
  refine Pr_pure (if aN A = 0 then -1 else fL (stS A) 0 (τ 0 1) / nI (pcN (aN A))) (fun Q => ?_) (fun Q => ?_)
  · rw [← fL_to (n := 7) h7 (s := stS A) (fun i o hi => if_neg (by rw [bit_ge (cq_a H).1.2 hi]; decide))]
    simp only [u148_0, u148_1, u148_4, u148_7, u148_10, u148_11, u148_12, u148_15, u148_16, u148_17, u148_18, u148_19, u148_20, eq_self, q_nl0, q_nlI, q_nlR, not_false_eq_true, q_nz0, q_nz1, q_zv0, q_zv1, q_tl1, q_tl0, q_wif, q_swc, q_swn, List.cons_append, List.nil_append, if_true, if_false, e10, e01, Bool.false_eq_true, sh_1, sh_38, p_1_3 hp, cq_o H, c_bitCount hn, e0]
    by_cases z0 : aN A = 0
    · rw [if_pos z0, if_pos z0]
    · rw [if_neg z0, if_neg z0]
      refine (q_loop (fun i => wq X (d + 10) 148 21 [some (.ref 1), some (.int (nI (pcN (aN A)))), some (.int (fL (stS A) 0 i)), some (.int (nI i))] [] h Q) 7 ?_).trans ?_
      · intro i hi
        have hb := bit01 hn (show i < 8 by omega)
        have e2 : (nI i < 7) = True := eq_true (nI_lt (b := 7) (by omega) (by omega))
        have e3 : m_in (nI i) 7 = true := q_in (by omega) (by decide)
        have e4 : (nI i).toNatClampNeg = i := q_cl (by omega)
        show wq X (d + 10) 148 21 _ _ _ _ = _
        rw [u148_21, fL_s]
        unfold stS
        by_cases z : (aN A).testBit i = true
        · have hm := bit_lt (cq_a H).1.2 z
          simp only [u148_22, u148_24, u148_27, u148_28, u148_31, u148_32, u148_35, u148_38, u148_39, u148_40, u148_43, u148_46, u148_47, u148_48, u148_49, u148_50, u148_53, eq_self, q_nl0, q_nlI, q_nlR, not_false_eq_true, q_nz0, q_nz1, q_zv0, q_zv1, q_tl1, q_tl0, q_wif, q_swc, q_swn, List.cons_append, List.nil_append, if_true, if_false, e10, e01, Bool.false_eq_true, sh_1, sh_38, shS_2 is38, pS_2 is38 hp, p_1_3 hp, e2, e3, e4, c_isOut s38, cq_o H, hb, z, cq_lv H i hm, nI_1]
        · simp only [u148_22, u148_24, u148_27, u148_28, u148_31, u148_32, u148_35, u148_38, u148_39, u148_40, u148_43, u148_46, u148_47, u148_48, u148_49, u148_50, u148_53, eq_self, q_nl0, q_nlI, q_nlR, not_false_eq_true, q_nz0, q_nz1, q_zv0, q_zv1, q_tl1, q_tl0, q_wif, q_swc, q_swn, List.cons_append, List.nil_append, if_true, if_false, e10, e01, Bool.false_eq_true, sh_1, sh_38, p_1_3 hp, e2, c_isOut s38, cq_o H, hb, z, nI_1]
      · rw [u148_21]
        simp only [u148_22, u148_24, u148_27, u148_28, u148_31, u148_32, u148_35, u148_38, u148_39, u148_40, u148_43, u148_46, u148_47, u148_48, u148_49, u148_50, u148_53, u148_56, u148_57, u148_58, u148_59, eq_self, q_nl0, q_nlI, q_nlR, not_false_eq_true, q_nz0, q_nz1, q_zv0, q_zv1, q_tl1, q_tl0, q_wif, q_swc, q_swn, List.cons_append, List.nil_append, if_true, if_false, e10, e01, Bool.false_eq_true, eq_false (show ¬ nI 7 < 7 by decide), e0, z0, not_false_eq_true]
  · simp only [u251_0, u251_1, u251_2, u251_3, eq_self, q_nl0, q_nlI, q_nlR, not_false_eq_true, q_nz0, q_nz1, q_zv0, q_zv1, q_tl1, q_tl0, q_wif, q_swc, q_swn, List.cons_append, List.nil_append, if_true, if_false, e10, e01, Bool.false_eq_true]
    refine (q_loop (fun i => wq X (d + 10) 251 4 [some (.ref 195), some (.int (fL (stS A) 0 i)), some (.int (nI i))] [] h Q) (τ 0 1) ?_).trans ?_
    · intro i hi
      have hb := bit01 hn (show i < 8 by omega)
      have e2 : (nI i < nI (τ 0 1)) = True := eq_true (nI_lt hi (by omega))
      have e3 : m_in (nI i) 20 = true := q_in (by omega) (by decide)
      have e4 : (nI i).toNatClampNeg = i := q_cl (by omega)
      show wq X (d + 10) 251 4 _ _ _ _ = _
      rw [u251_4, fL_s]
      unfold stS
      by_cases z : (aN A).testBit i = true
      · simp only [u251_5, u251_6, u251_9, u251_12, u251_13, u251_14, u251_17, u251_19, u251_20, u251_21, u251_24, u251_27, u251_28, u251_31, u251_32, u251_33, u251_34, u251_35, u251_38, u251_39, u251_40, u251_41, u251_44, eq_self, q_nl0, q_nlI, q_nlR, not_false_eq_true, q_nz0, q_nz1, q_zv0, q_zv1, q_tl1, q_tl0, q_wif, q_swc, q_swn, List.cons_append, List.nil_append, if_true, if_false, e10, e01, Bool.false_eq_true, sh_195, sh_227, k_many (mq_t K), e2, p_195_47 hp, in14, cl14, mq_o K, k_has, hb, z, Int32.zero_add, e3, e4, mq_A K, nI_1]
      · simp only [u251_5, u251_6, u251_9, u251_12, u251_13, u251_14, u251_17, u251_19, u251_20, u251_21, u251_24, u251_27, u251_28, u251_31, u251_32, u251_33, u251_34, u251_35, u251_38, u251_39, u251_40, u251_41, u251_44, eq_self, q_nl0, q_nlI, q_nlR, not_false_eq_true, q_nz0, q_nz1, q_zv0, q_zv1, q_tl1, q_tl0, q_wif, q_swc, q_swn, List.cons_append, List.nil_append, if_true, if_false, e10, e01, Bool.false_eq_true, sh_195, sh_227, k_many (mq_t K), e2, p_195_47 hp, in14, cl14, mq_o K, k_has, hb, z, Int32.add_zero, nI_1]
    · rw [u251_4]
      simp only [u251_5, u251_6, u251_9, u251_12, u251_13, u251_14, u251_17, u251_19, u251_20, u251_21, u251_24, u251_27, u251_28, u251_31, u251_32, u251_33, u251_34, u251_35, u251_38, u251_39, u251_40, u251_41, u251_44, u251_47, u251_48, u251_51, u251_53, u251_54, u251_57, eq_self, q_nl0, q_nlI, q_nlR, not_false_eq_true, q_nz0, q_nz1, q_zv0, q_zv1, q_tl1, q_tl0, q_wif, q_swc, q_swn, List.cons_append, List.nil_append, if_true, if_false, e10, e01, Bool.false_eq_true, sh_195, sh_227, k_many (mq_t K), eq_false (nI_nlt (Nat.le_refl (τ 0 1)) (by omega)), p_195_47 hp, in14, cl14, mq_o K, e00]
      by_cases z0 : aN A = 0
      · simp only [if_pos z0, u251_57, u251_58, u251_61, u251_62, u251_63, u251_66, u251_68, u251_69, u251_72, u251_73, eq_self, q_nl0, q_nlI, q_nlR, not_false_eq_true, q_nz0, q_nz1, q_zv0, q_zv1, q_tl1, q_tl0, q_wif, q_swc, q_swn, List.cons_append, List.nil_append, if_true, if_false, e10, e01, Bool.false_eq_true]
      · simp only [if_neg z0, u251_61, u251_62, u251_63, u251_66, u251_68, u251_69, u251_72, u251_73, eq_self, q_nl0, q_nlI, q_nlR, not_false_eq_true, q_nz0, q_nz1, q_zv0, q_zv1, q_tl1, q_tl0, q_wif, q_swc, q_swn, List.cons_append, List.nil_append, if_true, if_false, e10, e01, Bool.false_eq_true, sh_195, sh_227, p_195_47 hp, in14, cl14, mq_o K, k_bitsOf hn, e0, z0, not_false_eq_true]
theorem b_pays {X : XT} {d T b f N : Nat} {h : HT} {τ : CT} {A : Nat → Int32} (H : CQ h T τ N A) (K : KQ h b f τ N A) (x : Int32) : Pr X (d + 10) 143 [some (.ref 1), some (.int x), none, none] 289 [some (.ref 195), some (.int x), none, none] h := by
  have h5 := o_dm (cq_k H)
  have hp := cq_p H
  have hT := ct_T (cq_t H)
  have hbb := mt_b (mq_t K)
  have hl := sLoss_le (cq_k H) (sAll τ)
  rcases ix_cases x (k := τ 0 2) (by omega) with ⟨m, hm, rfl, ix⟩ | ix
  · have e1 : m_in (nI m) 5 = true := q_in (by omega) (by decide)
    have e2 : (nI m).toNatClampNeg = m := q_cl (by omega)
    have e6 : m_in (nI (5 * b + m)) 10 = true := m_5b hbb hm h5
    have e7 : (nI (5 * b + m)).toNatClampNeg = 5 * b + m := q_cl (by omega)
    have hc := o_co (cq_k H) m
    have c0 : (nI (τ 7 m) = 0) = (τ 7 m = 0) := propext (nI_eq (b := 0) (by omega) (by omega))
    have l0 : (nI (sLoss τ (sAll τ)) = 0) = (sLoss τ (sAll τ) = 0) := propext (nI_eq (b := 0) (by omega) (by omega))
    have l1 : (0 < nI (sLoss τ (sAll τ))) = (0 < sLoss τ (sAll τ)) := nI_ltB (a := 0) (by omega) (by omega)
    refine Pr_pure (if τ 7 m = 0 then 0 else if sLoss τ (sAll τ) = 0 then -1 else (nI (τ 7 m) + nI (sLoss τ (sAll τ)) - 1) / nI (sLoss τ (sAll τ))) (fun Q => ?_) (fun Q => ?_)
    · simp only [u143_0, u143_1, u143_2, u143_5, u143_8, u143_9, u143_10, u143_11, u143_14, u143_17, u143_18, u143_19, u143_20, u143_21, u143_24, u143_25, u143_28, u143_31, u143_34, u143_35, u143_36, u143_39, u143_40, u143_41, u143_42, u143_45, u143_46, u143_56, eq_self, q_nl0, q_nlI, q_nlR, not_false_eq_true, q_nz0, q_nz1, q_zv0, q_zv1, q_tl1, q_tl0, q_wif, q_swc, q_swn, List.cons_append, List.nil_append, if_true, if_false, e10, e01, Bool.false_eq_true, sh_1, sh_38, shT_0 hT, shT_8 hT, pT_11 hT hp, c_isDemand (cq_t H) (cq_T H), ix, cq_T H, e1, e2, ct_co (cq_t H) m hm, c_every (cq_t H), c_lossBy (cq_t H) (sAll_lt (cq_k H)), c0, l1]
      by_cases z : τ 7 m = 0
      · rw [if_pos z, if_pos z]
      · rw [if_neg z, if_neg z]
        by_cases y : sLoss τ (sAll τ) = 0
        · rw [if_neg (by omega), if_pos y]
        · rw [if_pos (by omega), if_neg y]
          simp only [u143_49, u143_50, u143_51, u143_52, u143_53, u143_54, u143_55, u143_56, eq_self, q_nl0, q_nlI, q_nlR, not_false_eq_true, q_nz0, q_nz1, q_zv0, q_zv1, q_tl1, q_tl0, q_wif, q_swc, q_swn, List.cons_append, List.nil_append, if_true, if_false, e10, e01, Bool.false_eq_true, l0, y, not_false_eq_true]
    · simp only [u289_0, u289_1, u289_2, u289_5, u289_8, u289_9, u289_10, u289_11, u289_14, u289_15, u289_16, u289_19, u289_20, u289_21, u289_22, u289_23, u289_24, u289_25, u289_26, u289_29, u289_32, u289_33, u289_34, u289_37, u289_38, u289_39, u289_40, u289_43, u289_44, u289_54, eq_self, q_nl0, q_nlI, q_nlR, not_false_eq_true, q_nz0, q_nz1, q_zv0, q_zv1, q_tl1, q_tl0, q_wif, q_swc, q_swn, List.cons_append, List.nil_append, if_true, if_false, e10, e01, Bool.false_eq_true, sh_195, sh_212, k_isDemand (mq_t K), ix, p_195_25 hp, mt_k (mq_t K), nI_5b, e6, e7, mt_co (mq_t K) m hm, k_everybody (mq_t K), k_lossBy (mq_t K) (sAll_lt (mq_k K)), c0, l0]
      by_cases z : τ 7 m = 0
      · rw [if_pos z, if_pos z]
      · rw [if_neg z, if_neg z]
        by_cases y : sLoss τ (sAll τ) = 0
        · rw [if_pos y, if_pos y]
        · rw [if_neg y, if_neg y]
          simp only [u289_47, u289_48, u289_49, u289_50, u289_51, u289_52, u289_53, u289_54, eq_self, q_nl0, q_nlI, q_nlR, not_false_eq_true, q_nz0, q_nz1, q_zv0, q_zv1, q_tl1, q_tl0, q_wif, q_swc, q_swn, List.cons_append, List.nil_append, if_true, if_false, e10, e01, Bool.false_eq_true, l0, y, not_false_eq_true]
  · refine Pr_pure (-1) (fun Q => ?_) (fun Q => ?_)
    · simp only [u143_0, u143_1, u143_2, u143_5, u143_8, u143_9, eq_self, q_nl0, q_nlI, q_nlR, not_false_eq_true, q_nz0, q_nz1, q_zv0, q_zv1, q_tl1, q_tl0, q_wif, q_swc, q_swn, List.cons_append, List.nil_append, if_true, if_false, e10, e01, Bool.false_eq_true, sh_1, c_isDemand (cq_t H) (cq_T H), ix]
    · simp only [u289_0, u289_1, u289_2, u289_5, u289_8, u289_9, eq_self, q_nl0, q_nlI, q_nlR, not_false_eq_true, q_nz0, q_nz1, q_zv0, q_zv1, q_tl1, q_tl0, q_wif, q_swc, q_swn, List.cons_append, List.nil_append, if_true, if_false, e10, e01, Bool.false_eq_true, sh_195, k_isDemand (mq_t K), ix]
/-! sets as arguments -/
theorem and_self_of {x m : Int32} (h : x &&& (m ^^^ (-1)) = 0) : x &&& m = x := by
  have h1 := congrArg Int32.toBitVec h
  apply Int32.toBitVec_inj.mp
  rw [Int32.toBitVec_and] at h1 ⊢
  rw [Int32.toBitVec_xor] at h1
  apply BitVec.eq_of_getLsbD_eq
  intro i hi
  have h2 := congrArg (fun z => BitVec.getLsbD z i) h1
  have e : (Int32.toBitVec (-1)).getLsbD i = true := by
    have : ∀ i, i < 32 → (Int32.toBitVec (-1)).getLsbD i = true := by decide
    exact this i hi
  have e0 : (Int32.toBitVec 0).getLsbD i = false := by
    have : ∀ i, i < 32 → (Int32.toBitVec 0).getLsbD i = false := by decide
    exact this i hi
  simp only [BitVec.getLsbD_and, BitVec.getLsbD_xor, e, e0] at h2 ⊢
  revert h2
  cases x.toBitVec.getLsbD i <;> cases m.toBitVec.getLsbD i <;> decide
theorem p2m_and : ∀ k, k < 8 → ∀ s, s < 2 ^ k → s &&& (127 ^^^ (2 ^ k - 1)) = 0 := by decide +kernel
theorem all_tn : ∀ k, k < 8 → (nI (2 ^ k - 1)).toBitVec.toNat = 2 ^ k - 1 := by decide +kernel
theorem set_cases (x : Int32) {k : Nat} (hk : k ≤ 7) : (∃ s, s < 2 ^ k ∧ x = nI s ∧ x &&& (nI (2 ^ k - 1) ^^^ (-1)) = 0 ∧ ixB x (2 ^ k) = true) ∨ ¬ x &&& (nI (2 ^ k - 1) ^^^ (-1)) = 0 ∧ ixB x (2 ^ k) = false := by
  have h8 := p2_7 hk
  rcases ix_cases x (k := 2 ^ k) (by omega) with ⟨s, hs, rfl, ix⟩ | ix
  · left
    refine ⟨s, hs, rfl, ?_, ix⟩
    rw [nI_not s (by omega) _ (by omega), p2m_and k (by omega) s hs]
    rfl
  · right
    refine ⟨fun z => ?_, ix⟩
    have h1 := and_self_of z
    rw [pk_and x k (all_tn k (by omega))] at h1
    have h2 : x.toBitVec.toNat % 2 ^ k < 2 ^ k := Nat.mod_lt _ (Nat.two_pow_pos k)
    have : ixB x (2 ^ k) = true := by
      rw [← h1]
      unfold ixB
      rw [nI_toInt (by omega)]
      exact decide_eq_true (by omega)
    rw [this] at ix
    cases ix
theorem ix_k1 {x : Int32} {k : Nat} (hk : k < 2 ^ 30) (h0 : 0 < k) : (if x < 0 then (0 : Int32) else if nI (k - 1) < x then 0 else 1) = if ixB x k = true then 1 else 0 := by
  rw [← ix_k hk]
  have : nI k - 1 = nI (k - 1) := by
    rw [show (1 : Int32) = nI 1 from rfl, pk_sub (by omega)]
  rw [this]
theorem c_isSet {X : XT} {d T : Nat} {h : HT} {Q : QT} {τ : CT} {x : Int32} (H : CTown h T τ) (e : m_gR h 1 2 = T) : wq X (d + 1) 130 0 [some (.ref 1), some (.int x)] [] h Q = Q (some (.int (if x &&& (nI (sAll τ) ^^^ (-1)) = 0 then 1 else 0))) h := by
  simp only [u130_0, u130_1, u130_2, u130_5, u130_8, u130_9, u130_10, u130_11, u130_14, u130_15, u130_18, u130_19, eq_self, q_nl0, q_nlI, q_nlR, not_false_eq_true, q_nz0, q_nz1, q_zv0, q_zv1, q_tl1, q_tl0, q_wif, q_swc, q_swn, List.cons_append, List.nil_append, if_true, if_false, e10, e01, Bool.false_eq_true, sh_1, shT_0 (ct_T H), e, c_every H]
  split <;> rfl
theorem k_isSet {X : XT} {d b : Nat} {h : HT} {Q : QT} {τ : CT} {x : Int32} (H : MTown h b τ) : wq X (d + 2) 267 0 [some (.ref 195), some (.int x)] [] h Q = Q (some (.int (if ixB x (2 ^ τ 0 1) = true then 1 else 0))) h := by
  have h7 := p2_7 (o_mn (mt_ok H))
  simp only [u267_0, u267_1, u267_2, u267_3, u267_6, u267_9, eq_self, q_nl0, q_nlI, q_nlR, not_false_eq_true, q_nz0, q_nz1, q_zv0, q_zv1, q_tl1, q_tl0, q_wif, q_swc, q_swn, List.cons_append, List.nil_append, if_true, if_false, e10, e01, Bool.false_eq_true, sh_195, k_everybody H, k_isIn]
  unfold sAll
  rw [ix_k1 (by omega) (Nat.two_pow_pos _)]
  simp only [u267_9, eq_self, q_nl0, q_nlI, q_nlR, not_false_eq_true, q_nz0, q_nz1, q_zv0, q_zv1, q_tl1, q_tl0, q_wif, q_swc, q_swn, List.cons_append, List.nil_append, q_nzc]
theorem b_spread {X : XT} {d T b f N : Nat} {h : HT} {τ : CT} {A : Nat → Int32} (H : CQ h T τ N A) (K : KQ h b f τ N A) (x : Int32) : Pr X (d + 10) 129 [some (.ref 1), some (.int x)] 266 [some (.ref 195), some (.int x)] h := by
  have h7 := o_mn (cq_k H)
  have hp := cq_p H
  have hn := cq_n H
  have hT := ct_T (cq_t H)
  have h8 := p2_7 h7
  rcases set_cases x h7 with ⟨s, hs, rfl, z, ix⟩ | ⟨z, ix⟩
  · have z' : nI s &&& (nI (sAll τ) ^^^ (-1)) = 0 := z
    have hu := or_128 hn (show s < 128 by omega)
    refine Pr_pure (nI (sSpread τ (aN A ||| s))) (fun Q => ?_) (fun Q => ?_)
    · simp only [u129_0, u129_1, u129_2, u129_5, u129_8, u129_9, u129_10, u129_11, u129_14, u129_15, u129_18, u129_21, u129_22, u129_23, u129_26, eq_self, q_nl0, q_nlI, q_nlR, not_false_eq_true, q_nz0, q_nz1, q_zv0, q_zv1, q_tl1, q_tl0, q_wif, q_swc, q_swn, List.cons_append, List.nil_append, if_true, if_false, e10, e01, Bool.false_eq_true, sh_1, sh_38, shT_0 hT, c_isSet (cq_t H) (cq_T H), z', cq_T H, p_1_3 hp, cq_o H, nI_or, c_spreadOf (cq_t H) hu]
    · simp only [u266_0, u266_1, u266_2, u266_5, u266_8, u266_9, u266_10, u266_13, u266_15, u266_16, u266_17, u266_18, u266_21, u266_24, u266_25, eq_self, q_nl0, q_nlI, q_nlR, not_false_eq_true, q_nz0, q_nz1, q_zv0, q_zv1, q_tl1, q_tl0, q_wif, q_swc, q_swn, List.cons_append, List.nil_append, if_true, if_false, e10, e01, Bool.false_eq_true, sh_195, sh_227, k_isSet (mq_t K), ix, p_195_47 hp, in14, cl14, mq_o K, nI_or, k_spreadOf (mq_t K) hu]
  · have z' : ¬ x &&& (nI (sAll τ) ^^^ (-1)) = 0 := z
    refine Pr_pure (-1) (fun Q => ?_) (fun Q => ?_)
    · simp only [u129_0, u129_1, u129_2, u129_5, u129_8, u129_9, eq_self, q_nl0, q_nlI, q_nlR, not_false_eq_true, q_nz0, q_nz1, q_zv0, q_zv1, q_tl1, q_tl0, q_wif, q_swc, q_swn, List.cons_append, List.nil_append, if_true, if_false, e10, e01, Bool.false_eq_true, sh_1, sh_38, c_isSet (cq_t H) (cq_T H), z']
    · simp only [u266_0, u266_1, u266_2, u266_5, u266_8, u266_9, u266_10, u266_13, u266_15, u266_16, u266_17, u266_18, u266_21, u266_24, u266_25, eq_self, q_nl0, q_nlI, q_nlR, not_false_eq_true, q_nz0, q_nz1, q_zv0, q_zv1, q_tl1, q_tl0, q_wif, q_swc, q_swn, List.cons_append, List.nil_append, if_true, if_false, e10, e01, Bool.false_eq_true, sh_195, sh_227, k_isSet (mq_t K), ix]
