/-! more plain questions -/
theorem b_craft {X : XT} {d T b f N : Nat} {h : HT} {τ : CT} {A : Nat → Int32} (H : CQ h T τ N A) (K : KQ h b f τ N A) (x w : Int32) : Pr X (d + 10) 91 [some (.ref 1), some (.int x), some (.int w)] 236 [some (.ref 195), some (.int x), some (.int w)] h := by
  have h4 := o_cr (cq_k H)
  have hp := cq_p H
  have hn := cq_n H
  have hT := ct_T (cq_t H)
  have hbb := mt_b (mq_t K)
  have h16 := sShort_16 (cq_k H) (aN A)
  rcases ix_cases x (k := τ 0 0) (by omega) with ⟨m, hm, rfl, ix⟩ | ix
  · have e1 : m_in (nI m) 4 = true := q_in (by omega) (by decide)
    have e2 : (nI m).toNatClampNeg = m := q_cl (by omega)
    have e6 : m_in (nI (4 * b + m)) 8 = true := m_4b hbb hm h4
    have e7 : (nI (4 * b + m)).toNatClampNeg = 4 * b + m := q_cl (by omega)
    have hb := bit01 (show sShort τ (aN A) < 128 by omega) (show m < 8 by omega)
    have hs := sMen_lt (cq_k H) m
    have e8 : sMen τ m &&& (127 ^^^ aN A) < 128 := Nat.lt_of_le_of_lt Nat.and_le_left hs
    by_cases w0 : w = 0
    · refine Pr_pure (nI (τ 1 m)) (fun Q => ?_) (fun Q => ?_)
      · simp only [u91_0, u91_1, u91_2, u91_5, u91_8, u91_9, u91_10, u91_11, u91_44, u91_45, u91_48, u91_51, u91_52, u91_53, u91_54, u91_55, u91_58, u91_59, u91_60, u91_63, u91_66, u91_69, u91_70, u91_71, u91_74, u91_75, u91_78, u91_81, u91_84, u91_85, u91_86, u91_87, u91_88, u91_89, u91_90, u91_93, u91_96, u91_97, u91_98, u91_99, u91_100, u91_103, u91_106, u91_107, u91_108, u91_109, u91_110, eq_self, q_nl0, q_nlI, q_nlR, not_false_eq_true, q_nz0, q_nz1, q_zv0, q_zv1, q_tl1, q_tl0, q_wif, q_swc, q_swn, List.cons_append, List.nil_append, if_true, if_false, e10, e01, Bool.false_eq_true, sh_1, sh_38, shT_0 hT, shT_1 hT, pT_1 hT hp, c_isCraft (cq_t H) (cq_T H), ix, cq_T H, q_swc, q_swn, q_t0, q_t1, q_t2, q_t3, q_t4, q_t5, q_t6, eq_true w0, e1, e2, ct_ne (cq_t H) m hm]
      · simp only [u236_0, u236_1, u236_2, u236_5, u236_8, u236_9, u236_10, u236_11, u236_44, u236_45, u236_48, u236_49, u236_50, u236_53, u236_54, u236_55, u236_56, u236_57, u236_58, u236_59, u236_60, u236_63, u236_64, u236_67, u236_69, u236_70, u236_71, u236_72, u236_73, u236_76, u236_77, u236_78, u236_79, u236_82, u236_84, u236_85, u236_88, u236_89, u236_90, u236_91, u236_92, u236_93, u236_94, u236_97, u236_98, u236_99, u236_102, u236_103, u236_104, u236_105, u236_106, u236_107, u236_108, u236_109, u236_112, u236_113, u236_114, eq_self, q_nl0, q_nlI, q_nlR, not_false_eq_true, q_nz0, q_nz1, q_zv0, q_zv1, q_tl1, q_tl0, q_wif, q_swc, q_swn, List.cons_append, List.nil_append, if_true, if_false, e10, e01, Bool.false_eq_true, sh_195, sh_206, k_isCraft (mq_t K), ix, q_swc, q_swn, q_t0, q_t1, q_t2, q_t3, q_t4, q_t5, q_t6, eq_true w0, p_195_19 hp, mt_k (mq_t K), nI_4b, e6, e7, mt_ne (mq_t K) m hm]
    · by_cases w1 : w = 1
      · refine Pr_pure (nI (pcN (sMen τ m &&& (127 ^^^ aN A)))) (fun Q => ?_) (fun Q => ?_)
        · simp only [u91_0, u91_1, u91_2, u91_5, u91_8, u91_9, u91_10, u91_11, u91_44, u91_45, u91_48, u91_51, u91_52, u91_53, u91_54, u91_55, u91_58, u91_59, u91_60, u91_63, u91_66, u91_69, u91_70, u91_71, u91_74, u91_75, u91_78, u91_81, u91_84, u91_85, u91_86, u91_87, u91_88, u91_89, u91_90, u91_93, u91_96, u91_97, u91_98, u91_99, u91_100, u91_103, u91_106, u91_107, u91_108, u91_109, u91_110, eq_self, q_nl0, q_nlI, q_nlR, not_false_eq_true, q_nz0, q_nz1, q_zv0, q_zv1, q_tl1, q_tl0, q_wif, q_swc, q_swn, List.cons_append, List.nil_append, if_true, if_false, e10, e01, Bool.false_eq_true, sh_1, sh_38, shT_0 hT, c_isCraft (cq_t H) (cq_T H), ix, cq_T H, p_1_3 hp, cq_o H, q_swc, q_swn, q_t0, q_t1, q_t2, q_t3, q_t4, q_t5, q_t6, eq_false w0, eq_true w1, c_handsOf (cq_t H) hn hm]
        · simp only [u236_0, u236_1, u236_2, u236_5, u236_8, u236_9, u236_10, u236_11, u236_44, u236_45, u236_48, u236_49, u236_50, u236_53, u236_54, u236_55, u236_56, u236_57, u236_58, u236_59, u236_60, u236_63, u236_64, u236_67, u236_69, u236_70, u236_71, u236_72, u236_73, u236_76, u236_77, u236_78, u236_79, u236_82, u236_84, u236_85, u236_88, u236_89, u236_90, u236_91, u236_92, u236_93, u236_94, u236_97, u236_98, u236_99, u236_102, u236_103, u236_104, u236_105, u236_106, u236_107, u236_108, u236_109, u236_112, u236_113, u236_114, eq_self, q_nl0, q_nlI, q_nlR, not_false_eq_true, q_nz0, q_nz1, q_zv0, q_zv1, q_tl1, q_tl0, q_wif, q_swc, q_swn, List.cons_append, List.nil_append, if_true, if_false, e10, e01, Bool.false_eq_true, sh_195, sh_227, k_isCraft (mq_t K), ix, q_swc, q_swn, q_t0, q_t1, q_t2, q_t3, q_t4, q_t5, q_t6, eq_false w0, eq_true w1, p_195_47 hp, in14, cl14, mq_o K, k_menOf (mq_t K) (show m < 8 by omega), nI_not _ hs _ hn, k_bitsOf e8]
      · by_cases w2 : w = 2
        · refine Pr_pure (if (sShort τ (aN A)).testBit m = true then 1 else 0) (fun Q => ?_) (fun Q => ?_)
          · simp only [u91_0, u91_1, u91_2, u91_5, u91_8, u91_9, u91_10, u91_11, u91_44, u91_45, u91_48, u91_51, u91_52, u91_53, u91_54, u91_55, u91_58, u91_59, u91_60, u91_63, u91_66, u91_69, u91_70, u91_71, u91_74, u91_75, u91_78, u91_81, u91_84, u91_85, u91_86, u91_87, u91_88, u91_89, u91_90, u91_93, u91_96, u91_97, u91_98, u91_99, u91_100, u91_103, u91_106, u91_107, u91_108, u91_109, u91_110, eq_self, q_nl0, q_nlI, q_nlR, not_false_eq_true, q_nz0, q_nz1, q_zv0, q_zv1, q_tl1, q_tl0, q_wif, q_swc, q_swn, List.cons_append, List.nil_append, if_true, if_false, e10, e01, Bool.false_eq_true, sh_1, sh_38, shT_0 hT, c_isCraft (cq_t H) (cq_T H), ix, cq_T H, p_1_3 hp, cq_o H, q_swc, q_swn, q_t0, q_t1, q_t2, q_t3, q_t4, q_t5, q_t6, eq_false w0, eq_false w1, eq_true w2, c_shortBy (cq_t H) hn, hb]
          · simp only [u236_0, u236_1, u236_2, u236_5, u236_8, u236_9, u236_10, u236_11, u236_44, u236_45, u236_48, u236_49, u236_50, u236_53, u236_54, u236_55, u236_56, u236_57, u236_58, u236_59, u236_60, u236_63, u236_64, u236_67, u236_69, u236_70, u236_71, u236_72, u236_73, u236_76, u236_77, u236_78, u236_79, u236_82, u236_84, u236_85, u236_88, u236_89, u236_90, u236_91, u236_92, u236_93, u236_94, u236_97, u236_98, u236_99, u236_102, u236_103, u236_104, u236_105, u236_106, u236_107, u236_108, u236_109, u236_112, u236_113, u236_114, eq_self, q_nl0, q_nlI, q_nlR, not_false_eq_true, q_nz0, q_nz1, q_zv0, q_zv1, q_tl1, q_tl0, q_wif, q_swc, q_swn, List.cons_append, List.nil_append, if_true, if_false, e10, e01, Bool.false_eq_true, sh_195, sh_227, k_isCraft (mq_t K), ix, q_swc, q_swn, q_t0, q_t1, q_t2, q_t3, q_t4, q_t5, q_t6, eq_false w0, eq_false w1, eq_true w2, p_195_47 hp, in14, cl14, mq_o K, k_shortBy (mq_t K) hn, hb]
        · by_cases w3 : w = 3
          · refine Pr_pure (nI (τ 2 m)) (fun Q => ?_) (fun Q => ?_)
            · simp only [u91_0, u91_1, u91_2, u91_5, u91_8, u91_9, u91_10, u91_11, u91_44, u91_45, u91_48, u91_51, u91_52, u91_53, u91_54, u91_55, u91_58, u91_59, u91_60, u91_63, u91_66, u91_69, u91_70, u91_71, u91_74, u91_75, u91_78, u91_81, u91_84, u91_85, u91_86, u91_87, u91_88, u91_89, u91_90, u91_93, u91_96, u91_97, u91_98, u91_99, u91_100, u91_103, u91_106, u91_107, u91_108, u91_109, u91_110, eq_self, q_nl0, q_nlI, q_nlR, not_false_eq_true, q_nz0, q_nz1, q_zv0, q_zv1, q_tl1, q_tl0, q_wif, q_swc, q_swn, List.cons_append, List.nil_append, if_true, if_false, e10, e01, Bool.false_eq_true, sh_1, sh_38, shT_0 hT, shT_2 hT, pT_2 hT hp, c_isCraft (cq_t H) (cq_T H), ix, cq_T H, q_swc, q_swn, q_t0, q_t1, q_t2, q_t3, q_t4, q_t5, q_t6, eq_false w0, eq_false w1, eq_false w2, eq_true w3, e1, e2, ct_lo (cq_t H) m hm]
            · simp only [u236_0, u236_1, u236_2, u236_5, u236_8, u236_9, u236_10, u236_11, u236_44, u236_45, u236_48, u236_49, u236_50, u236_53, u236_54, u236_55, u236_56, u236_57, u236_58, u236_59, u236_60, u236_63, u236_64, u236_67, u236_69, u236_70, u236_71, u236_72, u236_73, u236_76, u236_77, u236_78, u236_79, u236_82, u236_84, u236_85, u236_88, u236_89, u236_90, u236_91, u236_92, u236_93, u236_94, u236_97, u236_98, u236_99, u236_102, u236_103, u236_104, u236_105, u236_106, u236_107, u236_108, u236_109, u236_112, u236_113, u236_114, eq_self, q_nl0, q_nlI, q_nlR, not_false_eq_true, q_nz0, q_nz1, q_zv0, q_zv1, q_tl1, q_tl0, q_wif, q_swc, q_swn, List.cons_append, List.nil_append, if_true, if_false, e10, e01, Bool.false_eq_true, sh_195, sh_207, k_isCraft (mq_t K), ix, q_swc, q_swn, q_t0, q_t1, q_t2, q_t3, q_t4, q_t5, q_t6, eq_false w0, eq_false w1, eq_false w2, eq_true w3, p_195_20 hp, mt_k (mq_t K), nI_4b, e6, e7, mt_lo (mq_t K) m hm]
          · by_cases w4 : w = 4
            · refine Pr_pure (nI (sMen τ m)) (fun Q => ?_) (fun Q => ?_)
              · simp only [u91_0, u91_1, u91_2, u91_5, u91_8, u91_9, u91_10, u91_11, u91_44, u91_45, u91_48, u91_51, u91_52, u91_53, u91_54, u91_55, u91_58, u91_59, u91_60, u91_63, u91_66, u91_69, u91_70, u91_71, u91_74, u91_75, u91_78, u91_81, u91_84, u91_85, u91_86, u91_87, u91_88, u91_89, u91_90, u91_93, u91_96, u91_97, u91_98, u91_99, u91_100, u91_103, u91_106, u91_107, u91_108, u91_109, u91_110, eq_self, q_nl0, q_nlI, q_nlR, not_false_eq_true, q_nz0, q_nz1, q_zv0, q_zv1, q_tl1, q_tl0, q_wif, q_swc, q_swn, List.cons_append, List.nil_append, if_true, if_false, e10, e01, Bool.false_eq_true, sh_1, sh_38, shT_0 hT, shT_3 hT, pT_3 hT hp, c_isCraft (cq_t H) (cq_T H), ix, cq_T H, q_swc, q_swn, q_t0, q_t1, q_t2, q_t3, q_t4, q_t5, q_t6, eq_false w0, eq_false w1, eq_false w2, eq_false w3, eq_true w4, e1, e2, ct_me (cq_t H) m hm]
              · simp only [u236_0, u236_1, u236_2, u236_5, u236_8, u236_9, u236_10, u236_11, u236_44, u236_45, u236_48, u236_49, u236_50, u236_53, u236_54, u236_55, u236_56, u236_57, u236_58, u236_59, u236_60, u236_63, u236_64, u236_67, u236_69, u236_70, u236_71, u236_72, u236_73, u236_76, u236_77, u236_78, u236_79, u236_82, u236_84, u236_85, u236_88, u236_89, u236_90, u236_91, u236_92, u236_93, u236_94, u236_97, u236_98, u236_99, u236_102, u236_103, u236_104, u236_105, u236_106, u236_107, u236_108, u236_109, u236_112, u236_113, u236_114, eq_self, q_nl0, q_nlI, q_nlR, not_false_eq_true, q_nz0, q_nz1, q_zv0, q_zv1, q_tl1, q_tl0, q_wif, q_swc, q_swn, List.cons_append, List.nil_append, if_true, if_false, e10, e01, Bool.false_eq_true, sh_195, k_isCraft (mq_t K), ix, q_swc, q_swn, q_t0, q_t1, q_t2, q_t3, q_t4, q_t5, q_t6, eq_false w0, eq_false w1, eq_false w2, eq_false w3, eq_true w4, k_menOf (mq_t K) (show m < 8 by omega)]
            · refine Pr_pure (-1) (fun Q => ?_) (fun Q => ?_)
              · simp only [u91_0, u91_1, u91_2, u91_5, u91_8, u91_9, u91_10, u91_11, u91_44, u91_45, u91_48, u91_51, u91_52, u91_53, u91_54, u91_55, u91_58, u91_59, u91_60, u91_63, u91_66, u91_69, u91_70, u91_71, u91_74, u91_75, u91_78, u91_81, u91_84, u91_85, u91_86, u91_87, u91_88, u91_89, u91_90, u91_93, u91_96, u91_97, u91_98, u91_99, u91_100, u91_103, u91_106, u91_107, u91_108, u91_109, u91_110, eq_self, q_nl0, q_nlI, q_nlR, not_false_eq_true, q_nz0, q_nz1, q_zv0, q_zv1, q_tl1, q_tl0, q_wif, q_swc, q_swn, List.cons_append, List.nil_append, if_true, if_false, e10, e01, Bool.false_eq_true, sh_1, sh_38, c_isCraft (cq_t H) (cq_T H), ix, q_swc, q_swn, q_t0, q_t1, q_t2, q_t3, q_t4, q_t5, q_t6, eq_false w0, eq_false w1, eq_false w2, eq_false w3, eq_false w4]
              · simp only [u236_0, u236_1, u236_2, u236_5, u236_8, u236_9, u236_10, u236_11, u236_44, u236_45, u236_48, u236_49, u236_50, u236_53, u236_54, u236_55, u236_56, u236_57, u236_58, u236_59, u236_60, u236_63, u236_64, u236_67, u236_69, u236_70, u236_71, u236_72, u236_73, u236_76, u236_77, u236_78, u236_79, u236_82, u236_84, u236_85, u236_88, u236_89, u236_90, u236_91, u236_92, u236_93, u236_94, u236_97, u236_98, u236_99, u236_102, u236_103, u236_104, u236_105, u236_106, u236_107, u236_108, u236_109, u236_112, u236_113, u236_114, eq_self, q_nl0, q_nlI, q_nlR, not_false_eq_true, q_nz0, q_nz1, q_zv0, q_zv1, q_tl1, q_tl0, q_wif, q_swc, q_swn, List.cons_append, List.nil_append, if_true, if_false, e10, e01, Bool.false_eq_true, sh_195, k_isCraft (mq_t K), ix, q_swc, q_swn, q_t0, q_t1, q_t2, q_t3, q_t4, q_t5, q_t6, eq_false w0, eq_false w1, eq_false w2, eq_false w3, eq_false w4]
  · refine Pr_pure (-1) (fun Q => ?_) (fun Q => ?_)
    · simp only [u91_0, u91_1, u91_2, u91_5, u91_8, u91_9, eq_self, q_nl0, q_nlI, q_nlR, not_false_eq_true, q_nz0, q_nz1, q_zv0, q_zv1, q_tl1, q_tl0, q_wif, q_swc, q_swn, List.cons_append, List.nil_append, if_true, if_false, e10, e01, Bool.false_eq_true, sh_1, c_isCraft (cq_t H) (cq_T H), ix]
    · simp only [u236_0, u236_1, u236_2, u236_5, u236_8, u236_9, eq_self, q_nl0, q_nlI, q_nlR, not_false_eq_true, q_nz0, q_nz1, q_zv0, q_zv1, q_tl1, q_tl0, q_wif, q_swc, q_swn, List.cons_append, List.nil_append, if_true, if_false, e10, e01, Bool.false_eq_true, sh_195, k_isCraft (mq_t K), ix]
theorem aGr_128 {τ : CT} {g : Nat} (H : cOk τ) (h : g < 2 ^ τ 0 2) : g < 32 := Nat.lt_of_lt_of_le h (Nat.pow_le_pow_right (n := 2) (j := 5) (by decide) (o_dm H))
def sKept (τ : CT) (q : Nat) : Bool := decide (τ 7 q ≤ sLoss τ (sAll τ))
theorem c_kept {X : XT} {d T q : Nat} {h : HT} {Q : QT} {τ : CT} (H : CTown h T τ) (hq : q < τ 0 2) : wq X (d + 2) 95 0 [some (.ref T), some (.int (nI q))] [] h Q = Q (some (.int (if sKept τ q = true then 1 else 0))) h := by
  rw [c_canKeep H hq]
  unfold sKept
  simp only [decide_eq_true_eq]
theorem k_keptOne {X : XT} {d b f N g q : Nat} {h : HT} {Q : QT} {τ : CT} {A : Nat → Int32} (K : KQ h b f τ N A) (hg : g < 32) (eg : A 15 = nI g) (hq : q < τ 0 2) : wq X (d + 4) 240 0 [some (.ref 195), some (.int (nI q))] [] h Q = Q (some (.int (if g.testBit q = true ∧ sKept τ q = true then 1 else 0))) h := by
  have h5 := o_dm (mq_k K)
  have hp := mq_p K
  have hbb := mt_b (mq_t K)
  have hb := bit01 (show g < 128 by omega) (show q < 8 by omega)
  have e6 : m_in (nI (5 * b + q)) 10 = true := m_5b hbb hq h5
  have e7 : (nI (5 * b + q)).toNatClampNeg = 5 * b + q := q_cl (by omega)
  have hc := o_co (mq_k K) q
  have hl := sLoss_le (mq_k K) (sAll τ)
  have e4 : (nI (sLoss τ (sAll τ)) < nI (τ 7 q)) = (sLoss τ (sAll τ) < τ 7 q) := propext (nI_ltI (by omega) (by omega))
  simp only [u240_0, u240_1, u240_4, u240_6, u240_7, u240_8, u240_11, u240_14, u240_15, u240_18, u240_19, u240_20, u240_23, u240_24, u240_25, u240_26, u240_27, u240_28, u240_29, u240_32, u240_35, u240_38, u240_39, u240_42, u240_43, eq_self, q_nl0, q_nlI, q_nlR, not_false_eq_true, q_nz0, q_nz1, q_zv0, q_zv1, q_tl1, q_tl0, q_wif, q_swc, q_swn, List.cons_append, List.nil_append, if_true, if_false, e10, e01, Bool.false_eq_true, sh_195, sh_212, sh_227, p_195_47 hp, in15, cl15, mq_A K, eg, k_has, hb, if_b1, if_b0, p_195_25 hp, mt_k (mq_t K), nI_5b, e6, e7, mt_co (mq_t K) q hq, k_everybody (mq_t K), k_lossBy (mq_t K) (sAll_lt (mq_k K)), e4]
  unfold sKept
  by_cases z : g.testBit q = true
  · by_cases y : τ 7 q ≤ sLoss τ (sAll τ)
    · simp only [z, not_true_eq_false, if_false, decide_eq_true y, and_self, if_true, if_neg (show ¬ sLoss τ (sAll τ) < τ 7 q by omega)]
    · simp only [z, not_true_eq_false, if_false, decide_eq_false y, Bool.false_eq_true, and_false, if_pos (show sLoss τ (sAll τ) < τ 7 q by omega)]
  · simp only [z, Bool.false_eq_true, false_and, not_false_eq_true, if_true, if_false]
theorem b_demand {X : XT} {d T b f N : Nat} {h : HT} {τ : CT} {A : Nat → Int32} (H : CQ h T τ N A) (K : KQ h b f τ N A) (x w : Int32) : Pr X (d + 10) 93 [some (.ref 1), some (.int x), some (.int w), none] 238 [some (.ref 195), some (.int x), some (.int w)] h := by
  have h5 := o_dm (cq_k H)
  have hp := cq_p H
  have hn := cq_n H
  have hT := ct_T (cq_t H)
  have hbb := mt_b (mq_t K)
  obtain ⟨g, hg', eg⟩ := (cq_a H).2.1
  have hg := aGr_128 (cq_k H) hg'
  rcases ix_cases x (k := τ 0 2) (by omega) with ⟨m, hm, rfl, ix⟩ | ix
  · have e1 : m_in (nI m) 5 = true := q_in (by omega) (by decide)
    have e2 : (nI m).toNatClampNeg = m := q_cl (by omega)
    have e6 : m_in (nI (5 * b + m)) 10 = true := m_5b hbb hm h5
    have e7 : (nI (5 * b + m)).toNatClampNeg = 5 * b + m := q_cl (by omega)
    have hb := bit01 (show g < 128 by omega) (show m < 8 by omega)
    by_cases w0 : w = 0
    · refine Pr_pure (nI (τ 7 m)) (fun Q => ?_) (fun Q => ?_)
      · simp only [u93_0, u93_1, u93_2, u93_5, u93_8, u93_9, u93_10, u93_11, u93_14, u93_17, u93_18, u93_19, u93_20, u93_21, u93_22, u93_23, u93_52, u93_53, u93_56, u93_59, u93_60, u93_61, u93_62, u93_63, u93_66, u93_69, u93_70, u93_71, u93_72, u93_73, u93_74, u93_75, u93_76, u93_79, u93_80, u93_83, u93_84, u93_87, u93_90, u93_91, u93_94, u93_95, u93_96, u93_97, eq_self, q_nl0, q_nlI, q_nlR, not_false_eq_true, q_nz0, q_nz1, q_zv0, q_zv1, q_tl1, q_tl0, q_wif, q_swc, q_swn, List.cons_append, List.nil_append, if_true, if_false, e10, e01, Bool.false_eq_true, sh_1, sh_38, shT_0 hT, shT_8 hT, pT_11 hT hp, c_isDemand (cq_t H) (cq_T H), ix, cq_T H, p_1_3 hp, cq_g H, eg, hb, q_swc, q_swn, q_t0, q_t1, q_t2, q_t3, q_t4, q_t5, q_t6, eq_true w0, e1, e2, ct_co (cq_t H) m hm]
      · simp only [u238_0, u238_1, u238_2, u238_5, u238_8, u238_9, u238_10, u238_11, u238_40, u238_41, u238_44, u238_45, u238_46, u238_49, u238_50, u238_51, u238_52, u238_53, u238_54, u238_55, u238_58, u238_59, u238_60, u238_63, u238_64, u238_65, u238_66, u238_67, u238_68, u238_69, u238_72, u238_74, u238_75, u238_76, u238_77, u238_78, u238_79, u238_80, u238_81, u238_82, u238_85, u238_88, u238_89, u238_92, u238_93, u238_94, u238_95, eq_self, q_nl0, q_nlI, q_nlR, not_false_eq_true, q_nz0, q_nz1, q_zv0, q_zv1, q_tl1, q_tl0, q_wif, q_swc, q_swn, List.cons_append, List.nil_append, if_true, if_false, e10, e01, Bool.false_eq_true, sh_195, sh_212, k_isDemand (mq_t K), ix, q_swc, q_swn, q_t0, q_t1, q_t2, q_t3, q_t4, q_t5, q_t6, eq_true w0, p_195_25 hp, mt_k (mq_t K), nI_5b, e6, e7, mt_co (mq_t K) m hm]
    · by_cases w1 : w = 1
      · refine Pr_pure (nI (τ 8 m)) (fun Q => ?_) (fun Q => ?_)
        · simp only [u93_0, u93_1, u93_2, u93_5, u93_8, u93_9, u93_10, u93_11, u93_14, u93_17, u93_18, u93_19, u93_20, u93_21, u93_22, u93_23, u93_52, u93_53, u93_56, u93_59, u93_60, u93_61, u93_62, u93_63, u93_66, u93_69, u93_70, u93_71, u93_72, u93_73, u93_74, u93_75, u93_76, u93_79, u93_80, u93_83, u93_84, u93_87, u93_90, u93_91, u93_94, u93_95, u93_96, u93_97, eq_self, q_nl0, q_nlI, q_nlR, not_false_eq_true, q_nz0, q_nz1, q_zv0, q_zv1, q_tl1, q_tl0, q_wif, q_swc, q_swn, List.cons_append, List.nil_append, if_true, if_false, e10, e01, Bool.false_eq_true, sh_1, sh_38, shT_0 hT, shT_9 hT, pT_12 hT hp, c_isDemand (cq_t H) (cq_T H), ix, cq_T H, p_1_3 hp, cq_g H, eg, hb, q_swc, q_swn, q_t0, q_t1, q_t2, q_t3, q_t4, q_t5, q_t6, eq_false w0, eq_true w1, e1, e2, ct_wo (cq_t H) m hm]
        · simp only [u238_0, u238_1, u238_2, u238_5, u238_8, u238_9, u238_10, u238_11, u238_40, u238_41, u238_44, u238_45, u238_46, u238_49, u238_50, u238_51, u238_52, u238_53, u238_54, u238_55, u238_58, u238_59, u238_60, u238_63, u238_64, u238_65, u238_66, u238_67, u238_68, u238_69, u238_72, u238_74, u238_75, u238_76, u238_77, u238_78, u238_79, u238_80, u238_81, u238_82, u238_85, u238_88, u238_89, u238_92, u238_93, u238_94, u238_95, eq_self, q_nl0, q_nlI, q_nlR, not_false_eq_true, q_nz0, q_nz1, q_zv0, q_zv1, q_tl1, q_tl0, q_wif, q_swc, q_swn, List.cons_append, List.nil_append, if_true, if_false, e10, e01, Bool.false_eq_true, sh_195, sh_213, k_isDemand (mq_t K), ix, q_swc, q_swn, q_t0, q_t1, q_t2, q_t3, q_t4, q_t5, q_t6, eq_false w0, eq_true w1, p_195_26 hp, mt_k (mq_t K), nI_5b, e6, e7, mt_wo (mq_t K) m hm]
      · by_cases w2 : w = 2
        · refine Pr_pure (if g.testBit m = true then 1 else 0) (fun Q => ?_) (fun Q => ?_)
          · simp only [u93_0, u93_1, u93_2, u93_5, u93_8, u93_9, u93_10, u93_11, u93_14, u93_17, u93_18, u93_19, u93_20, u93_21, u93_22, u93_23, u93_52, u93_53, u93_56, u93_59, u93_60, u93_61, u93_62, u93_63, u93_66, u93_69, u93_70, u93_71, u93_72, u93_73, u93_74, u93_75, u93_76, u93_79, u93_80, u93_83, u93_84, u93_87, u93_90, u93_91, u93_94, u93_95, u93_96, u93_97, eq_self, q_nl0, q_nlI, q_nlR, not_false_eq_true, q_nz0, q_nz1, q_zv0, q_zv1, q_tl1, q_tl0, q_wif, q_swc, q_swn, List.cons_append, List.nil_append, if_true, if_false, e10, e01, Bool.false_eq_true, sh_1, sh_38, c_isDemand (cq_t H) (cq_T H), ix, p_1_3 hp, cq_g H, eg, hb, q_swc, q_swn, q_t0, q_t1, q_t2, q_t3, q_t4, q_t5, q_t6, eq_false w0, eq_false w1, eq_true w2]
          · simp only [u238_0, u238_1, u238_2, u238_5, u238_8, u238_9, u238_10, u238_11, u238_40, u238_41, u238_44, u238_45, u238_46, u238_49, u238_50, u238_51, u238_52, u238_53, u238_54, u238_55, u238_58, u238_59, u238_60, u238_63, u238_64, u238_65, u238_66, u238_67, u238_68, u238_69, u238_72, u238_74, u238_75, u238_76, u238_77, u238_78, u238_79, u238_80, u238_81, u238_82, u238_85, u238_88, u238_89, u238_92, u238_93, u238_94, u238_95, eq_self, q_nl0, q_nlI, q_nlR, not_false_eq_true, q_nz0, q_nz1, q_zv0, q_zv1, q_tl1, q_tl0, q_wif, q_swc, q_swn, List.cons_append, List.nil_append, if_true, if_false, e10, e01, Bool.false_eq_true, sh_195, sh_227, k_isDemand (mq_t K), ix, q_swc, q_swn, q_t0, q_t1, q_t2, q_t3, q_t4, q_t5, q_t6, eq_false w0, eq_false w1, eq_true w2, p_195_47 hp, in15, cl15, mq_A K, eg, hb]
        · by_cases w3 : w = 3
          · refine Pr_pure (if g.testBit m = true ∧ sKept τ m = true then 1 else 0) (fun Q => ?_) (fun Q => ?_)
            · simp only [u93_0, u93_1, u93_2, u93_5, u93_8, u93_9, u93_10, u93_11, u93_14, u93_17, u93_18, u93_19, u93_20, u93_21, u93_22, u93_23, u93_52, u93_53, u93_56, u93_59, u93_60, u93_61, u93_62, u93_63, u93_66, u93_69, u93_70, u93_71, u93_72, u93_73, u93_74, u93_75, u93_76, u93_79, u93_80, u93_83, u93_84, u93_87, u93_90, u93_91, u93_94, u93_95, u93_96, u93_97, eq_self, q_nl0, q_nlI, q_nlR, not_false_eq_true, q_nz0, q_nz1, q_zv0, q_zv1, q_tl1, q_tl0, q_wif, q_swc, q_swn, List.cons_append, List.nil_append, if_true, if_false, e10, e01, Bool.false_eq_true, sh_1, sh_38, shT_0 hT, c_isDemand (cq_t H) (cq_T H), ix, cq_T H, p_1_3 hp, cq_g H, eg, hb, q_swc, q_swn, q_t0, q_t1, q_t2, q_t3, q_t4, q_t5, q_t6, eq_false w0, eq_false w1, eq_false w2, eq_true w3, if_b1, c_kept (cq_t H) hm, if_b0]
              by_cases z : g.testBit m = true
              · by_cases y : sKept τ m = true
                · simp only [z, y, not_true_eq_false, if_false, and_self, if_true]
                · simp only [z, y, not_false_eq_true, Bool.false_eq_true, and_false, if_true, if_false]
              · simp only [z, Bool.false_eq_true, false_and, if_false]
            · simp only [u238_0, u238_1, u238_2, u238_5, u238_8, u238_9, u238_10, u238_11, u238_40, u238_41, u238_44, u238_45, u238_46, u238_49, u238_50, u238_51, u238_52, u238_53, u238_54, u238_55, u238_58, u238_59, u238_60, u238_63, u238_64, u238_65, u238_66, u238_67, u238_68, u238_69, u238_72, u238_74, u238_75, u238_76, u238_77, u238_78, u238_79, u238_80, u238_81, u238_82, u238_85, u238_88, u238_89, u238_92, u238_93, u238_94, u238_95, eq_self, q_nl0, q_nlI, q_nlR, not_false_eq_true, q_nz0, q_nz1, q_zv0, q_zv1, q_tl1, q_tl0, q_wif, q_swc, q_swn, List.cons_append, List.nil_append, if_true, if_false, e10, e01, Bool.false_eq_true, sh_195, sh_227, k_isDemand (mq_t K), ix, q_swc, q_swn, q_t0, q_t1, q_t2, q_t3, q_t4, q_t5, q_t6, eq_false w0, eq_false w1, eq_false w2, eq_true w3, k_keptOne K hg eg hm, if_b0]
              by_cases z : g.testBit m = true ∧ sKept τ m = true
              · simp only [z, not_true_eq_false, if_false, if_true, and_self]
              · simp only [z, not_false_eq_true, if_true, if_false]
          · refine Pr_pure (-1) (fun Q => ?_) (fun Q => ?_)
            · simp only [u93_0, u93_1, u93_2, u93_5, u93_8, u93_9, u93_10, u93_11, u93_14, u93_17, u93_18, u93_19, u93_20, u93_21, u93_22, u93_23, u93_52, u93_53, u93_56, u93_59, u93_60, u93_61, u93_62, u93_63, u93_66, u93_69, u93_70, u93_71, u93_72, u93_73, u93_74, u93_75, u93_76, u93_79, u93_80, u93_83, u93_84, u93_87, u93_90, u93_91, u93_94, u93_95, u93_96, u93_97, eq_self, q_nl0, q_nlI, q_nlR, not_false_eq_true, q_nz0, q_nz1, q_zv0, q_zv1, q_tl1, q_tl0, q_wif, q_swc, q_swn, List.cons_append, List.nil_append, if_true, if_false, e10, e01, Bool.false_eq_true, sh_1, sh_38, c_isDemand (cq_t H) (cq_T H), ix, p_1_3 hp, cq_g H, eg, hb, q_swc, q_swn, q_t0, q_t1, q_t2, q_t3, q_t4, q_t5, q_t6, eq_false w0, eq_false w1, eq_false w2, eq_false w3]
            · simp only [u238_0, u238_1, u238_2, u238_5, u238_8, u238_9, u238_10, u238_11, u238_40, u238_41, u238_44, u238_45, u238_46, u238_49, u238_50, u238_51, u238_52, u238_53, u238_54, u238_55, u238_58, u238_59, u238_60, u238_63, u238_64, u238_65, u238_66, u238_67, u238_68, u238_69, u238_72, u238_74, u238_75, u238_76, u238_77, u238_78, u238_79, u238_80, u238_81, u238_82, u238_85, u238_88, u238_89, u238_92, u238_93, u238_94, u238_95, eq_self, q_nl0, q_nlI, q_nlR, not_false_eq_true, q_nz0, q_nz1, q_zv0, q_zv1, q_tl1, q_tl0, q_wif, q_swc, q_swn, List.cons_append, List.nil_append, if_true, if_false, e10, e01, Bool.false_eq_true, sh_195, k_isDemand (mq_t K), ix, q_swc, q_swn, q_t0, q_t1, q_t2, q_t3, q_t4, q_t5, q_t6, eq_false w0, eq_false w1, eq_false w2, eq_false w3]
  · refine Pr_pure (-1) (fun Q => ?_) (fun Q => ?_)
    · simp only [u93_0, u93_1, u93_2, u93_5, u93_8, u93_9, eq_self, q_nl0, q_nlI, q_nlR, not_false_eq_true, q_nz0, q_nz1, q_zv0, q_zv1, q_tl1, q_tl0, q_wif, q_swc, q_swn, List.cons_append, List.nil_append, if_true, if_false, e10, e01, Bool.false_eq_true, sh_1, c_isDemand (cq_t H) (cq_T H), ix]
    · simp only [u238_0, u238_1, u238_2, u238_5, u238_8, u238_9, eq_self, q_nl0, q_nlI, q_nlR, not_false_eq_true, q_nz0, q_nz1, q_zv0, q_zv1, q_tl1, q_tl0, q_wif, q_swc, q_swn, List.cons_append, List.nil_append, if_true, if_false, e10, e01, Bool.false_eq_true, sh_195, k_isDemand (mq_t K), ix]
/-- granted, but not kept -/
def brL (τ : CT) (g : Nat) : Nat → Nat
  | 0 => 0
  | i + 1 => if g.testBit i = true ∧ sKept τ i = false then brL τ g i ||| 2 ^ i else brL τ g i
theorem brL_more {τ : CT} {g k : Nat} (hg : g < 2 ^ k) : ∀ j, brL τ g (k + j) = brL τ g k
  | 0 => rfl
  | j + 1 => by
    refine (if_neg ?_).trans (brL_more hg j)
    rintro ⟨w, _⟩
    have : k + j < k := bit_lt hg w
    omega
theorem b_broken {X : XT} {d T b f N : Nat} {h : HT} {τ : CT} {A : Nat → Int32} (H : CQ h T τ N A) (K : KQ h b f τ N A) : Pr X (d + 10) 100 [some (.ref 1), none, none] 245 [some (.ref 195), none, none] h := by
  have h5 := o_dm (cq_k H)
  have hp := cq_p H
  have hT := ct_T (cq_t H)
  have hbb := mt_b (mq_t K)
  obtain ⟨g, hg', eg⟩ := (cq_a H).2.1
  have hg := aGr_128 (cq_k H) hg'
  refine Pr_pure (nI (brL τ g (τ 0 2))) (fun Q => ?_) (fun Q => ?_)
  · rw [← brL_more hg' (5 - τ 0 2), show τ 0 2 + (5 - τ 0 2) = 5 by omega]
    simp only [u100_0, u100_1, u100_2, u100_3, eq_self, q_nl0, q_nlI, q_nlR, not_false_eq_true, q_nz0, q_nz1, q_zv0, q_zv1, q_tl1, q_tl0, q_wif, q_swc, q_swn, List.cons_append, List.nil_append, if_true, if_false, e10, e01, Bool.false_eq_true]
    refine (q_loop (fun i => wq X (d + 10) 100 4 [some (.ref 1), some (.int (nI (brL τ g i))), some (.int (nI i))] [] h Q) 5 ?_).trans ?_
    · intro i hi
      show wq X (d + 10) 100 4 _ _ _ _ = _
      rw [u100_4]
      have hb := bit01 (show g < 128 by omega) (show i < 8 by omega)
      have e2 : (nI i < 5) = True := eq_true (nI_lt (b := 5) (by omega) (by omega))
      have es : brL τ g (i + 1) = if g.testBit i = true ∧ sKept τ i = false then brL τ g i ||| 2 ^ i else brL τ g i := rfl
      rw [es]
      by_cases z : g.testBit i = true
      · have hq := bit_lt hg' z
        simp only [u100_5, u100_6, u100_9, u100_10, u100_13, u100_16, u100_17, u100_18, u100_19, u100_20, u100_21, u100_24, u100_25, u100_28, u100_29, u100_32, u100_35, u100_36, u100_37, u100_38, u100_39, u100_40, u100_41, u100_44, eq_self, q_nl0, q_nlI, q_nlR, not_false_eq_true, q_nz0, q_nz1, q_zv0, q_zv1, q_tl1, q_tl0, q_wif, q_swc, q_swn, List.cons_append, List.nil_append, if_true, if_false, e10, e01, Bool.false_eq_true, sh_1, sh_38, shT_0 hT, e2, p_1_3 hp, cq_g H, eg, hb, z, cq_T H, c_kept (cq_t H) hq, if_b0, nI_sh i (by omega), nI_or, nI_1]
        by_cases y : sKept τ i = true
        · simp only [y, not_true_eq_false, if_false, Bool.true_eq_false, and_false]
        · have y' : sKept τ i = false := by simpa using y
          simp only [y', Bool.false_eq_true, not_false_eq_true, if_true, and_self]
      · simp only [u100_5, u100_6, u100_9, u100_10, u100_13, u100_16, u100_17, u100_18, u100_19, u100_20, u100_21, u100_24, u100_25, u100_28, u100_29, u100_32, u100_35, u100_36, u100_37, u100_38, u100_39, u100_40, u100_41, u100_44, eq_self, q_nl0, q_nlI, q_nlR, not_false_eq_true, q_nz0, q_nz1, q_zv0, q_zv1, q_tl1, q_tl0, q_wif, q_swc, q_swn, List.cons_append, List.nil_append, if_true, if_false, e10, e01, Bool.false_eq_true, sh_1, sh_38, e2, p_1_3 hp, cq_g H, eg, hb, z, false_and, nI_1]
    · rw [u100_4]
      simp only [u100_5, u100_6, u100_9, u100_10, u100_13, u100_16, u100_17, u100_18, u100_19, u100_20, u100_21, u100_24, u100_25, u100_28, u100_29, u100_32, u100_35, u100_36, u100_37, u100_38, u100_39, u100_40, u100_41, u100_44, u100_47, u100_48, eq_self, q_nl0, q_nlI, q_nlR, not_false_eq_true, q_nz0, q_nz1, q_zv0, q_zv1, q_tl1, q_tl0, q_wif, q_swc, q_swn, List.cons_append, List.nil_append, if_true, if_false, e10, e01, Bool.false_eq_true, eq_false (show ¬ nI 5 < 5 by decide)]
  · simp only [u245_0, u245_1, u245_2, u245_3, eq_self, q_nl0, q_nlI, q_nlR, not_false_eq_true, q_nz0, q_nz1, q_zv0, q_zv1, q_tl1, q_tl0, q_wif, q_swc, q_swn, List.cons_append, List.nil_append, if_true, if_false, e10, e01, Bool.false_eq_true]
    refine (q_loop (fun i => wq X (d + 10) 245 4 [some (.ref 195), some (.int (nI (brL τ g i))), some (.int (nI i))] [] h Q) (τ 0 2) ?_).trans ?_
    · intro i hi
      show wq X (d + 10) 245 4 _ _ _ _ = _
      rw [u245_4]
      have hb := bit01 (show g < 128 by omega) (show i < 8 by omega)
      have e2 : (nI i < nI (τ 0 2)) = True := eq_true (nI_lt (by omega) (by omega))
      have es : brL τ g (i + 1) = if g.testBit i = true ∧ sKept τ i = false then brL τ g i ||| 2 ^ i else brL τ g i := rfl
      rw [es]
      simp only [u245_5, u245_6, u245_9, u245_10, u245_13, u245_14, u245_17, u245_18, u245_21, u245_23, u245_24, u245_25, u245_28, u245_31, u245_32, u245_33, u245_36, u245_39, u245_40, u245_41, u245_42, u245_43, u245_44, u245_45, u245_48, eq_self, q_nl0, q_nlI, q_nlR, not_false_eq_true, q_nz0, q_nz1, q_zv0, q_zv1, q_tl1, q_tl0, q_wif, q_swc, q_swn, List.cons_append, List.nil_append, if_true, if_false, e10, e01, Bool.false_eq_true, sh_195, sh_200, sh_227, p_195_13 hp, mt_k (mq_t K), bk_in (mq_t K), bk_cl (mq_t K), mt_dm (mq_t K), e2, p_195_47 hp, in15, cl15, mq_A K, eg, k_has, hb, if_b1, k_keptOne K hg eg hi, if_b0, nI_sh i (by omega), nI_or, nI_1]
      by_cases z : g.testBit i = true
      · by_cases y : sKept τ i = true
        · simp only [z, y, not_true_eq_false, if_false, Bool.true_eq_false, and_false, and_self]
        · have y' : sKept τ i = false := by simpa using y
          simp only [z, y', Bool.false_eq_true, not_false_eq_true, not_true_eq_false, if_true, if_false, and_false, and_self]
      · simp only [z, Bool.false_eq_true, not_false_eq_true, if_true, if_false, false_and]
    · rw [u245_4]
      simp only [u245_5, u245_6, u245_9, u245_10, u245_13, u245_14, u245_17, u245_18, u245_21, u245_23, u245_24, u245_25, u245_28, u245_31, u245_32, u245_33, u245_36, u245_39, u245_40, u245_41, u245_42, u245_43, u245_44, u245_45, u245_48, u245_51, u245_52, eq_self, q_nl0, q_nlI, q_nlR, not_false_eq_true, q_nz0, q_nz1, q_zv0, q_zv1, q_tl1, q_tl0, q_wif, q_swc, q_swn, List.cons_append, List.nil_append, if_true, if_false, e10, e01, Bool.false_eq_true, sh_195, sh_200, p_195_13 hp, mt_k (mq_t K), bk_in (mq_t K), bk_cl (mq_t K), mt_dm (mq_t K), eq_false (nI_nlt (Nat.le_refl (τ 0 2)) (by omega))]
