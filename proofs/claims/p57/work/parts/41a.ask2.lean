theorem a_craft0 {X : XT} {d T N : Nat} {h : HT} {τ : CT} {A : Nat → Int32} {m : Nat} {w : Int32} (H : CQ h T τ N A) (hm : m < τ 0 0) (w0 : w = 0) : An X (d + 10) 91 [some (.ref 1), some (.int (nI m)), some (.int w)] h (nI (τ 1 m)) := by
  have h4 := o_cr (cq_k H)
  have hp := cq_p H
  have hn := cq_n H
  have hT := ct_T (cq_t H)
  have h16 := sShort_16 (cq_k H) (aN A)
  have ix : ixB (nI m) (τ 0 0) = true := ixB_in hm (by omega)
  have e1 : m_in (nI m) 4 = true := q_in (by omega) (by decide)
  have e2 : (nI m).toNatClampNeg = m := q_cl (by omega)
  have hb := bit01 (show sShort τ (aN A) < 128 by omega) (show m < 8 by omega)
  have hs := sMen_lt (cq_k H) m
  have e8 : sMen τ m &&& (127 ^^^ aN A) < 128 := Nat.lt_of_le_of_lt Nat.and_le_left hs
  refine An_pure (fun Q => ?_)
  simp only [u91_0, u91_1, u91_2, u91_5, u91_8, u91_9, u91_10, u91_11, u91_44, u91_45, u91_48, u91_51, u91_52, u91_53, u91_54, u91_55, u91_58, u91_59, u91_60, u91_63, u91_66, u91_69, u91_70, u91_71, u91_74, u91_75, u91_78, u91_81, u91_84, u91_85, u91_86, u91_87, u91_88, u91_89, u91_90, u91_93, u91_96, u91_97, u91_98, u91_99, u91_100, u91_103, u91_106, u91_107, u91_108, u91_109, u91_110, eq_self, q_nl0, q_nlI, q_nlR, not_false_eq_true, q_nz0, q_nz1, q_zv0, q_zv1, q_tl1, q_tl0, q_wif, q_swc, q_swn, List.cons_append, List.nil_append, if_true, if_false, e10, e01, Bool.false_eq_true, sh_1, sh_38, shT_0 hT, shT_1 hT, pT_1 hT hp, c_isCraft (cq_t H) (cq_T H), ix, cq_T H, q_swc, q_swn, q_t0, q_t1, q_t2, q_t3, q_t4, q_t5, q_t6, eq_true w0, e1, e2, ct_ne (cq_t H) m hm]
theorem a_craft1 {X : XT} {d T N : Nat} {h : HT} {τ : CT} {A : Nat → Int32} {m : Nat} {w : Int32} (H : CQ h T τ N A) (hm : m < τ 0 0) (w1 : w = 1) : An X (d + 10) 91 [some (.ref 1), some (.int (nI m)), some (.int w)] h (nI (pcN (sMen τ m &&& (127 ^^^ aN A)))) := by
  have h4 := o_cr (cq_k H)
  have hp := cq_p H
  have hn := cq_n H
  have hT := ct_T (cq_t H)
  have h16 := sShort_16 (cq_k H) (aN A)
  have ix : ixB (nI m) (τ 0 0) = true := ixB_in hm (by omega)
  have e1 : m_in (nI m) 4 = true := q_in (by omega) (by decide)
  have e2 : (nI m).toNatClampNeg = m := q_cl (by omega)
  have hb := bit01 (show sShort τ (aN A) < 128 by omega) (show m < 8 by omega)
  have hs := sMen_lt (cq_k H) m
  have e8 : sMen τ m &&& (127 ^^^ aN A) < 128 := Nat.lt_of_le_of_lt Nat.and_le_left hs
  have w0 : ¬ w = 0 := by rw [w1]; decide
  refine An_pure (fun Q => ?_)
  simp only [u91_0, u91_1, u91_2, u91_5, u91_8, u91_9, u91_10, u91_11, u91_44, u91_45, u91_48, u91_51, u91_52, u91_53, u91_54, u91_55, u91_58, u91_59, u91_60, u91_63, u91_66, u91_69, u91_70, u91_71, u91_74, u91_75, u91_78, u91_81, u91_84, u91_85, u91_86, u91_87, u91_88, u91_89, u91_90, u91_93, u91_96, u91_97, u91_98, u91_99, u91_100, u91_103, u91_106, u91_107, u91_108, u91_109, u91_110, eq_self, q_nl0, q_nlI, q_nlR, not_false_eq_true, q_nz0, q_nz1, q_zv0, q_zv1, q_tl1, q_tl0, q_wif, q_swc, q_swn, List.cons_append, List.nil_append, if_true, if_false, e10, e01, Bool.false_eq_true, sh_1, sh_38, shT_0 hT, c_isCraft (cq_t H) (cq_T H), ix, cq_T H, p_1_3 hp, cq_o H, q_swc, q_swn, q_t0, q_t1, q_t2, q_t3, q_t4, q_t5, q_t6, eq_false w0, eq_true w1, c_handsOf (cq_t H) hn hm]
theorem a_craft2 {X : XT} {d T N : Nat} {h : HT} {τ : CT} {A : Nat → Int32} {m : Nat} {w : Int32} (H : CQ h T τ N A) (hm : m < τ 0 0) (w2 : w = 2) : An X (d + 10) 91 [some (.ref 1), some (.int (nI m)), some (.int w)] h (if (sShort τ (aN A)).testBit m = true then 1 else 0) := by
  have h4 := o_cr (cq_k H)
  have hp := cq_p H
  have hn := cq_n H
  have hT := ct_T (cq_t H)
  have h16 := sShort_16 (cq_k H) (aN A)
  have ix : ixB (nI m) (τ 0 0) = true := ixB_in hm (by omega)
  have e1 : m_in (nI m) 4 = true := q_in (by omega) (by decide)
  have e2 : (nI m).toNatClampNeg = m := q_cl (by omega)
  have hb := bit01 (show sShort τ (aN A) < 128 by omega) (show m < 8 by omega)
  have hs := sMen_lt (cq_k H) m
  have e8 : sMen τ m &&& (127 ^^^ aN A) < 128 := Nat.lt_of_le_of_lt Nat.and_le_left hs
  have w0 : ¬ w = 0 := by rw [w2]; decide
  have w1 : ¬ w = 1 := by rw [w2]; decide
  refine An_pure (fun Q => ?_)
  simp only [u91_0, u91_1, u91_2, u91_5, u91_8, u91_9, u91_10, u91_11, u91_44, u91_45, u91_48, u91_51, u91_52, u91_53, u91_54, u91_55, u91_58, u91_59, u91_60, u91_63, u91_66, u91_69, u91_70, u91_71, u91_74, u91_75, u91_78, u91_81, u91_84, u91_85, u91_86, u91_87, u91_88, u91_89, u91_90, u91_93, u91_96, u91_97, u91_98, u91_99, u91_100, u91_103, u91_106, u91_107, u91_108, u91_109, u91_110, eq_self, q_nl0, q_nlI, q_nlR, not_false_eq_true, q_nz0, q_nz1, q_zv0, q_zv1, q_tl1, q_tl0, q_wif, q_swc, q_swn, List.cons_append, List.nil_append, if_true, if_false, e10, e01, Bool.false_eq_true, sh_1, sh_38, shT_0 hT, c_isCraft (cq_t H) (cq_T H), ix, cq_T H, p_1_3 hp, cq_o H, q_swc, q_swn, q_t0, q_t1, q_t2, q_t3, q_t4, q_t5, q_t6, eq_false w0, eq_false w1, eq_true w2, c_shortBy (cq_t H) hn, hb]
theorem a_craft3 {X : XT} {d T N : Nat} {h : HT} {τ : CT} {A : Nat → Int32} {m : Nat} {w : Int32} (H : CQ h T τ N A) (hm : m < τ 0 0) (w3 : w = 3) : An X (d + 10) 91 [some (.ref 1), some (.int (nI m)), some (.int w)] h (nI (τ 2 m)) := by
  have h4 := o_cr (cq_k H)
  have hp := cq_p H
  have hn := cq_n H
  have hT := ct_T (cq_t H)
  have h16 := sShort_16 (cq_k H) (aN A)
  have ix : ixB (nI m) (τ 0 0) = true := ixB_in hm (by omega)
  have e1 : m_in (nI m) 4 = true := q_in (by omega) (by decide)
  have e2 : (nI m).toNatClampNeg = m := q_cl (by omega)
  have hb := bit01 (show sShort τ (aN A) < 128 by omega) (show m < 8 by omega)
  have hs := sMen_lt (cq_k H) m
  have e8 : sMen τ m &&& (127 ^^^ aN A) < 128 := Nat.lt_of_le_of_lt Nat.and_le_left hs
  have w0 : ¬ w = 0 := by rw [w3]; decide
  have w1 : ¬ w = 1 := by rw [w3]; decide
  have w2 : ¬ w = 2 := by rw [w3]; decide
  refine An_pure (fun Q => ?_)
  simp only [u91_0, u91_1, u91_2, u91_5, u91_8, u91_9, u91_10, u91_11, u91_44, u91_45, u91_48, u91_51, u91_52, u91_53, u91_54, u91_55, u91_58, u91_59, u91_60, u91_63, u91_66, u91_69, u91_70, u91_71, u91_74, u91_75, u91_78, u91_81, u91_84, u91_85, u91_86, u91_87, u91_88, u91_89, u91_90, u91_93, u91_96, u91_97, u91_98, u91_99, u91_100, u91_103, u91_106, u91_107, u91_108, u91_109, u91_110, eq_self, q_nl0, q_nlI, q_nlR, not_false_eq_true, q_nz0, q_nz1, q_zv0, q_zv1, q_tl1, q_tl0, q_wif, q_swc, q_swn, List.cons_append, List.nil_append, if_true, if_false, e10, e01, Bool.false_eq_true, sh_1, sh_38, shT_0 hT, shT_2 hT, pT_2 hT hp, c_isCraft (cq_t H) (cq_T H), ix, cq_T H, q_swc, q_swn, q_t0, q_t1, q_t2, q_t3, q_t4, q_t5, q_t6, eq_false w0, eq_false w1, eq_false w2, eq_true w3, e1, e2, ct_lo (cq_t H) m hm]
theorem a_craft4 {X : XT} {d T N : Nat} {h : HT} {τ : CT} {A : Nat → Int32} {m : Nat} {w : Int32} (H : CQ h T τ N A) (hm : m < τ 0 0) (w4 : w = 4) : An X (d + 10) 91 [some (.ref 1), some (.int (nI m)), some (.int w)] h (nI (sMen τ m)) := by
  have h4 := o_cr (cq_k H)
  have hp := cq_p H
  have hn := cq_n H
  have hT := ct_T (cq_t H)
  have h16 := sShort_16 (cq_k H) (aN A)
  have ix : ixB (nI m) (τ 0 0) = true := ixB_in hm (by omega)
  have e1 : m_in (nI m) 4 = true := q_in (by omega) (by decide)
  have e2 : (nI m).toNatClampNeg = m := q_cl (by omega)
  have hb := bit01 (show sShort τ (aN A) < 128 by omega) (show m < 8 by omega)
  have hs := sMen_lt (cq_k H) m
  have e8 : sMen τ m &&& (127 ^^^ aN A) < 128 := Nat.lt_of_le_of_lt Nat.and_le_left hs
  have w0 : ¬ w = 0 := by rw [w4]; decide
  have w1 : ¬ w = 1 := by rw [w4]; decide
  have w2 : ¬ w = 2 := by rw [w4]; decide
  have w3 : ¬ w = 3 := by rw [w4]; decide
  refine An_pure (fun Q => ?_)
  simp only [u91_0, u91_1, u91_2, u91_5, u91_8, u91_9, u91_10, u91_11, u91_44, u91_45, u91_48, u91_51, u91_52, u91_53, u91_54, u91_55, u91_58, u91_59, u91_60, u91_63, u91_66, u91_69, u91_70, u91_71, u91_74, u91_75, u91_78, u91_81, u91_84, u91_85, u91_86, u91_87, u91_88, u91_89, u91_90, u91_93, u91_96, u91_97, u91_98, u91_99, u91_100, u91_103, u91_106, u91_107, u91_108, u91_109, u91_110, eq_self, q_nl0, q_nlI, q_nlR, not_false_eq_true, q_nz0, q_nz1, q_zv0, q_zv1, q_tl1, q_tl0, q_wif, q_swc, q_swn, List.cons_append, List.nil_append, if_true, if_false, e10, e01, Bool.false_eq_true, sh_1, sh_38, shT_0 hT, shT_3 hT, pT_3 hT hp, c_isCraft (cq_t H) (cq_T H), ix, cq_T H, q_swc, q_swn, q_t0, q_t1, q_t2, q_t3, q_t4, q_t5, q_t6, eq_false w0, eq_false w1, eq_false w2, eq_false w3, eq_true w4, e1, e2, ct_me (cq_t H) m hm]
theorem a_demand0 {X : XT} {d T N : Nat} {h : HT} {τ : CT} {A : Nat → Int32} {m g : Nat} {w : Int32} (H : CQ h T τ N A) (hm : m < τ 0 2) (hg' : g < 2 ^ τ 0 2) (eg : A 15 = nI g) (w0 : w = 0) : An X (d + 10) 93 [some (.ref 1), some (.int (nI m)), some (.int w), none] h (nI (τ 7 m)) := by
  have h5 := o_dm (cq_k H)
  have hp := cq_p H
  have hn := cq_n H
  have hT := ct_T (cq_t H)
  have hg := aGr_128 (cq_k H) hg'
  have ix : ixB (nI m) (τ 0 2) = true := ixB_in hm (by omega)
  have e1 : m_in (nI m) 5 = true := q_in (by omega) (by decide)
  have e2 : (nI m).toNatClampNeg = m := q_cl (by omega)
  have hb := bit01 (show g < 128 by omega) (show m < 8 by omega)
  refine An_pure (fun Q => ?_)
  simp only [u93_0, u93_1, u93_2, u93_5, u93_8, u93_9, u93_10, u93_11, u93_14, u93_17, u93_18, u93_19, u93_20, u93_21, u93_22, u93_23, u93_52, u93_53, u93_56, u93_59, u93_60, u93_61, u93_62, u93_63, u93_66, u93_69, u93_70, u93_71, u93_72, u93_73, u93_74, u93_75, u93_76, u93_79, u93_80, u93_83, u93_84, u93_87, u93_90, u93_91, u93_94, u93_95, u93_96, u93_97, eq_self, q_nl0, q_nlI, q_nlR, not_false_eq_true, q_nz0, q_nz1, q_zv0, q_zv1, q_tl1, q_tl0, q_wif, q_swc, q_swn, List.cons_append, List.nil_append, if_true, if_false, e10, e01, Bool.false_eq_true, sh_1, sh_38, shT_0 hT, shT_8 hT, pT_11 hT hp, c_isDemand (cq_t H) (cq_T H), ix, cq_T H, p_1_3 hp, cq_g H, eg, hb, q_swc, q_swn, q_t0, q_t1, q_t2, q_t3, q_t4, q_t5, q_t6, eq_true w0, e1, e2, ct_co (cq_t H) m hm]
theorem a_demand1 {X : XT} {d T N : Nat} {h : HT} {τ : CT} {A : Nat → Int32} {m g : Nat} {w : Int32} (H : CQ h T τ N A) (hm : m < τ 0 2) (hg' : g < 2 ^ τ 0 2) (eg : A 15 = nI g) (w1 : w = 1) : An X (d + 10) 93 [some (.ref 1), some (.int (nI m)), some (.int w), none] h (nI (τ 8 m)) := by
  have h5 := o_dm (cq_k H)
  have hp := cq_p H
  have hn := cq_n H
  have hT := ct_T (cq_t H)
  have hg := aGr_128 (cq_k H) hg'
  have ix : ixB (nI m) (τ 0 2) = true := ixB_in hm (by omega)
  have e1 : m_in (nI m) 5 = true := q_in (by omega) (by decide)
  have e2 : (nI m).toNatClampNeg = m := q_cl (by omega)
  have hb := bit01 (show g < 128 by omega) (show m < 8 by omega)
  have w0 : ¬ w = 0 := by rw [w1]; decide
  refine An_pure (fun Q => ?_)
  simp only [u93_0, u93_1, u93_2, u93_5, u93_8, u93_9, u93_10, u93_11, u93_14, u93_17, u93_18, u93_19, u93_20, u93_21, u93_22, u93_23, u93_52, u93_53, u93_56, u93_59, u93_60, u93_61, u93_62, u93_63, u93_66, u93_69, u93_70, u93_71, u93_72, u93_73, u93_74, u93_75, u93_76, u93_79, u93_80, u93_83, u93_84, u93_87, u93_90, u93_91, u93_94, u93_95, u93_96, u93_97, eq_self, q_nl0, q_nlI, q_nlR, not_false_eq_true, q_nz0, q_nz1, q_zv0, q_zv1, q_tl1, q_tl0, q_wif, q_swc, q_swn, List.cons_append, List.nil_append, if_true, if_false, e10, e01, Bool.false_eq_true, sh_1, sh_38, shT_0 hT, shT_9 hT, pT_12 hT hp, c_isDemand (cq_t H) (cq_T H), ix, cq_T H, p_1_3 hp, cq_g H, eg, hb, q_swc, q_swn, q_t0, q_t1, q_t2, q_t3, q_t4, q_t5, q_t6, eq_false w0, eq_true w1, e1, e2, ct_wo (cq_t H) m hm]
theorem a_demand2 {X : XT} {d T N : Nat} {h : HT} {τ : CT} {A : Nat → Int32} {m g : Nat} {w : Int32} (H : CQ h T τ N A) (hm : m < τ 0 2) (hg' : g < 2 ^ τ 0 2) (eg : A 15 = nI g) (w2 : w = 2) : An X (d + 10) 93 [some (.ref 1), some (.int (nI m)), some (.int w), none] h (if g.testBit m = true then 1 else 0) := by
  have h5 := o_dm (cq_k H)
  have hp := cq_p H
  have hn := cq_n H
  have hT := ct_T (cq_t H)
  have hg := aGr_128 (cq_k H) hg'
  have ix : ixB (nI m) (τ 0 2) = true := ixB_in hm (by omega)
  have e1 : m_in (nI m) 5 = true := q_in (by omega) (by decide)
  have e2 : (nI m).toNatClampNeg = m := q_cl (by omega)
  have hb := bit01 (show g < 128 by omega) (show m < 8 by omega)
  have w0 : ¬ w = 0 := by rw [w2]; decide
  have w1 : ¬ w = 1 := by rw [w2]; decide
  refine An_pure (fun Q => ?_)
  simp only [u93_0, u93_1, u93_2, u93_5, u93_8, u93_9, u93_10, u93_11, u93_14, u93_17, u93_18, u93_19, u93_20, u93_21, u93_22, u93_23, u93_52, u93_53, u93_56, u93_59, u93_60, u93_61, u93_62, u93_63, u93_66, u93_69, u93_70, u93_71, u93_72, u93_73, u93_74, u93_75, u93_76, u93_79, u93_80, u93_83, u93_84, u93_87, u93_90, u93_91, u93_94, u93_95, u93_96, u93_97, eq_self, q_nl0, q_nlI, q_nlR, not_false_eq_true, q_nz0, q_nz1, q_zv0, q_zv1, q_tl1, q_tl0, q_wif, q_swc, q_swn, List.cons_append, List.nil_append, if_true, if_false, e10, e01, Bool.false_eq_true, sh_1, sh_38, c_isDemand (cq_t H) (cq_T H), ix, p_1_3 hp, cq_g H, eg, hb, q_swc, q_swn, q_t0, q_t1, q_t2, q_t3, q_t4, q_t5, q_t6, eq_false w0, eq_false w1, eq_true w2]
theorem a_demand3 {X : XT} {d T N : Nat} {h : HT} {τ : CT} {A : Nat → Int32} {m g : Nat} {w : Int32} (H : CQ h T τ N A) (hm : m < τ 0 2) (hg' : g < 2 ^ τ 0 2) (eg : A 15 = nI g) (w3 : w = 3) : An X (d + 10) 93 [some (.ref 1), some (.int (nI m)), some (.int w), none] h (if g.testBit m = true ∧ sKept τ m = true then 1 else 0) := by
  have h5 := o_dm (cq_k H)
  have hp := cq_p H
  have hn := cq_n H
  have hT := ct_T (cq_t H)
  have hg := aGr_128 (cq_k H) hg'
  have ix : ixB (nI m) (τ 0 2) = true := ixB_in hm (by omega)
  have e1 : m_in (nI m) 5 = true := q_in (by omega) (by decide)
  have e2 : (nI m).toNatClampNeg = m := q_cl (by omega)
  have hb := bit01 (show g < 128 by omega) (show m < 8 by omega)
  have w0 : ¬ w = 0 := by rw [w3]; decide
  have w1 : ¬ w = 1 := by rw [w3]; decide
  have w2 : ¬ w = 2 := by rw [w3]; decide
  refine An_pure (fun Q => ?_)
  simp only [u93_0, u93_1, u93_2, u93_5, u93_8, u93_9, u93_10, u93_11, u93_14, u93_17, u93_18, u93_19, u93_20, u93_21, u93_22, u93_23, u93_52, u93_53, u93_56, u93_59, u93_60, u93_61, u93_62, u93_63, u93_66, u93_69, u93_70, u93_71, u93_72, u93_73, u93_74, u93_75, u93_76, u93_79, u93_80, u93_83, u93_84, u93_87, u93_90, u93_91, u93_94, u93_95, u93_96, u93_97, eq_self, q_nl0, q_nlI, q_nlR, not_false_eq_true, q_nz0, q_nz1, q_zv0, q_zv1, q_tl1, q_tl0, q_wif, q_swc, q_swn, List.cons_append, List.nil_append, if_true, if_false, e10, e01, Bool.false_eq_true, sh_1, sh_38, shT_0 hT, c_isDemand (cq_t H) (cq_T H), ix, cq_T H, p_1_3 hp, cq_g H, eg, hb, q_swc, q_swn, q_t0, q_t1, q_t2, q_t3, q_t4, q_t5, q_t6, eq_false w0, eq_false w1, eq_false w2, eq_true w3, if_b1, c_kept (cq_t H) hm, if_b0]
  by_cases z : g.testBit m = true
  · by_cases y : sKept τ m = true
    · simp only [z, y, not_true_eq_false, if_false, and_self, if_true]
    · simp only [z, y, not_false_eq_true, Bool.false_eq_true, and_false, if_true, if_false]
  · simp only [z, Bool.false_eq_true, false_and, if_false]
theorem a_broken {X : XT} {d T N : Nat} {h : HT} {τ : CT} {A : Nat → Int32} {g : Nat} (H : CQ h T τ N A) (hg' : g < 2 ^ τ 0 2) (eg : A 15 = nI g) : An X (d + 10) 100 [some (.ref 1), none, none] h (nI (brL τ g (τ 0 2))) := by
  have h5 := o_dm (cq_k H)
  have hp := cq_p H
  have hT := ct_T (cq_t H)
  have hg := aGr_128 (cq_k H) hg'
  refine An_pure (fun Q => ?_)
  rw [← brL_more hg' (5 - τ 0 2), show τ 0 2 + (5 - τ 0 2) = 5 by omega]
  simp only [u100_0, u100_1, u100_2, u100_3, eq_self, q_nl0, q_nlI, q_nlR, not_false_eq_true, q_nz0, q_nz1, q_zv0, q_zv1, q_tl1, q_tl0, q_wif, q_swc, q_swn, List.cons_append, List.nil_append, if_true, if_false, e10, e01, Bool.false_eq_true]
  refine (q_loop (fun i => wq X (d + 10) 100 4 [some (.ref 1), some (.int (nI (brL τ g i))), some (.int (nI i))] [] h Q) 5 ?_).trans ?_
  · intro i hi
    show wq X (d + 10) 100 4 _ _ _ _ = _
    rw [u100_4]
    have hb := bit01 (show g < 128 by omega) (show i < 8 by omega)
    have e2 : (nI i < 5) = True := eq_true (nI_lt (b := 5) (by omega) (by omega))
    have es : brL τ g (i + 1) = if g.testBit i = true ∧ sKept τ i = false then brL τ g i ||| 2 ^ i else brL τ g i := rfl
    rw [es]
    by_cases z : g.testBit i = true
    · have hq := bit_lt hg' z
      simp only [u100_5, u100_6, u100_9, u100_10, u100_13, u100_16, u100_17, u100_18, u100_19, u100_20, u100_21, u100_24, u100_25, u100_28, u100_29, u100_32, u100_35, u100_36, u100_37, u100_38, u100_39, u100_40, u100_41, u100_44, eq_self, q_nl0, q_nlI, q_nlR, not_false_eq_true, q_nz0, q_nz1, q_zv0, q_zv1, q_tl1, q_tl0, q_wif, q_swc, q_swn, List.cons_append, List.nil_append, if_true, if_false, e10, e01, Bool.false_eq_true, sh_1, sh_38, shT_0 hT, e2, p_1_3 hp, cq_g H, eg, hb, z, cq_T H, c_kept (cq_t H) hq, if_b0, nI_sh i (by omega), nI_or, nI_1]
      by_cases y : sKept τ i = true
      · simp only [y, not_true_eq_false, if_false, Bool.true_eq_false, and_false]
      · have y' : sKept τ i = false := by simpa using y
        simp only [y', Bool.false_eq_true, not_false_eq_true, if_true, and_self]
    · simp only [u100_5, u100_6, u100_9, u100_10, u100_13, u100_16, u100_17, u100_18, u100_19, u100_20, u100_21, u100_24, u100_25, u100_28, u100_29, u100_32, u100_35, u100_36, u100_37, u100_38, u100_39, u100_40, u100_41, u100_44, eq_self, q_nl0, q_nlI, q_nlR, not_false_eq_true, q_nz0, q_nz1, q_zv0, q_zv1, q_tl1, q_tl0, q_wif, q_swc, q_swn, List.cons_append, List.nil_append, if_true, if_false, e10, e01, Bool.false_eq_true, sh_1, sh_38, e2, p_1_3 hp, cq_g H, eg, hb, z, false_and, nI_1]
  · rw [u100_4]
    simp only [u100_5, u100_6, u100_9, u100_10, u100_13, u100_16, u100_17, u100_18, u100_19, u100_20, u100_21, u100_24, u100_25, u100_28, u100_29, u100_32, u100_35, u100_36, u100_37, u100_38, u100_39, u100_40, u100_41, u100_44, u100_47, u100_48, eq_self, q_nl0, q_nlI, q_nlR, not_false_eq_true, q_nz0, q_nz1, q_zv0, q_zv1, q_tl1, q_tl0, q_wif, q_swc, q_swn, List.cons_append, List.nil_append, if_true, if_false, e10, e01, Bool.false_eq_true, eq_false (show ¬ nI 5 < 5 by decide)]
