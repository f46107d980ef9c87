/-! who goes back -/
def sU (τ : CT) (n : Nat) (l y : Int32) (m : Nat) : UT := (l, nI (τ 5 m), nI (τ 6 m), nI (pcN n) - 1, y, nI (pcN (sShort τ n)))
def sGoes (τ : CT) (n : Nat) (l y : Int32) (m : Nat) : Bool := if τ 0 9 = 0 then decide (l = 0) || decide (nI (pcN n) - 1 < nI (τ 6 m)) else decide (fVal τ (sU τ n l y m) ≠ 0)
def hGo (h : HT) (T : Nat) (τ : CT) (u : UT) : HT := if τ 0 9 = 0 then h else hG h T 0 (fC τ u (m_gI h (T + 12)) (τ 0 9))
theorem c_isTold {X : XT} {d T : Nat} {h : HT} {Q : QT} {τ : CT} (H : CTown h T τ) (F : fOk τ) : wq X d 85 0 [some (.ref (T + 10))] [] h Q = Q (some (.int (if τ 0 9 = 0 then 0 else 1))) h := by
  have hl := F.1
  have e1 : (0 < nI (τ 0 9)) = (0 < τ 0 9) := propext (nI_ltI (a := 0) (by omega) (by omega))
  simp only [u85_0, u85_1, u85_4, u85_7, u85_8, u85_11, u85_12, eq_self, q_nl0, q_nlI, q_nlR, not_false_eq_true, q_nz0, q_nz1, q_zv0, q_zv1, q_tl1, q_tl0, q_wif, q_swc, q_swn, List.cons_append, List.nil_append, shT_10 (ct_T H), ct_fl H, e1]
  by_cases z : τ 0 9 = 0
  · rw [if_neg (by omega), if_pos z]
  · rw [if_pos (by omega), if_neg z]
theorem c_goesBack {X : XT} {d T a n m : Nat} {h : HT} {Q : QT} {τ : CT} (H : CTown h T τ) (F : fOk τ) (ha : isS a) (hn : n < 128) (ho : m_gI h a 0 = nI n) (hm : m < τ 0 1) : wq X (d + 2) 84 0 [some (.ref T), some (.ref a), some (.int (nI m)), none, none, none] [] h Q = Q (some (.int (if sGoes τ n (m_gI h (a + 2) m) (m_gI h (a + 1) m) m = true then 1 else 0))) (hGo h T τ (sU τ n (m_gI h (a + 2) m) (m_gI h (a + 1) m) m)) := by
  have hT := ct_T H
  have hp := ct_p H
  have h7 := o_mn (ct_ok H)
  have e1 : (nI m < 0) = False := eq_false (nI_pos (by omega))
  have e2 : (nI m < 7) = True := eq_true (nI_lt (b := 7) (by omega) (by omega))
  have e3 : m_in (nI m) 7 = true := q_in (by omega) (by decide)
  have e4 : (nI m).toNatClampNeg = m := q_cl (by omega)
  have h16 := sShort_16 (ct_ok H) n
  simp only [u84_0, u84_1, u84_4, u84_5, u84_7, u84_10, u84_11, u84_12, u84_13, u84_16, u84_19, u84_20, u84_21, u84_22, u84_23, u84_26, u84_27, u84_28, u84_30, u84_31, u84_34, eq_self, q_nl0, q_nlI, q_nlR, not_false_eq_true, q_nz0, q_nz1, q_zv0, q_zv1, q_tl1, q_tl0, q_wif, q_swc, q_swn, List.cons_append, List.nil_append, shS_0 ha, shS_2 ha, shT_0 hT, shT_10 hT, pT_13 hT hp, pS_2 ha hp, ho, c_bitCount hn, e1, e2, e3, e4, if_true, if_false, c_isTold H F]
  by_cases z : τ 0 9 = 0
  · rw [if_pos z]
    unfold hGo sGoes
    rw [if_pos z, if_pos z]
    simp only [u84_37, u84_40, u84_42, u84_45, u84_46, u84_47, u84_50, u84_51, u84_52, u84_55, u84_56, u84_59, u84_60, eq_self, q_nl0, q_nlI, q_nlR, not_false_eq_true, q_nz0, q_nz1, q_zv0, q_zv1, q_tl1, q_tl0, q_wif, q_swc, q_swn, List.cons_append, List.nil_append, shT_0 hT, shT_7 hT, pT_8 hT hp, e3, e4, ct_ot H m hm, if_true]
    by_cases y : m_gI h (a + 2) m = 0
    · simp only [y, if_true, decide_true, Bool.true_or]
    · by_cases w : nI (pcN n) - 1 < nI (τ 6 m)
      · simp only [y, w, if_true, if_false, decide_true, Bool.or_true]
      · simp only [y, w, if_false, decide_false, Bool.or_false, Bool.false_eq_true]
  · rw [if_neg z]
    unfold hGo sGoes
    rw [if_neg z, if_neg z]
    simp only [u84_37, u84_61, u84_62, u84_63, u84_66, u84_69, u84_72, u84_74, u84_75, u84_78, u84_80, u84_81, u84_84, u84_85, u84_86, u84_87, u84_90, u84_91, u84_92, u84_93, u84_94, u84_97, u84_98, u84_99, u84_101, eq_self, q_nl0, q_nlI, q_nlR, not_false_eq_true, q_nz0, q_nz1, q_zv0, q_zv1, q_tl1, q_tl0, q_wif, q_swc, q_swn, List.cons_append, List.nil_append, eq_false (show ¬ (1 : Int32) = 0 by decide), if_false, shS_0 ha, shS_1 ha, shT_0 hT, shT_10 hT, shT_6 hT, shT_7 hT, pT_7 hT hp, pT_8 hT hp, pS_1 ha hp, pT_13 hT hp, ho, c_shortBy H hn, c_bitCount (show sShort τ n < 128 by omega), e3, e4, ct_ot H m hm, ct_de H m hm, c_valueOf H F (Nat.pos_of_ne_zero z)]
    simp only [u84_104, u84_107, u84_108, u84_111, u84_112, eq_self, q_nl0, q_nlI, q_nlR, not_false_eq_true, q_nz0, q_nz1, q_zv0, q_zv1, q_tl1, q_tl0, q_wif, q_swc, q_swn, List.cons_append, List.nil_append]
    unfold sU
    split
    · next y => simp only [y, ne_eq, not_true, decide_false, Bool.false_eq_true, if_false]
    · next y => simp only [y, ne_eq, not_false_eq_true, decide_true, if_true]
