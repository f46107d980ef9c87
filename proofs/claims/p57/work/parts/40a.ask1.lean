/-! WHAT THE CLASS ANSWERS, one answer at a time -/
/-- asked, the class says v, and nothing that is read has changed -/
def An (X : XT) (d M : Nat) (L : LT) (h : HT) (v : Int32) : Prop := ∃ g, Same h g ∧ ∀ Q : QT, wq X d M 0 L [] h Q = Q (some (.int v)) g
theorem An_pure {X : XT} {d M : Nat} {L : LT} {h : HT} {v : Int32} (a : ∀ Q : QT, wq X d M 0 L [] h Q = Q (some (.int v)) h) : An X d M L h v := ⟨h, Same_rf, a⟩
theorem ixB_in {m k : Nat} (hm : m < k) (hk : k < 2 ^ 31) : ixB (nI m) k = true := by
  rcases ix_cases (nI m) hk with ⟨m', _, _, ix⟩ | ix
  · exact ix
  · unfold ixB at ix
    rw [nI_toInt (show m < 2 ^ 31 by omega)] at ix
    simp only [decide_eq_false_iff_not] at ix
    omega
theorem a_out {X : XT} {d T N : Nat} {h : HT} {τ : CT} {A : Nat → Int32} (H : CQ h T τ N A) : An X (d + 10) 98 [some (.ref 1)] h (nI (aN A)) := by
  refine An_pure (fun Q => ?_)
  simp only [u98_0, u98_1, u98_4, u98_7, eq_self, q_nl0, q_nlI, q_nlR, not_false_eq_true, q_nz0, q_nz1, q_zv0, q_zv1, q_tl1, q_tl0, q_wif, q_swc, q_swn, List.cons_append, List.nil_append, if_true, if_false, e10, e01, Bool.false_eq_true, sh_1, sh_38, p_1_3 (cq_p H), cq_o H]
theorem a_loss0 {X : XT} {d T N : Nat} {h : HT} {τ : CT} {A : Nat → Int32} {w : Int32} (H : CQ h T τ N A) (w0 : w = 0) : An X (d + 10) 99 [some (.ref 1), some (.int w)] h (nI (sLoss τ (aN A))) := by
  refine An_pure (fun Q => ?_)
  simp only [u99_0, u99_1, u99_28, u99_29, u99_32, u99_33, u99_36, u99_39, u99_42, u99_43, u99_44, u99_47, u99_48, u99_51, u99_54, u99_57, u99_58, u99_59, eq_self, q_nl0, q_nlI, q_nlR, not_false_eq_true, q_nz0, q_nz1, q_zv0, q_zv1, q_tl1, q_tl0, q_wif, q_swc, q_swn, List.cons_append, List.nil_append, if_true, if_false, e10, e01, Bool.false_eq_true, sh_1, sh_38, q_t0, eq_true w0, p_1_3 (cq_p H), cq_T H, cq_o H, c_lossBy (cq_t H) (cq_n H), shT_0 (ct_T (cq_t H))]
theorem a_loss1 {X : XT} {d T N : Nat} {h : HT} {τ : CT} {A : Nat → Int32} {w : Int32} (H : CQ h T τ N A) (w1 : w = 1) : An X (d + 10) 99 [some (.ref 1), some (.int w)] h (nI (sLoss τ (sAll τ))) := by
  have w0 : ¬ w = 0 := by rw [w1]; decide
  refine An_pure (fun Q => ?_)
  simp only [u99_0, u99_1, u99_28, u99_29, u99_32, u99_33, u99_36, u99_39, u99_42, u99_43, u99_44, u99_47, u99_48, u99_51, u99_54, u99_57, u99_58, u99_59, eq_self, q_nl0, q_nlI, q_nlR, not_false_eq_true, q_nz0, q_nz1, q_zv0, q_zv1, q_tl1, q_tl0, q_wif, q_swc, q_swn, List.cons_append, List.nil_append, if_true, if_false, e10, e01, Bool.false_eq_true, sh_1, sh_38, q_t0, q_t1, eq_false w0, eq_true w1, cq_T H, c_every (cq_t H), c_lossBy (cq_t H) (sAll_lt (cq_k H)), shT_0 (ct_T (cq_t H))]
theorem a_man0 {X : XT} {d T N : Nat} {h : HT} {τ : CT} {A : Nat → Int32} {m : Nat} {w : Int32} (H : CQ h T τ N A) (hm : m < τ 0 1) (w0 : w = 0) : An X (d + 10) 81 [some (.ref 1), some (.int (nI m)), some (.int w), none] h (if (aN A).testBit m = true then 1 else 0) := by
  have h7 := o_mn (cq_k H)
  have hp := cq_p H
  have hn := cq_n H
  have hT := ct_T (cq_t H)
  have ix : ixB (nI m) (τ 0 1) = true := ixB_in hm (by omega)
  have e1 : m_in (nI m) 7 = true := q_in (by omega) (by decide)
  have e2 : (nI m).toNatClampNeg = m := q_cl (by omega)
  have e3 : m_in (nI m) 20 = true := q_in (by omega) (by decide)
  have e4 : m_in (nI (7 + m)) 20 = true := q_in (by omega) (by decide)
  have e5 : (nI (7 + m)).toNatClampNeg = 7 + m := q_cl (by omega)
  have s38 : (m_sh (KS X) 38).1 = 7 := by rw [sh_38]
  have hb := bit01 hn (show m < 8 by omega)
  have hio := fun (Q : QT) => c_isOut (X := X) (d := d + 9) (h := h) (Q := Q) (x := nI m) s38
  simp only [cq_o H, hb, if_b1] at hio
  refine An_pure (fun Q => ?_)
  simp only [u81_0, u81_1, u81_2, u81_5, u81_8, u81_9, u81_10, u81_11, u81_14, u81_15, u81_18, u81_19, u81_20, u81_64, u81_65, u81_68, u81_69, u81_72, u81_73, eq_self, q_nl0, q_nlI, q_nlR, not_false_eq_true, q_nz0, q_nz1, q_zv0, q_zv1, q_tl1, q_tl0, q_wif, q_swc, q_swn, List.cons_append, List.nil_append, if_true, if_false, e10, e01, Bool.false_eq_true, sh_1, sh_38, c_isIx (cq_t H) (cq_T H), ix, p_1_3 hp, hio, q_swc, q_t0, eq_true w0, if_b0]
  by_cases z : (aN A).testBit m = true
  · simp only [u81_65, u81_68, u81_69, u81_72, u81_73, eq_self, q_nl0, q_nlI, q_nlR, not_false_eq_true, q_nz0, q_nz1, q_zv0, q_zv1, q_tl1, q_tl0, q_wif, q_swc, q_swn, List.cons_append, List.nil_append, if_true, if_false, e10, e01, Bool.false_eq_true, z, not_true_eq_false]
  · simp only [u81_65, u81_68, u81_69, u81_72, u81_73, eq_self, q_nl0, q_nlI, q_nlR, not_false_eq_true, q_nz0, q_nz1, q_zv0, q_zv1, q_tl1, q_tl0, q_wif, q_swc, q_swn, List.cons_append, List.nil_append, if_true, if_false, e10, e01, Bool.false_eq_true, z, not_false_eq_true]
theorem a_man1 {X : XT} {d T N : Nat} {h : HT} {τ : CT} {A : Nat → Int32} {m : Nat} {w : Int32} (H : CQ h T τ N A) (hm : m < τ 0 1) (w1 : w = 1) : An X (d + 10) 81 [some (.ref 1), some (.int (nI m)), some (.int w), none] h (A m) := by
  have h7 := o_mn (cq_k H)
  have hp := cq_p H
  have hn := cq_n H
  have hT := ct_T (cq_t H)
  have ix : ixB (nI m) (τ 0 1) = true := ixB_in hm (by omega)
  have e1 : m_in (nI m) 7 = true := q_in (by omega) (by decide)
  have e2 : (nI m).toNatClampNeg = m := q_cl (by omega)
  have e3 : m_in (nI m) 20 = true := q_in (by omega) (by decide)
  have e4 : m_in (nI (7 + m)) 20 = true := q_in (by omega) (by decide)
  have e5 : (nI (7 + m)).toNatClampNeg = 7 + m := q_cl (by omega)
  have s38 : (m_sh (KS X) 38).1 = 7 := by rw [sh_38]
  have hb := bit01 hn (show m < 8 by omega)
  have hio := fun (Q : QT) => c_isOut (X := X) (d := d + 9) (h := h) (Q := Q) (x := nI m) s38
  simp only [cq_o H, hb, if_b1] at hio
  have w0 : ¬ w = 0 := by rw [w1]; decide
  refine An_pure (fun Q => ?_)
  simp only [u81_0, u81_1, u81_2, u81_5, u81_8, u81_9, u81_10, u81_11, u81_14, u81_15, u81_18, u81_19, u81_20, u81_74, u81_75, u81_78, u81_81, u81_82, u81_83, eq_self, q_nl0, q_nlI, q_nlR, not_false_eq_true, q_nz0, q_nz1, q_zv0, q_zv1, q_tl1, q_tl0, q_wif, q_swc, q_swn, List.cons_append, List.nil_append, if_true, if_false, e10, e01, Bool.false_eq_true, sh_1, sh_38, shS_2 is38, pS_2 is38 hp, c_isIx (cq_t H) (cq_T H), ix, p_1_3 hp, hio, q_swc, q_t0, q_t1, eq_false w0, eq_true w1, e1, e2, cq_lv H m hm]
theorem a_man2 {X : XT} {d T N : Nat} {h : HT} {τ : CT} {A : Nat → Int32} {m : Nat} {w : Int32} (H : CQ h T τ N A) (hm : m < τ 0 1) (w2 : w = 2) : An X (d + 10) 81 [some (.ref 1), some (.int (nI m)), some (.int w), none] h (A (7 + m)) := by
  have h7 := o_mn (cq_k H)
  have hp := cq_p H
  have hn := cq_n H
  have hT := ct_T (cq_t H)
  have ix : ixB (nI m) (τ 0 1) = true := ixB_in hm (by omega)
  have e1 : m_in (nI m) 7 = true := q_in (by omega) (by decide)
  have e2 : (nI m).toNatClampNeg = m := q_cl (by omega)
  have e3 : m_in (nI m) 20 = true := q_in (by omega) (by decide)
  have e4 : m_in (nI (7 + m)) 20 = true := q_in (by omega) (by decide)
  have e5 : (nI (7 + m)).toNatClampNeg = 7 + m := q_cl (by omega)
  have s38 : (m_sh (KS X) 38).1 = 7 := by rw [sh_38]
  have hb := bit01 hn (show m < 8 by omega)
  have hio := fun (Q : QT) => c_isOut (X := X) (d := d + 9) (h := h) (Q := Q) (x := nI m) s38
  simp only [cq_o H, hb, if_b1] at hio
  have w0 : ¬ w = 0 := by rw [w2]; decide
  have w1 : ¬ w = 1 := by rw [w2]; decide
  refine An_pure (fun Q => ?_)
  simp only [u81_0, u81_1, u81_2, u81_5, u81_8, u81_9, u81_10, u81_11, u81_14, u81_15, u81_18, u81_19, u81_20, u81_84, u81_85, u81_88, u81_89, u81_92, u81_95, u81_96, u81_97, u81_100, u81_101, eq_self, q_nl0, q_nlI, q_nlR, not_false_eq_true, q_nz0, q_nz1, q_zv0, q_zv1, q_tl1, q_tl0, q_wif, q_swc, q_swn, List.cons_append, List.nil_append, if_true, if_false, e10, e01, Bool.false_eq_true, sh_1, sh_38, shS_1 is38, pS_1 is38 hp, c_isIx (cq_t H) (cq_T H), ix, p_1_3 hp, hio, q_swc, q_t0, q_t1, q_t2, eq_false w0, eq_false w1, eq_true w2, e1, e2, if_b0]
  by_cases z : (aN A).testBit m = true
  · simp only [u81_85, u81_88, u81_89, u81_92, u81_95, u81_96, u81_97, u81_100, u81_101, eq_self, q_nl0, q_nlI, q_nlR, not_false_eq_true, q_nz0, q_nz1, q_zv0, q_zv1, q_tl1, q_tl0, q_wif, q_swc, q_swn, List.cons_append, List.nil_append, if_true, if_false, e10, e01, Bool.false_eq_true, z, not_true_eq_false, cq_dy H m hm z]
  · obtain ⟨_, _, _, y, _, _, hd⟩ := cq_a H
    obtain ⟨v, _, e, g⟩ := hd m hm
    simp only [u81_100, u81_101, eq_self, q_nl0, q_nlI, q_nlR, not_false_eq_true, q_nz0, q_nz1, q_zv0, q_zv1, q_tl1, q_tl0, q_wif, q_swc, q_swn, List.cons_append, List.nil_append, if_true, if_false, e10, e01, Bool.false_eq_true, z, not_false_eq_true, e, g (by simpa using z), show nI 0 = 0 from rfl]
theorem a_man3 {X : XT} {d T N : Nat} {h : HT} {τ : CT} {A : Nat → Int32} {m : Nat} {w : Int32} (H : CQ h T τ N A) (hm : m < τ 0 1) (w3 : w = 3) : An X (d + 10) 81 [some (.ref 1), some (.int (nI m)), some (.int w), none] h (nI (τ 5 m)) := by
  have h7 := o_mn (cq_k H)
  have hp := cq_p H
  have hn := cq_n H
  have hT := ct_T (cq_t H)
  have ix : ixB (nI m) (τ 0 1) = true := ixB_in hm (by omega)
  have e1 : m_in (nI m) 7 = true := q_in (by omega) (by decide)
  have e2 : (nI m).toNatClampNeg = m := q_cl (by omega)
  have e3 : m_in (nI m) 20 = true := q_in (by omega) (by decide)
  have e4 : m_in (nI (7 + m)) 20 = true := q_in (by omega) (by decide)
  have e5 : (nI (7 + m)).toNatClampNeg = 7 + m := q_cl (by omega)
  have s38 : (m_sh (KS X) 38).1 = 7 := by rw [sh_38]
  have hb := bit01 hn (show m < 8 by omega)
  have hio := fun (Q : QT) => c_isOut (X := X) (d := d + 9) (h := h) (Q := Q) (x := nI m) s38
  simp only [cq_o H, hb, if_b1] at hio
  have w0 : ¬ w = 0 := by rw [w3]; decide
  have w1 : ¬ w = 1 := by rw [w3]; decide
  have w2 : ¬ w = 2 := by rw [w3]; decide
  refine An_pure (fun Q => ?_)
  simp only [u81_0, u81_1, u81_2, u81_5, u81_8, u81_9, u81_10, u81_11, u81_14, u81_15, u81_18, u81_19, u81_20, u81_102, u81_103, u81_106, u81_109, u81_110, u81_111, eq_self, q_nl0, q_nlI, q_nlR, not_false_eq_true, q_nz0, q_nz1, q_zv0, q_zv1, q_tl1, q_tl0, q_wif, q_swc, q_swn, List.cons_append, List.nil_append, if_true, if_false, e10, e01, Bool.false_eq_true, sh_1, sh_38, shT_0 hT, shT_6 hT, pT_7 hT hp, c_isIx (cq_t H) (cq_T H), ix, p_1_3 hp, cq_T H, hio, q_swc, q_t0, q_t1, q_t2, q_t3, eq_false w0, eq_false w1, eq_false w2, eq_true w3, e1, e2, ct_de (cq_t H) m hm]
theorem a_man4 {X : XT} {d T N : Nat} {h : HT} {τ : CT} {A : Nat → Int32} {m : Nat} {w : Int32} (H : CQ h T τ N A) (hm : m < τ 0 1) (w4 : w = 4) : An X (d + 10) 81 [some (.ref 1), some (.int (nI m)), some (.int w), none] h (nI (τ 6 m)) := by
  have h7 := o_mn (cq_k H)
  have hp := cq_p H
  have hn := cq_n H
  have hT := ct_T (cq_t H)
  have ix : ixB (nI m) (τ 0 1) = true := ixB_in hm (by omega)
  have e1 : m_in (nI m) 7 = true := q_in (by omega) (by decide)
  have e2 : (nI m).toNatClampNeg = m := q_cl (by omega)
  have e3 : m_in (nI m) 20 = true := q_in (by omega) (by decide)
  have e4 : m_in (nI (7 + m)) 20 = true := q_in (by omega) (by decide)
  have e5 : (nI (7 + m)).toNatClampNeg = 7 + m := q_cl (by omega)
  have s38 : (m_sh (KS X) 38).1 = 7 := by rw [sh_38]
  have hb := bit01 hn (show m < 8 by omega)
  have hio := fun (Q : QT) => c_isOut (X := X) (d := d + 9) (h := h) (Q := Q) (x := nI m) s38
  simp only [cq_o H, hb, if_b1] at hio
  have w0 : ¬ w = 0 := by rw [w4]; decide
  have w1 : ¬ w = 1 := by rw [w4]; decide
  have w2 : ¬ w = 2 := by rw [w4]; decide
  have w3 : ¬ w = 3 := by rw [w4]; decide
  refine An_pure (fun Q => ?_)
  simp only [u81_0, u81_1, u81_2, u81_5, u81_8, u81_9, u81_10, u81_11, u81_14, u81_15, u81_18, u81_19, u81_20, u81_112, u81_113, u81_116, u81_119, u81_120, u81_121, eq_self, q_nl0, q_nlI, q_nlR, not_false_eq_true, q_nz0, q_nz1, q_zv0, q_zv1, q_tl1, q_tl0, q_wif, q_swc, q_swn, List.cons_append, List.nil_append, if_true, if_false, e10, e01, Bool.false_eq_true, sh_1, sh_38, shT_0 hT, shT_7 hT, pT_8 hT hp, c_isIx (cq_t H) (cq_T H), ix, p_1_3 hp, cq_T H, hio, q_swc, q_t0, q_t1, q_t2, q_t3, q_t4, eq_false w0, eq_false w1, eq_false w2, eq_false w3, eq_true w4, e1, e2, ct_ot (cq_t H) m hm]
theorem a_man5 {X : XT} {d T N : Nat} {h : HT} {τ : CT} {A : Nat → Int32} {m : Nat} {w : Int32} (H : CQ h T τ N A) (hm : m < τ 0 1) (w5 : w = 5) : An X (d + 10) 81 [some (.ref 1), some (.int (nI m)), some (.int w), none] h (nI (τ 3 m)) := by
  have h7 := o_mn (cq_k H)
  have hp := cq_p H
  have hn := cq_n H
  have hT := ct_T (cq_t H)
  have ix : ixB (nI m) (τ 0 1) = true := ixB_in hm (by omega)
  have e1 : m_in (nI m) 7 = true := q_in (by omega) (by decide)
  have e2 : (nI m).toNatClampNeg = m := q_cl (by omega)
  have e3 : m_in (nI m) 20 = true := q_in (by omega) (by decide)
  have e4 : m_in (nI (7 + m)) 20 = true := q_in (by omega) (by decide)
  have e5 : (nI (7 + m)).toNatClampNeg = 7 + m := q_cl (by omega)
  have s38 : (m_sh (KS X) 38).1 = 7 := by rw [sh_38]
  have hb := bit01 hn (show m < 8 by omega)
  have hio := fun (Q : QT) => c_isOut (X := X) (d := d + 9) (h := h) (Q := Q) (x := nI m) s38
  simp only [cq_o H, hb, if_b1] at hio
  have w0 : ¬ w = 0 := by rw [w5]; decide
  have w1 : ¬ w = 1 := by rw [w5]; decide
  have w2 : ¬ w = 2 := by rw [w5]; decide
  have w3 : ¬ w = 3 := by rw [w5]; decide
  have w4 : ¬ w = 4 := by rw [w5]; decide
  refine An_pure (fun Q => ?_)
  simp only [u81_0, u81_1, u81_2, u81_5, u81_8, u81_9, u81_10, u81_11, u81_14, u81_15, u81_18, u81_19, u81_20, u81_122, u81_123, u81_126, u81_129, u81_130, u81_131, eq_self, q_nl0, q_nlI, q_nlR, not_false_eq_true, q_nz0, q_nz1, q_zv0, q_zv1, q_tl1, q_tl0, q_wif, q_swc, q_swn, List.cons_append, List.nil_append, if_true, if_false, e10, e01, Bool.false_eq_true, sh_1, sh_38, shT_0 hT, shT_4 hT, pT_5 hT hp, c_isIx (cq_t H) (cq_T H), ix, p_1_3 hp, cq_T H, hio, q_swc, q_t0, q_t1, q_t2, q_t3, q_t4, q_t5, eq_false w0, eq_false w1, eq_false w2, eq_false w3, eq_false w4, eq_true w5, e1, e2, ct_sk (cq_t H) m hm]
theorem a_man6o {X : XT} {d T N : Nat} {h : HT} {τ : CT} {A : Nat → Int32} {m : Nat} {w : Int32} (H : CQ h T τ N A) (hm : m < τ 0 1) (w6 : w = 6) (z : (aN A).testBit m = true) : An X (d + 10) 81 [some (.ref 1), some (.int (nI m)), some (.int w), none] h (if sGoes τ (aN A) (A m) (A (7 + m)) m = true then 1 else 0) := by
  have h7 := o_mn (cq_k H)
  have hp := cq_p H
  have hn := cq_n H
  have hT := ct_T (cq_t H)
  have ix : ixB (nI m) (τ 0 1) = true := ixB_in hm (by omega)
  have e1 : m_in (nI m) 7 = true := q_in (by omega) (by decide)
  have e2 : (nI m).toNatClampNeg = m := q_cl (by omega)
  have e3 : m_in (nI m) 20 = true := q_in (by omega) (by decide)
  have e4 : m_in (nI (7 + m)) 20 = true := q_in (by omega) (by decide)
  have e5 : (nI (7 + m)).toNatClampNeg = 7 + m := q_cl (by omega)
  have s38 : (m_sh (KS X) 38).1 = 7 := by rw [sh_38]
  have hb := bit01 hn (show m < 8 by omega)
  have hio := fun (Q : QT) => c_isOut (X := X) (d := d + 9) (h := h) (Q := Q) (x := nI m) s38
  simp only [cq_o H, hb, if_b1] at hio
  have w0 : ¬ w = 0 := by rw [w6]; decide
  have w1 : ¬ w = 1 := by rw [w6]; decide
  have w2 : ¬ w = 2 := by rw [w6]; decide
  have w3 : ¬ w = 3 := by rw [w6]; decide
  have w4 : ¬ w = 4 := by rw [w6]; decide
  have w5 : ¬ w = 5 := by rw [w6]; decide
  obtain ⟨j1, j2, ej⟩ := hGo_J (h := h) (T := T) (τ := τ) (u := sU τ (aN A) (A m) (A (7 + m)) m)
  refine ⟨hJ h T j1 j2, Same_hJ hT, fun Q => ?_⟩
  have cg := fun (Q : QT) => c_goesBack (X := X) (d := d + 7) (Q := Q) (m := m) (cq_t H) (cq_f H) is38 hn (cq_o H) hm
  simp only [cq_lv H m hm, cq_dy H m hm z, ej] at cg
  simp only [u81_0, u81_1, u81_2, u81_5, u81_8, u81_9, u81_10, u81_11, u81_14, u81_15, u81_18, u81_19, u81_20, u81_132, u81_133, u81_136, u81_137, u81_140, u81_141, u81_144, u81_145, u81_148, u81_151, u81_152, u81_155, u81_156, eq_self, q_nl0, q_nlI, q_nlR, not_false_eq_true, q_nz0, q_nz1, q_zv0, q_zv1, q_tl1, q_tl0, q_wif, q_swc, q_swn, List.cons_append, List.nil_append, if_true, if_false, e10, e01, Bool.false_eq_true, sh_1, sh_38, shT_0 hT, c_isIx (cq_t H) (cq_T H), ix, p_1_3 hp, cq_T H, hio, q_swc, q_t0, q_t1, q_t2, q_t3, q_t4, q_t5, q_t6, eq_false w0, eq_false w1, eq_false w2, eq_false w3, eq_false w4, eq_false w5, eq_true w6, z, cg, if_b0]
  by_cases y : sGoes τ (aN A) (A m) (A (7 + m)) m = true
  · simp only [u81_148, u81_151, u81_152, u81_155, u81_156, eq_self, q_nl0, q_nlI, q_nlR, not_false_eq_true, q_nz0, q_nz1, q_zv0, q_zv1, q_tl1, q_tl0, q_wif, q_swc, q_swn, List.cons_append, List.nil_append, if_true, if_false, e10, e01, Bool.false_eq_true, y, not_true_eq_false]
  · simp only [u81_148, u81_151, u81_152, u81_155, u81_156, eq_self, q_nl0, q_nlI, q_nlR, not_false_eq_true, q_nz0, q_nz1, q_zv0, q_zv1, q_tl1, q_tl0, q_wif, q_swc, q_swn, List.cons_append, List.nil_append, if_true, if_false, e10, e01, Bool.false_eq_true, y, not_false_eq_true]
theorem a_man6i {X : XT} {d T N : Nat} {h : HT} {τ : CT} {A : Nat → Int32} {m : Nat} {w : Int32} (H : CQ h T τ N A) (hm : m < τ 0 1) (w6 : w = 6) (z : ¬ (aN A).testBit m = true) : An X (d + 10) 81 [some (.ref 1), some (.int (nI m)), some (.int w), none] h (0) := by
  have h7 := o_mn (cq_k H)
  have hp := cq_p H
  have hn := cq_n H
  have hT := ct_T (cq_t H)
  have ix : ixB (nI m) (τ 0 1) = true := ixB_in hm (by omega)
  have e1 : m_in (nI m) 7 = true := q_in (by omega) (by decide)
  have e2 : (nI m).toNatClampNeg = m := q_cl (by omega)
  have e3 : m_in (nI m) 20 = true := q_in (by omega) (by decide)
  have e4 : m_in (nI (7 + m)) 20 = true := q_in (by omega) (by decide)
  have e5 : (nI (7 + m)).toNatClampNeg = 7 + m := q_cl (by omega)
  have s38 : (m_sh (KS X) 38).1 = 7 := by rw [sh_38]
  have hb := bit01 hn (show m < 8 by omega)
  have hio := fun (Q : QT) => c_isOut (X := X) (d := d + 9) (h := h) (Q := Q) (x := nI m) s38
  simp only [cq_o H, hb, if_b1] at hio
  have w0 : ¬ w = 0 := by rw [w6]; decide
  have w1 : ¬ w = 1 := by rw [w6]; decide
  have w2 : ¬ w = 2 := by rw [w6]; decide
  have w3 : ¬ w = 3 := by rw [w6]; decide
  have w4 : ¬ w = 4 := by rw [w6]; decide
  have w5 : ¬ w = 5 := by rw [w6]; decide
  refine An_pure (fun Q => ?_)
  simp only [u81_0, u81_1, u81_2, u81_5, u81_8, u81_9, u81_10, u81_11, u81_14, u81_15, u81_18, u81_19, u81_20, u81_132, u81_133, u81_136, u81_137, u81_140, u81_141, u81_144, u81_145, u81_148, u81_151, u81_152, u81_155, u81_156, eq_self, q_nl0, q_nlI, q_nlR, not_false_eq_true, q_nz0, q_nz1, q_zv0, q_zv1, q_tl1, q_tl0, q_wif, q_swc, q_swn, List.cons_append, List.nil_append, if_true, if_false, e10, e01, Bool.false_eq_true, sh_1, sh_38, c_isIx (cq_t H) (cq_T H), ix, p_1_3 hp, cq_T H, hio, q_swc, q_t0, q_t1, q_t2, q_t3, q_t4, q_t5, q_t6, eq_false w0, eq_false w1, eq_false w2, eq_false w3, eq_false w4, eq_false w5, eq_true w6, z]
