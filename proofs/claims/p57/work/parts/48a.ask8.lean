theorem a_will {X : XT} {d T N : Nat} {h : HT} {τ : CT} {A : Nat → Int32} {n : Nat} (H : CQ h T τ N A) (hn : n < 61) : An X (d + 10) 154 [some (.ref 1), some (.int (nI n))] h (nI (aN (aIt τ A n))) := by
  have hp := cq_p H
  have hk := cq_k H
  have ix : ixB (nI n) 61 = true := ixB_in hn (by decide)
  obtain ⟨g, a1, a2, a3⟩ := c_look (X := X) (d := d + 4) H (show n ≤ 60 by omega)
  refine ⟨g, a1, fun Q => ?_⟩
  simp only [u154_0, u154_1, u154_4, u154_7, u154_8, u154_9, u154_10, u154_13, u154_14, u154_17, u154_18, u154_21, u154_22, u154_25, u154_26, u154_29, u154_30, u154_33, eq_self, q_nl0, q_nlI, q_nlR, not_false_eq_true, q_nz0, q_nz1, q_zv0, q_zv1, q_tl1, q_tl0, q_wif, q_swc, q_swn, List.cons_append, List.nil_append, if_true, if_false, e10, e01, Bool.false_eq_true, sh_1, c_isAhead, ix, p_1_8 hp, cq_T H, p_1_3 hp, sh_171, a3]
  simp only [u154_0, u154_1, u154_4, u154_7, u154_8, u154_9, u154_10, u154_13, u154_14, u154_17, u154_18, u154_21, u154_22, u154_25, u154_26, u154_29, u154_30, u154_33, eq_self, q_nl0, q_nlI, q_nlR, not_false_eq_true, q_nz0, q_nz1, q_zv0, q_zv1, q_tl1, q_tl0, q_wif, q_swc, q_swn, List.cons_append, List.nil_append, if_true, if_false, e10, e01, Bool.false_eq_true, sh_1, sh_171, p_1_8 (cq_p (CQ_same a1 H)), c_outB (cq_p (CQ_same a1 H)) a2 (Nat.le_refl n) (show n ≤ 60 by omega)]
