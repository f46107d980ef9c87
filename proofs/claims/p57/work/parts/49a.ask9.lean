theorem cnt_in {n : Nat} (h1 : 1 ≤ n) (h2 : n ≤ 60) : (if nI n < 1 then (0 : Int32) else if 60 < nI n then 0 else 1) = 1 := by
  rw [if_neg (show ¬ nI n < 1 from nI_nlt (b := 1) (a := n) h1 (by omega)), if_neg (show ¬ 60 < nI n from nI_nlt (b := n) (a := 60) h2 (by omega))]
theorem a_lasts {X : XT} {d T N : Nat} {h : HT} {τ : CT} {A : Nat → Int32} (H : CQ h T τ N A) : An X (d + 10) 155 [some (.ref 1)] h (oI (fstN (lsP τ A) 60)) := by
  have hp := cq_p H
  have hk := cq_k H
  obtain ⟨g, a1, a2, a3⟩ := c_look (X := X) (d := d + 4) H (Nat.le_refl 60)
  have C := CQ_same a1 H
  have a3' : ∀ Q : QT, wq X (d + 9) 104 0 [some (.ref 171), some (.ref T), some (.ref 38), some (.int 60), none, none] [] h Q = Q none g := a3
  refine ⟨g, a1, fun Q => ?_⟩
  simp only [u155_0, u155_1, u155_4, u155_5, u155_8, u155_9, u155_12, u155_14, u155_17, u155_18, u155_21, u155_24, eq_self, q_nl0, q_nlI, q_nlR, not_false_eq_true, q_nz0, q_nz1, q_zv0, q_zv1, q_tl1, q_tl0, q_wif, q_swc, q_swn, List.cons_append, List.nil_append, if_true, if_false, e10, e01, Bool.false_eq_true, sh_1, sh_171, p_1_8 hp, cq_T H, p_1_3 hp, a3']
  simp only [u155_0, u155_1, u155_4, u155_5, u155_8, u155_9, u155_12, u155_14, u155_17, u155_18, u155_21, u155_24, eq_self, q_nl0, q_nlI, q_nlR, not_false_eq_true, q_nz0, q_nz1, q_zv0, q_zv1, q_tl1, q_tl0, q_wif, q_swc, q_swn, List.cons_append, List.nil_append, if_true, if_false, e10, e01, Bool.false_eq_true, sh_1, sh_171, p_1_8 (cq_p C), c_empty (cq_p C) hk (cq_a H) a2]
theorem a_costs {X : XT} {d T N : Nat} {h : HT} {τ : CT} {A : Nat → Int32} {n : Nat} (H : CQ h T τ N A) (hn : n < 61) : An X (d + 10) 157 [some (.ref 1), some (.int (nI n))] h (nI (aCs τ A n)) := by
  have hp := cq_p H
  have hk := cq_k H
  have ix : ixB (nI n) 61 = true := ixB_in hn (by decide)
  obtain ⟨g, a1, a2, a3⟩ := c_look (X := X) (d := d + 4) H (show n ≤ 60 by omega)
  have C := CQ_same a1 H
  have cl := fun (Q : QT) => c_lostB (X := X) (d := d + 9) (Q := Q) (cq_p C) a2 (show n ≤ 60 by omega) (Nat.zero_le n) (Nat.le_refl n)
  have e0 : nI (aCs τ A n) - nI (aCs τ A 0) = nI (aCs τ A n) := Int32.sub_zero _
  rw [e0] at cl
  have cl' : ∀ Q : QT, wq X (d + 9) 158 0 [some (.ref 171), some (.int 0), some (.int (nI n))] [] g Q = Q (some (.int (nI (aCs τ A n)))) g := cl
  refine ⟨g, a1, fun Q => ?_⟩
  simp only [u157_0, u157_1, u157_4, u157_7, u157_8, u157_9, u157_10, u157_13, u157_14, u157_17, u157_18, u157_21, u157_22, u157_25, u157_26, u157_29, u157_30, u157_31, u157_34, eq_self, q_nl0, q_nlI, q_nlR, not_false_eq_true, q_nz0, q_nz1, q_zv0, q_zv1, q_tl1, q_tl0, q_wif, q_swc, q_swn, List.cons_append, List.nil_append, if_true, if_false, e10, e01, Bool.false_eq_true, sh_1, sh_171, c_isAhead, ix, p_1_8 hp, cq_T H, p_1_3 hp, a3]
  simp only [u157_0, u157_1, u157_4, u157_7, u157_8, u157_9, u157_10, u157_13, u157_14, u157_17, u157_18, u157_21, u157_22, u157_25, u157_26, u157_29, u157_30, u157_31, u157_34, eq_self, q_nl0, q_nlI, q_nlR, not_false_eq_true, q_nz0, q_nz1, q_zv0, q_zv1, q_tl1, q_tl0, q_wif, q_swc, q_swn, List.cons_append, List.nil_append, if_true, if_false, e10, e01, Bool.false_eq_true, sh_1, sh_171, p_1_8 (cq_p C), cl']
theorem a_ever {X : XT} {d T N : Nat} {h : HT} {τ : CT} {A : Nat → Int32} {n : Nat} (H : CQ h T τ N A) (hn1 : 1 ≤ n) (hn : n ≤ 60) : An X (d + 10) 159 [some (.ref 1), some (.int (nI n)), none, none] h (nI (evN τ A n)) := by
  have hp := cq_p H
  have hk := cq_k H
  have ix := cnt_in hn1 hn
  obtain ⟨g, a1, a2, a3⟩ := c_look (X := X) (d := d + 4) H (show n ≤ 60 by omega)
  have C := CQ_same a1 H
  refine ⟨g, a1, fun Q => ?_⟩
  simp only [u159_0, u159_1, u159_4, u159_7, u159_8, u159_9, u159_10, u159_13, u159_14, u159_17, u159_18, u159_21, u159_22, eq_self, q_nl0, q_nlI, q_nlR, not_false_eq_true, q_nz0, q_nz1, q_zv0, q_zv1, q_tl1, q_tl0, q_wif, q_swc, q_swn, List.cons_append, List.nil_append, if_true, if_false, e10, e01, Bool.false_eq_true, sh_1, sh_171, c_isCount, ix, p_1_8 hp, cq_T H, p_1_3 hp, a3]
  simp only [u159_25, u159_26, u159_27, u159_28, eq_self, q_nl0, q_nlI, q_nlR, not_false_eq_true, q_nz0, q_nz1, q_zv0, q_zv1, q_tl1, q_tl0, q_wif, q_swc, q_swn, List.cons_append, List.nil_append, if_true, if_false, e10, e01, Bool.false_eq_true]
  refine (q_loop (fun i => wq X (d + 9 + 1) 159 29 [some (.ref 1), some (.int (nI n)), some (.int (nI (evC τ A i))), some (.int (nI i))] [] g Q) (n + 1) ?_).trans ?_
  · intro i hi
    have e1 : (nI n < nI i) = False := eq_false (nI_nlt (by omega) (by omega))
    show wq X (d + 9 + 1) 159 29 _ _ _ _ = _
    rw [u159_29]
    simp only [u159_30, u159_31, u159_34, u159_35, u159_36, u159_39, u159_40, u159_43, u159_44, u159_45, u159_48, eq_self, q_nl0, q_nlI, q_nlR, not_false_eq_true, q_nz0, q_nz1, q_zv0, q_zv1, q_tl1, q_tl0, q_wif, q_swc, q_swn, List.cons_append, List.nil_append, if_true, if_false, e10, e01, Bool.false_eq_true, sh_1, sh_171, e1, p_1_8 (cq_p C), c_outB (cq_p C) a2 (show i ≤ n by omega) hn, nI_or, nI_1]
    rfl
  · rw [u159_29, evC_e]
    simp only [u159_30, u159_31, u159_34, u159_35, u159_36, u159_39, u159_40, u159_43, u159_44, u159_45, u159_48, u159_51, u159_52, eq_self, q_nl0, q_nlI, q_nlR, not_false_eq_true, q_nz0, q_nz1, q_zv0, q_zv1, q_tl1, q_tl0, q_wif, q_swc, q_swn, List.cons_append, List.nil_append, if_true, if_false, e10, e01, Bool.false_eq_true, eq_true (show nI n < nI (n + 1) from nI_lt (by omega) (by omega))]
