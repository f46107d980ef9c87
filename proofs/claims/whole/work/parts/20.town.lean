theorem c_isOut {X : XT} {d a : Nat} {h : HT} {Q : QT} {x : Int32} (ha : (m_sh KS a).1 = 7) : wq X d 83 0 [some (.ref a), some (.int x)] [] h Q = Q (some (.int (if m_gI h a 0 >>> (x &&& 31) &&& 1 = 1 then 1 else 0))) h := by
  simp only [u83_0, u83_1, u83_4, u83_5, u83_6, u83_7, u83_8, u83_9, u83_12, u83_13, u83_16, u83_17, eq_self, q_nl0, q_nlI, q_nlR, not_false_eq_true, q_nz0, q_nz1, q_zv0, q_zv1, q_tl1, q_tl0, q_wif, q_swc, q_swn, List.cons_append, List.nil_append, ha, q_nz0, q_nz1]
  split <;> rfl
theorem c_everyone {X : XT} {d T : Nat} {h : HT} {Q : QT} (ha : (m_sh KS T).1 = 9) : wq X d 96 0 [some (.ref T)] [] h Q = Q (some (.int (1 <<< (m_gI h T 4 &&& 31) - 1))) h := by
  simp only [u96_0, u96_1, u96_2, u96_5, u96_6, u96_7, u96_8, eq_self, q_nl0, q_nlI, q_nlR, not_false_eq_true, q_nz0, q_nz1, q_zv0, q_zv1, q_tl1, q_tl0, q_wif, q_swc, q_swn, List.cons_append, List.nil_append, ha]
theorem c_isMan {X : XT} {d : Nat} {h : HT} {Q : QT} {x : Int32} (hT : (m_sh KS (m_gR h 1 2)).1 = 9) : wq X d 82 0 [some (.ref 1), some (.int x)] [] h Q = Q (some (.int (if x < 0 then 0 else if x < m_gI h (m_gR h 1 2) 4 then if x < 7 then 1 else 0 else 0))) h := by
  simp only [u82_0, u82_1, u82_4, u82_5, u82_6, u82_9, u82_12, u82_15, u82_16, u82_18, u82_21, u82_22, u82_25, u82_26, eq_self, q_nl0, q_nlI, q_nlR, not_false_eq_true, q_nz0, q_nz1, q_zv0, q_zv1, q_tl1, q_tl0, q_wif, q_swc, q_swn, List.cons_append, List.nil_append, hT, sh_1, q_nz0, q_nz1]
  split
  · rfl
  · split
    · split <;> rfl
    · rfl
