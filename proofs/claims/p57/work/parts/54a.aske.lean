theorem a_odds0 {X : XT} {d T N : Nat} {h : HT} {τ : CT} {A : Nat → Int32} {n : Nat} {w : Int32} (H : CQ h T τ N A) (hn : n < 5) (w0 : w = 0) : An X (d + 10) 170 [some (.ref 1), some (.int (nI n)), some (.int w), none, none, none, none] h (nI (odU τ A n) / nI (Nat.gcd (odU τ A n) (odL n))) := by
  have hp := cq_p H
  have hk := cq_k H
  have h7 := o_mn hk
  have h8 := p2_7 h7
  have hT := ct_T (cq_t H)
  have hx := ix_k1 (x := nI n) (k := 5) (by decide) (by decide)
  rw [show nI (5 - 1) = 4 from rfl] at hx
  have ix : ixB (nI n) 5 = true := ixB_in hn (by decide)
  rw [ix, if_pos rfl] at hx
  have hx0 : (nI n < 0) = False := oI_lt0 (by omega)
  have hx1 : (4 < nI n) = False := eq_false (nI_nlt (a := 4) (by omega) (by omega))
  have l4 := odL_4 n hn
  have u4 := odU_le (τ := τ) (A := A) n
  have p4 := odL_pos n
  have cl : ∃ g, Same h g ∧ ∃ l6, (fun Q : QT => wq X (d + 10) 170 20 [some (.ref 1), some (.int (nI n)), some (.int w), none, none, none, none] [] h Q) = fun Q => wq X (d + 10) 170 114 [some (.ref 1), some (.int (nI n)), some (.int w), some (.int (nI (odU τ A n))), some (.int (nI (odL n))), some (.int (nI n)), l6] [] g Q := by
    have s1 : Same h (pS h 41 (rCopy (gS h 41) (gS h 38))) := Same_pS (Or.inl rfl)
    have r1 : Rep τ (gS (pS h 41 (rCopy (gS h 41) (gS h 38))) 41) A := by
      rw [gS_pS]
      exact Rep_copy hk (cq_r H)
    have cc := fun (Q : QT) => c_copy (X := X) (d := d + 9) (Q := Q) is41 is38 (by decide) hp
    generalize pS h 41 (rCopy (gS h 41) (gS h 38)) = h1 at s1 r1 cc
    obtain ⟨p, ⟨q1, q2⟩, e⟩ := q_loopI (fun i (p : HT × Option Value) (Q : QT) => wq X (d + 10) 170 39 [some (.ref 1), some (.int (nI n)), some (.int w), some (.int (nI (odU τ A i))), some (.int (nI (odL i))), some (.int (nI i)), p.2] [] p.1 Q) (fun i p => Same h p.1 ∧ Rep τ (gS p.1 41) (aIt τ A i)) n (by
      intro i hi p hg
      have C := CQ_same hg.1 H
      have K2 := it_ok hk (cq_a H) i
      obtain ⟨g1, f1, f2, f3⟩ := c_passF (X := X) (d := d + 5) (a := 41) (cq_t C) (cq_f C) K2 is41 hg.2
      have e0 : m_gI p.1 41 0 = nI (aN (aIt τ A i)) := hg.2.1.1.trans K2.1.1
      have hn8 := aN_lt hk K2
      have hg8 := aG_128 hk K2
      have eg : nI (aN (aIt τ A i) ||| sFol τ (aN (aIt τ A i))) = nI (aG τ (aIt τ A i)) := rfl
      have e1 : (nI i < nI n) = True := eq_true (nI_lt hi (by omega))
      have hod := nOd_le (τ := τ) (g := aG τ (aIt τ A i))
      have es : 100 - nI (nOd τ (aG τ (aIt τ A i))) = nI (100 - nOd τ (aG τ (aIt τ A i))) := pk_sub (a := 100) hod
      have el : nI (odL i) * 100 = nI (odL (i + 1)) := pk_mul _ 100
      have eu : nI (odU τ A i) * nI (100 - nOd τ (aG τ (aIt τ A i))) = nI (odU τ A (i + 1)) := pk_mul _ _
      refine ⟨(g1, some (.int (nI (aG τ (aIt τ A i))))), ⟨Same_tr hg.1 (Fr_Same (Or.inl rfl) f1), f2⟩, funext fun Q => ?_⟩
      rw [u170_39]
      simp only [u170_41, u170_42, u170_45, u170_46, u170_49, u170_52, u170_53, u170_56, u170_57, u170_60, u170_63, u170_66, u170_67, u170_69, u170_70, u170_72, u170_74, u170_75, u170_78, u170_80, u170_83, u170_86, u170_87, u170_88, u170_89, u170_91, u170_93, u170_94, u170_96, u170_97, u170_100, u170_101, u170_104, u170_107, u170_108, u170_111, eq_self, q_nl0, q_nlI, q_nlR, not_false_eq_true, q_nz0, q_nz1, q_zv0, q_zv1, q_tl1, q_tl0, q_wif, q_swc, q_swn, List.cons_append, List.nil_append, if_true, if_false, e10, e01, Bool.false_eq_true, sh_1, sh_41, shT_0 hT, e1, cq_T C, p_1_4 (cq_p C), e0, c_followers (cq_t C) hn8, nI_or, eg, c_foeOdds (cq_t C) hg8, min_odd hk, es, eu, el, f3, nI_1]) (h1, none) ⟨s1, r1⟩
    refine ⟨p.1, q1, p.2, funext fun Q => ?_⟩
    simp only [u170_20, u170_21, u170_24, u170_25, u170_28, eq_self, q_nl0, q_nlI, q_nlR, not_false_eq_true, q_nz0, q_nz1, q_zv0, q_zv1, q_tl1, q_tl0, q_wif, q_swc, q_swn, List.cons_append, List.nil_append, if_true, if_false, e10, e01, Bool.false_eq_true, sh_1, sh_41, p_1_4 hp, p_1_3 hp, cc]
    simp only [u170_31, u170_32, u170_33, u170_34, u170_36, u170_37, eq_self, q_nl0, q_nlI, q_nlR, not_false_eq_true, q_nz0, q_nz1, q_zv0, q_zv1, q_tl1, q_tl0, q_wif, q_swc, q_swn, List.cons_append, List.nil_append, if_true, if_false, e10, e01, Bool.false_eq_true]
    refine (congrFun e Q).trans ?_
    rw [u170_39]
    simp only [u170_41, u170_42, eq_self, q_nl0, q_nlI, q_nlR, not_false_eq_true, q_nz0, q_nz1, q_zv0, q_zv1, q_tl1, q_tl0, q_wif, q_swc, q_swn, List.cons_append, List.nil_append, if_true, if_false, e10, e01, Bool.false_eq_true, eq_false (nI_nlt (Nat.le_refl n) (by omega))]
  obtain ⟨gc, gc1, l6, ec⟩ := cl
  have hg : Nat.gcd (odU τ A n) (odL n) ≤ odL n := Nat.le_of_dvd p4 (Nat.gcd_dvd_right _ _)
  have hg0 := Nat.gcd_pos_of_pos_right (odU τ A n) p4
  have eg : (nI (Nat.gcd (odU τ A n) (odL n)) = 0) = False := eq_false (nI_ne0 hg0 (by omega))
  have hu3 : odU τ A n < 2 ^ 31 := by omega
  have hl3 : odL n < 2 ^ 31 := by omega
  refine ⟨gc, gc1, fun Q => ?_⟩
  simp only [u170_0, u170_1, u170_4, u170_5, u170_6, u170_9, u170_10, u170_13, u170_14, u170_15, u170_18, u170_19, eq_self, q_nl0, q_nlI, q_nlR, not_false_eq_true, q_nz0, q_nz1, q_zv0, q_zv1, q_tl1, q_tl0, q_wif, q_swc, q_swn, List.cons_append, List.nil_append, if_true, if_false, e10, e01, Bool.false_eq_true, hx0, hx1, eq_true w0]
  refine (congrFun ec Q).trans ?_
  simp only [u170_114, u170_115, u170_117, u170_118, u170_121, eq_self, q_nl0, q_nlI, q_nlR, not_false_eq_true, q_nz0, q_nz1, q_zv0, q_zv1, q_tl1, q_tl0, q_wif, q_swc, q_swn, List.cons_append, List.nil_append, if_true, if_false, e10, e01, Bool.false_eq_true, c_lowest hu3 hl3 p4, eq_true w0]
theorem a_odds1 {X : XT} {d T N : Nat} {h : HT} {τ : CT} {A : Nat → Int32} {n : Nat} {w : Int32} (H : CQ h T τ N A) (hn : n < 5) (w1 : w = 1) : An X (d + 10) 170 [some (.ref 1), some (.int (nI n)), some (.int w), none, none, none, none] h (nI (odL n) / nI (Nat.gcd (odU τ A n) (odL n))) := by
  have w0 : ¬ w = 0 := by rw [w1]; decide
  have hp := cq_p H
  have hk := cq_k H
  have h7 := o_mn hk
  have h8 := p2_7 h7
  have hT := ct_T (cq_t H)
  have hx := ix_k1 (x := nI n) (k := 5) (by decide) (by decide)
  rw [show nI (5 - 1) = 4 from rfl] at hx
  have ix : ixB (nI n) 5 = true := ixB_in hn (by decide)
  rw [ix, if_pos rfl] at hx
  have hx0 : (nI n < 0) = False := oI_lt0 (by omega)
  have hx1 : (4 < nI n) = False := eq_false (nI_nlt (a := 4) (by omega) (by omega))
  have l4 := odL_4 n hn
  have u4 := odU_le (τ := τ) (A := A) n
  have p4 := odL_pos n
  have cl : ∃ g, Same h g ∧ ∃ l6, (fun Q : QT => wq X (d + 10) 170 20 [some (.ref 1), some (.int (nI n)), some (.int w), none, none, none, none] [] h Q) = fun Q => wq X (d + 10) 170 114 [some (.ref 1), some (.int (nI n)), some (.int w), some (.int (nI (odU τ A n))), some (.int (nI (odL n))), some (.int (nI n)), l6] [] g Q := by
    have s1 : Same h (pS h 41 (rCopy (gS h 41) (gS h 38))) := Same_pS (Or.inl rfl)
    have r1 : Rep τ (gS (pS h 41 (rCopy (gS h 41) (gS h 38))) 41) A := by
      rw [gS_pS]
      exact Rep_copy hk (cq_r H)
    have cc := fun (Q : QT) => c_copy (X := X) (d := d + 9) (Q := Q) is41 is38 (by decide) hp
    generalize pS h 41 (rCopy (gS h 41) (gS h 38)) = h1 at s1 r1 cc
    obtain ⟨p, ⟨q1, q2⟩, e⟩ := q_loopI (fun i (p : HT × Option Value) (Q : QT) => wq X (d + 10) 170 39 [some (.ref 1), some (.int (nI n)), some (.int w), some (.int (nI (odU τ A i))), some (.int (nI (odL i))), some (.int (nI i)), p.2] [] p.1 Q) (fun i p => Same h p.1 ∧ Rep τ (gS p.1 41) (aIt τ A i)) n (by
      intro i hi p hg
      have C := CQ_same hg.1 H
      have K2 := it_ok hk (cq_a H) i
      obtain ⟨g1, f1, f2, f3⟩ := c_passF (X := X) (d := d + 5) (a := 41) (cq_t C) (cq_f C) K2 is41 hg.2
      have e0 : m_gI p.1 41 0 = nI (aN (aIt τ A i)) := hg.2.1.1.trans K2.1.1
      have hn8 := aN_lt hk K2
      have hg8 := aG_128 hk K2
      have eg : nI (aN (aIt τ A i) ||| sFol τ (aN (aIt τ A i))) = nI (aG τ (aIt τ A i)) := rfl
      have e1 : (nI i < nI n) = True := eq_true (nI_lt hi (by omega))
      have hod := nOd_le (τ := τ) (g := aG τ (aIt τ A i))
      have es : 100 - nI (nOd τ (aG τ (aIt τ A i))) = nI (100 - nOd τ (aG τ (aIt τ A i))) := pk_sub (a := 100) hod
      have el : nI (odL i) * 100 = nI (odL (i + 1)) := pk_mul _ 100
      have eu : nI (odU τ A i) * nI (100 - nOd τ (aG τ (aIt τ A i))) = nI (odU τ A (i + 1)) := pk_mul _ _
      refine ⟨(g1, some (.int (nI (aG τ (aIt τ A i))))), ⟨Same_tr hg.1 (Fr_Same (Or.inl rfl) f1), f2⟩, funext fun Q => ?_⟩
      rw [u170_39]
      simp only [u170_41, u170_42, u170_45, u170_46, u170_49, u170_52, u170_53, u170_56, u170_57, u170_60, u170_63, u170_66, u170_67, u170_69, u170_70, u170_72, u170_74, u170_75, u170_78, u170_80, u170_83, u170_86, u170_87, u170_88, u170_89, u170_91, u170_93, u170_94, u170_96, u170_97, u170_100, u170_101, u170_104, u170_107, u170_108, u170_111, eq_self, q_nl0, q_nlI, q_nlR, not_false_eq_true, q_nz0, q_nz1, q_zv0, q_zv1, q_tl1, q_tl0, q_wif, q_swc, q_swn, List.cons_append, List.nil_append, if_true, if_false, e10, e01, Bool.false_eq_true, sh_1, sh_41, shT_0 hT, e1, cq_T C, p_1_4 (cq_p C), e0, c_followers (cq_t C) hn8, nI_or, eg, c_foeOdds (cq_t C) hg8, min_odd hk, es, eu, el, f3, nI_1]) (h1, none) ⟨s1, r1⟩
    refine ⟨p.1, q1, p.2, funext fun Q => ?_⟩
    simp only [u170_20, u170_21, u170_24, u170_25, u170_28, eq_self, q_nl0, q_nlI, q_nlR, not_false_eq_true, q_nz0, q_nz1, q_zv0, q_zv1, q_tl1, q_tl0, q_wif, q_swc, q_swn, List.cons_append, List.nil_append, if_true, if_false, e10, e01, Bool.false_eq_true, sh_1, sh_41, p_1_4 hp, p_1_3 hp, cc]
    simp only [u170_31, u170_32, u170_33, u170_34, u170_36, u170_37, eq_self, q_nl0, q_nlI, q_nlR, not_false_eq_true, q_nz0, q_nz1, q_zv0, q_zv1, q_tl1, q_tl0, q_wif, q_swc, q_swn, List.cons_append, List.nil_append, if_true, if_false, e10, e01, Bool.false_eq_true]
    refine (congrFun e Q).trans ?_
    rw [u170_39]
    simp only [u170_41, u170_42, eq_self, q_nl0, q_nlI, q_nlR, not_false_eq_true, q_nz0, q_nz1, q_zv0, q_zv1, q_tl1, q_tl0, q_wif, q_swc, q_swn, List.cons_append, List.nil_append, if_true, if_false, e10, e01, Bool.false_eq_true, eq_false (nI_nlt (Nat.le_refl n) (by omega))]
  obtain ⟨gc, gc1, l6, ec⟩ := cl
  have hg : Nat.gcd (odU τ A n) (odL n) ≤ odL n := Nat.le_of_dvd p4 (Nat.gcd_dvd_right _ _)
  have hg0 := Nat.gcd_pos_of_pos_right (odU τ A n) p4
  have eg : (nI (Nat.gcd (odU τ A n) (odL n)) = 0) = False := eq_false (nI_ne0 hg0 (by omega))
  have hu3 : odU τ A n < 2 ^ 31 := by omega
  have hl3 : odL n < 2 ^ 31 := by omega
  refine ⟨gc, gc1, fun Q => ?_⟩
  simp only [u170_0, u170_1, u170_4, u170_5, u170_6, u170_9, u170_10, u170_13, u170_14, u170_15, u170_18, u170_19, eq_self, q_nl0, q_nlI, q_nlR, not_false_eq_true, q_nz0, q_nz1, q_zv0, q_zv1, q_tl1, q_tl0, q_wif, q_swc, q_swn, List.cons_append, List.nil_append, if_true, if_false, e10, e01, Bool.false_eq_true, hx0, hx1, eq_false w0, eq_true w1]
  refine (congrFun ec Q).trans ?_
  simp only [u170_114, u170_115, u170_117, u170_118, u170_121, eq_self, q_nl0, q_nlI, q_nlR, not_false_eq_true, q_nz0, q_nz1, q_zv0, q_zv1, q_tl1, q_tl0, q_wif, q_swc, q_swn, List.cons_append, List.nil_append, if_true, if_false, e10, e01, Bool.false_eq_true, c_lowest hu3 hl3 p4, eq_false w0]
