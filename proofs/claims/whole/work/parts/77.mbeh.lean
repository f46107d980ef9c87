/-! BEHIND A UNIT, as the model goes -/
/-- is there a comparison under what waits -/
def cm (P : Nat → Nat × Nat) : Nat → Bool
  | 0 => false
  | k + 1 => if (P k).1 = 5 ∨ (P k).1 = 6 then cm P k else decide ((P k).1 = 4)
theorem k_isCmp {X : XT} {d R L z w : Nat} {h : HT} {V : Nat → Nat} {S : SF} {P : Nat → Nat × Nat} (H : KF h R L V S z P w) (hz : 1 ≤ z) (h0 : (P 0).1 = 8) (h8 : ∀ i, i < z → (P i).1 ≤ 8) (Q : QT) : wq X d 222 0 [some (.ref 195), none] [] h Q = Q (some (.int (if cm P z = true then 1 else 0))) h := by
  have nb0 : q_nb .boolean 0 = true := by decide
  have nb1 : q_nb .boolean 1 = true := by decide
  obtain ⟨H1, ⟨H2, H2'⟩, H3, ⟨H4, H4', H4''⟩, ⟨H5, H5'⟩, H6, ⟨H7, H7'⟩, H8, H9⟩ := H
  have hp := H1.1.1
  have lp : ∀ k, k < z → wq X d 222 7 [some (.ref 195), some (.int (nI k))] [] h Q = Q (some (.int (if cm P (k + 1) = true then 1 else 0))) h := by
    intro k
    induction k with
    | zero =>
      intro hk
      have c2 : m_in (nI 0) 90 = true := by decide
      have c3 : (nI 0).toNatClampNeg = 0 := by decide
      have c4 : m_gI h 224 0 = 8 := by
        rw [(H8 0 hk).1, h0]
        rfl
      have e : cm P 1 = false := by
        show (if (P 0).1 = 5 ∨ (P 0).1 = 6 then cm P 0 else decide ((P 0).1 = 4)) = false
        rw [h0]
        rfl
      rw [u222_7, e]
      simp only [u222_8, u222_11, u222_12, u222_13, u222_14, u222_17, u222_18, u222_21, u222_22, u222_23, u222_25, u222_28, u222_31, u222_34, u222_35, u222_38, u222_39, u222_40, u222_41, u222_44, u222_45, u222_48, u222_49, eq_self, q_nl0, q_nlI, q_nlR, not_false_eq_true, q_nz0, q_nz1, q_zv0, q_zv1, q_tl1, q_tl0, q_wif, q_swc, q_swn, List.cons_append, List.nil_append, if_true, if_false, e10, e01, Bool.false_eq_true, sh_195, sh_224, p_195_37 hp, c2, c3, c4, nb0, show ((8 : Int32) = 5) = False from eq_false (by decide), show ((8 : Int32) = 6) = False from eq_false (by decide), show ((8 : Int32) = 4) = False from eq_false (by decide)]
    | succ k ih =>
      intro hk
      have hv := h8 (k + 1) hk
      have c2 : m_in (nI (k + 1)) 90 = true := q_in (by omega) (by decide)
      have c3 : (nI (k + 1)).toNatClampNeg = k + 1 := q_cl (by omega)
      have c4 := (H8 (k + 1) hk).1
      have f5 : (nI (P (k + 1)).1 = 5) = ((P (k + 1)).1 = 5) := nI_eqB (b := 5) (by omega) (by decide)
      have f6 : (nI (P (k + 1)).1 = 6) = ((P (k + 1)).1 = 6) := nI_eqB (b := 6) (by omega) (by decide)
      have f4 : (nI (P (k + 1)).1 = 4) = ((P (k + 1)).1 = 4) := nI_eqB (b := 4) (by omega) (by decide)
      have n1 : nI (k + 1) + -1 = nI k := by
        rw [← nI_1 k]
        show nI k + 1 + -1 = nI k
        rw [Int32.add_assoc, show (1 : Int32) + -1 = 0 from rfl, Int32.add_zero]
      have ec : cm P (k + 1 + 1) = if (P (k + 1)).1 = 5 ∨ (P (k + 1)).1 = 6 then cm P (k + 1) else decide ((P (k + 1)).1 = 4) := rfl
      rw [u222_7, ec]
      by_cases y5 : (P (k + 1)).1 = 5
      · rw [if_pos (Or.inl y5), ← ih (by omega)]
        simp only [u222_8, u222_11, u222_12, u222_13, u222_14, u222_17, u222_18, u222_21, u222_22, u222_23, u222_25, u222_28, u222_31, eq_self, q_nl0, q_nlI, q_nlR, not_false_eq_true, q_nz0, q_nz1, q_zv0, q_zv1, q_tl1, q_tl0, q_wif, q_swc, q_swn, List.cons_append, List.nil_append, if_true, if_false, e10, e01, Bool.false_eq_true, sh_195, sh_224, p_195_37 hp, c2, c3, c4, f5, eq_true y5, n1]
      · by_cases y6 : (P (k + 1)).1 = 6
        · rw [if_pos (Or.inr y6), ← ih (by omega)]
          simp only [u222_8, u222_11, u222_12, u222_13, u222_14, u222_17, u222_18, u222_21, u222_22, u222_23, u222_25, u222_28, u222_31, eq_self, q_nl0, q_nlI, q_nlR, not_false_eq_true, q_nz0, q_nz1, q_zv0, q_zv1, q_tl1, q_tl0, q_wif, q_swc, q_swn, List.cons_append, List.nil_append, if_true, if_false, e10, e01, Bool.false_eq_true, sh_195, sh_224, p_195_37 hp, c2, c3, c4, f5, f6, eq_false y5, eq_true y6, n1]
        · rw [if_neg (show ¬ ((P (k + 1)).1 = 5 ∨ (P (k + 1)).1 = 6) from fun q => q.elim y5 y6)]
          by_cases y4 : (P (k + 1)).1 = 4
          · rw [if_pos (show decide ((P (k + 1)).1 = 4) = true from decide_eq_true y4)]
            simp only [u222_8, u222_11, u222_12, u222_13, u222_14, u222_17, u222_18, u222_21, u222_22, u222_23, u222_25, u222_28, u222_31, u222_34, u222_35, u222_38, u222_39, u222_40, u222_41, u222_44, u222_45, u222_48, u222_49, eq_self, q_nl0, q_nlI, q_nlR, not_false_eq_true, q_nz0, q_nz1, q_zv0, q_zv1, q_tl1, q_tl0, q_wif, q_swc, q_swn, List.cons_append, List.nil_append, if_true, if_false, e10, e01, Bool.false_eq_true, sh_195, sh_224, p_195_37 hp, c2, c3, c4, f5, f6, f4, eq_false y5, eq_false y6, eq_true y4, nb1]
          · rw [if_neg (show ¬ decide ((P (k + 1)).1 = 4) = true from fun q => y4 (of_decide_eq_true q))]
            simp only [u222_8, u222_11, u222_12, u222_13, u222_14, u222_17, u222_18, u222_21, u222_22, u222_23, u222_25, u222_28, u222_31, u222_34, u222_35, u222_38, u222_39, u222_40, u222_41, u222_44, u222_45, u222_48, u222_49, eq_self, q_nl0, q_nlI, q_nlR, not_false_eq_true, q_nz0, q_nz1, q_zv0, q_zv1, q_tl1, q_tl0, q_wif, q_swc, q_swn, List.cons_append, List.nil_append, if_true, if_false, e10, e01, Bool.false_eq_true, sh_195, sh_224, p_195_37 hp, c2, c3, c4, f5, f6, f4, eq_false y5, eq_false y6, eq_false y4, nb0]
  have z1 : nI z - 1 = nI (z - 1) := by
    rw [show (1 : Int32) = nI 1 from rfl, pk_sub hz]
  have := lp (z - 1) (by omega)
  rw [show z - 1 + 1 = z by omega] at this
  rw [← this]
  simp only [u222_0, u222_1, u222_4, u222_5, u222_6, eq_self, q_nl0, q_nlI, q_nlR, not_false_eq_true, q_nz0, q_nz1, q_zv0, q_zv1, q_tl1, q_tl0, q_wif, q_swc, q_swn, List.cons_append, List.nil_append, if_true, if_false, e10, e01, Bool.false_eq_true, sh_195, H7, z1]
theorem rk_6 {V : Nat → Nat} {L s : Nat} : rkC V L s ≤ 6 := by
  unfold rkC
  repeat' split
  all_goals omega
/-- one that waits is done -/
theorem k_pop {X : XT} {d R L z w t r : Nat} {h : HT} {V : Nat → Nat} {S : SF} {P : Nat → Nat × Nat} (H : KF h R L V S z P w) (hz : 1 ≤ z) (ht : (P (z - 1)).1 = t) (t6 : t ≤ 6) (hr : r ≤ t) (hw : t = 3 → 1 ≤ w) (hn : S.2.2.1 < 560) : ∃ g, FrE R h g ∧ KF g R L V (adS (P (z - 1)).2 0 S) (z - 1) P (if t = 3 then w - 1 else w) ∧ ∀ Q : QT, wq X (d + 4) 220 23 [some (.ref 195), some (.int (nI r))] [] h Q = wq X (d + 4) 220 23 [some (.ref 195), some (.int (nI r))] [] g Q := by
  have hp := H.1.1.1
  have z1 : nI z - 1 = nI (z - 1) := by
    rw [show (1 : Int32) = nI 1 from rfl, pk_sub hz]
  have hz9 := H.2.2.2.2.2.2.1.2
  have c1 := H.2.2.2.2.2.2.1.1
  have c2 : m_in (nI (z - 1)) 90 = true := q_in (by omega) (by decide)
  have c3 : (nI (z - 1)).toNatClampNeg = z - 1 := q_cl (by omega)
  have c4 : m_gI h 224 (z - 1) = nI t := by
    rw [(H.2.2.2.2.2.2.2.1 (z - 1) (by omega)).1, ht]
  have c5 : m_gI h 225 (z - 1) = nI (P (z - 1)).2 := (H.2.2.2.2.2.2.2.1 (z - 1) (by omega)).2
  have f6 : (6 < nI t) = False := eq_false (nI_nlt (a := 6) t6 (by decide))
  have fr : (nI t < nI r) = False := eq_false (nI_nlt hr (by omega))
  have f3 : (nI t = 3) = (t = 3) := nI_eqB (b := 3) (by omega) (by decide)
  obtain ⟨u1, u2⟩ := KF_z (z' := z - 1) H (by omega)
  have d1 : m_gI (m_sI h 195 44 (nI (z - 1))) 195 44 = nI (z - 1) := by rw [gI_sI, if_pos ⟨rfl, rfl⟩]
  have d4 : m_gI (m_sI h 195 44 (nI (z - 1))) 224 (z - 1) = nI t := by rw [gI_sI, if_neg (by omega), c4]
  have d5 : m_gI (m_sI h 195 44 (nI (z - 1))) 225 (z - 1) = nI (P (z - 1)).2 := by rw [gI_sI, if_neg (by omega), c5]
  have d6 : m_gI (m_sI h 195 44 (nI (z - 1))) 195 43 = nI w := u2.2.2.2.2.2.2.2.2
  by_cases y : t = 3
  · have w1 : nI w - 1 = nI (w - 1) := by
      rw [show (1 : Int32) = nI 1 from rfl, pk_sub (hw y)]
    obtain ⟨v1, v2⟩ := KF_w (w' := w - 1) u2
    obtain ⟨g, b1, b2, b3⟩ := KF_emit (X := X) (d := d + 3) (a := (P (z - 1)).2) (b := 0) v2 hn
    have e1 : m_gI (m_sI (m_sI h 195 44 (nI (z - 1))) 195 43 (nI (w - 1))) 195 44 = nI (z - 1) := by rw [gI_sI, if_neg (by omega), d1]
    have e5 : m_gI (m_sI (m_sI h 195 44 (nI (z - 1))) 195 43 (nI (w - 1))) 225 (z - 1) = nI (P (z - 1)).2 := by rw [gI_sI, if_neg (by omega), d5]
    rw [if_pos y]
    refine ⟨g, FrE_tr u1 (FrE_tr v1 b1), b2, fun Q => ?_⟩
    rw [u220_23]
    simp only [u220_24, u220_27, u220_28, u220_31, u220_32, u220_33, u220_34, u220_36, u220_39, u220_40, u220_43, u220_44, u220_47, u220_48, u220_49, u220_50, u220_51, u220_54, u220_55, u220_56, u220_59, u220_60, u220_61, u220_64, u220_65, u220_68, u220_69, u220_72, u220_73, u220_74, u220_77, u220_78, u220_79, u220_82, u220_83, u220_84, u220_87, u220_88, u220_89, u220_92, u220_93, u220_96, u220_97, u220_98, eq_self, q_nl0, q_nlI, q_nlR, not_false_eq_true, q_nz0, q_nz1, q_zv0, q_zv1, q_tl1, q_tl0, q_wif, q_swc, q_swn, List.cons_append, List.nil_append, if_true, if_false, e10, e01, Bool.false_eq_true, sh_195, sh_224, sh_225, p_195_37 hp, p_195_38 hp, c1, z1, c2, c3, c4, f6, fr, gR_sI, d1, d4, f3, eq_true y, d6, w1, e1, e5]
    refine (b3 _).trans ?_
    simp only [u220_101, eq_self, q_nl0, q_nlI, q_nlR, not_false_eq_true, q_nz0, q_nz1, q_zv0, q_zv1, q_tl1, q_tl0, q_wif, q_swc, q_swn, List.cons_append, List.nil_append, if_true, if_false, e10, e01, Bool.false_eq_true]
  · obtain ⟨g, b1, b2, b3⟩ := KF_emit (X := X) (d := d + 3) (a := (P (z - 1)).2) (b := 0) u2 hn
    rw [if_neg y]
    refine ⟨g, FrE_tr u1 b1, b2, fun Q => ?_⟩
    rw [u220_23]
    simp only [u220_24, u220_27, u220_28, u220_31, u220_32, u220_33, u220_34, u220_36, u220_39, u220_40, u220_43, u220_44, u220_47, u220_48, u220_49, u220_50, u220_51, u220_54, u220_55, u220_56, u220_59, u220_60, u220_61, u220_64, u220_65, u220_68, u220_69, u220_72, u220_73, u220_74, u220_77, u220_78, u220_79, u220_82, u220_83, u220_84, u220_87, u220_88, u220_89, u220_92, u220_93, u220_96, u220_97, u220_98, eq_self, q_nl0, q_nlI, q_nlR, not_false_eq_true, q_nz0, q_nz1, q_zv0, q_zv1, q_tl1, q_tl0, q_wif, q_swc, q_swn, List.cons_append, List.nil_append, if_true, if_false, e10, e01, Bool.false_eq_true, sh_195, sh_224, sh_225, p_195_37 hp, p_195_38 hp, c1, z1, c2, c3, c4, f6, fr, gR_sI, d1, d4, f3, eq_false y, d5]
    refine (b3 _).trans ?_
    simp only [u220_101, eq_self, q_nl0, q_nlI, q_nlR, not_false_eq_true, q_nz0, q_nz1, q_zv0, q_zv1, q_tl1, q_tl0, q_wif, q_swc, q_swn, List.cons_append, List.nil_append, if_true, if_false, e10, e01, Bool.false_eq_true]
/-- nothing more is done of what waits -/
theorem k_popE {X : XT} {d R L z w t r : Nat} {h : HT} {V : Nat → Nat} {S : SF} {P : Nat → Nat × Nat} (H : KF h R L V S z P w) (hz : 1 ≤ z) (ht : (P (z - 1)).1 = t) (t8 : t ≤ 8) (hr : t < r ∨ 6 < t) (r6 : r ≤ 6) (Q : QT) : wq X (d + 4) 220 23 [some (.ref 195), some (.int (nI r))] [] h Q = wq X (d + 4) 220 104 [some (.ref 195), some (.int (nI r))] [] h Q := by
  have hp := H.1.1.1
  have z1 : nI z - 1 = nI (z - 1) := by
    rw [show (1 : Int32) = nI 1 from rfl, pk_sub hz]
  have hz9 := H.2.2.2.2.2.2.1.2
  have c1 := H.2.2.2.2.2.2.1.1
  have c2 : m_in (nI (z - 1)) 90 = true := q_in (by omega) (by decide)
  have c3 : (nI (z - 1)).toNatClampNeg = z - 1 := q_cl (by omega)
  have c4 : m_gI h 224 (z - 1) = nI t := by
    rw [(H.2.2.2.2.2.2.2.1 (z - 1) (by omega)).1, ht]
  have f6 : (6 < nI t) = (6 < t) := nI_ltB (a := 6) (by decide) (by omega)
  have fr : (nI t < nI r) = (t < r) := nI_ltB (by omega) (by omega)
  rw [u220_23]
  by_cases y : 6 < t
  · simp only [u220_24, u220_27, u220_28, u220_31, u220_32, u220_33, u220_34, u220_36, u220_39, u220_40, u220_43, u220_44, u220_47, u220_48, u220_49, u220_50, u220_51, eq_self, q_nl0, q_nlI, q_nlR, not_false_eq_true, q_nz0, q_nz1, q_zv0, q_zv1, q_tl1, q_tl0, q_wif, q_swc, q_swn, List.cons_append, List.nil_append, if_true, if_false, e10, e01, Bool.false_eq_true, sh_195, sh_224, p_195_37 hp, c1, z1, c2, c3, c4, f6, eq_true y]
  · simp only [u220_24, u220_27, u220_28, u220_31, u220_32, u220_33, u220_34, u220_36, u220_39, u220_40, u220_43, u220_44, u220_47, u220_48, u220_49, u220_50, u220_51, eq_self, q_nl0, q_nlI, q_nlR, not_false_eq_true, q_nz0, q_nz1, q_zv0, q_zv1, q_tl1, q_tl0, q_wif, q_swc, q_swn, List.cons_append, List.nil_append, if_true, if_false, e10, e01, Bool.false_eq_true, sh_195, sh_224, p_195_37 hp, c1, z1, c2, c3, c4, f6, eq_false y, fr, eq_true (show t < r by omega)]
def sgC (V : Nat → Nat) (L s r : Nat) : Nat := if r = 2 then 38 else if r = 1 then 124 else sA V L s
/-- an op waits -/
theorem k_op {X : XT} {d R L z w r : Nat} {h : HT} {V : Nat → Nat} {S : SF} {P : Nat → Nat × Nat} (H : KF h R L V S z P w) (hz9 : z < 90) (r0 : 0 < r) (r6 : r ≤ 6) : ∃ g, FrE R h g ∧ KF g R L V (avS V L S) (z + 1) (pu P z r (sgC V L S.1 r)) w ∧ ∀ Q : QT, wq X (d + 4) 220 104 [some (.ref 195), some (.int (nI r))] [] h Q = Q (some (.int 1)) g := by
  have nb1 : q_nb .boolean 1 = true := by decide
  obtain ⟨g1, b1, b2, b3⟩ := KF_push (X := X) (d := d + 3) (a := r) (b := sgC V L S.1 r) H hz9
  obtain ⟨g2, a1, a2, a3⟩ := KF_av (X := X) (d := d + 1) b2
  refine ⟨g2, FrE_tr b1 a1, a2, fun Q => ?_⟩
  have f0 : (0 < nI r) = True := eq_true (nI_lt (a := 0) r0 (by omega))
  have f2 : (nI r = 2) = (r = 2) := nI_eqB (b := 2) (by omega) (by decide)
  have f1 : (nI r = 1) = (r = 1) := nI_eqB (b := 1) (by omega) (by decide)
  have ks : ∀ Q : QT, wq X (d + 3) 192 0 [some (.ref 195), some (.int (nI S.1))] [] h Q = Q (some (.int (nI (sA V L S.1)))) h := fun Q => k_sign (X := X) (d := d + 3) (Q := Q) H.1.1 (by have := H.1.2.1; have := H.1.1.2.2.2.1; omega)
  have tl : ∀ Q : QT, wq X (d + 4) 220 138 [some (.ref 195), some (.int (nI r))] [.int (nI (sgC V L S.1 r)), .int (nI r), .ref 195] h Q = Q (some (.int 1)) g2 := fun Q => by
    simp only [u220_138, eq_self, q_nl0, q_nlI, q_nlR, not_false_eq_true, q_nz0, q_nz1, q_zv0, q_zv1, q_tl1, q_tl0, q_wif, q_swc, q_swn, List.cons_append, List.nil_append, if_true, if_false, e10, e01, Bool.false_eq_true, sh_195]
    refine (b3 _).trans ?_
    simp only [u220_141, u220_142, eq_self, q_nl0, q_nlI, q_nlR, not_false_eq_true, q_nz0, q_nz1, q_zv0, q_zv1, q_tl1, q_tl0, q_wif, q_swc, q_swn, List.cons_append, List.nil_append, if_true, if_false, e10, e01, Bool.false_eq_true, sh_195]
    refine (a3 _).trans ?_
    simp only [u220_145, u220_146, eq_self, q_nl0, q_nlI, q_nlR, not_false_eq_true, q_nz0, q_nz1, q_zv0, q_zv1, q_tl1, q_tl0, q_wif, q_swc, q_swn, List.cons_append, List.nil_append, if_true, if_false, e10, e01, Bool.false_eq_true, nb1]
  by_cases y2 : r = 2
  · have es : sgC V L S.1 r = 38 := if_pos y2
    rw [es] at tl
    simp only [u220_104, u220_105, u220_108, u220_109, u220_110, u220_111, u220_112, u220_115, u220_117, u220_120, u220_121, u220_122, u220_125, u220_127, u220_130, u220_131, u220_132, u220_135, eq_self, q_nl0, q_nlI, q_nlR, not_false_eq_true, q_nz0, q_nz1, q_zv0, q_zv1, q_tl1, q_tl0, q_wif, q_swc, q_swn, List.cons_append, List.nil_append, if_true, if_false, e10, e01, Bool.false_eq_true, f0, f2, eq_true y2]
    exact tl Q
  · by_cases y1 : r = 1
    · have es : sgC V L S.1 r = 124 := by
        unfold sgC
        rw [if_neg y2, if_pos y1]
      rw [es] at tl
      simp only [u220_104, u220_105, u220_108, u220_109, u220_110, u220_111, u220_112, u220_115, u220_117, u220_120, u220_121, u220_122, u220_125, u220_127, u220_130, u220_131, u220_132, u220_135, eq_self, q_nl0, q_nlI, q_nlR, not_false_eq_true, q_nz0, q_nz1, q_zv0, q_zv1, q_tl1, q_tl0, q_wif, q_swc, q_swn, List.cons_append, List.nil_append, if_true, if_false, e10, e01, Bool.false_eq_true, f0, f2, eq_false y2, f1, eq_true y1]
      exact tl Q
    · have es : sgC V L S.1 r = sA V L S.1 := by
        unfold sgC
        rw [if_neg y2, if_neg y1]
      rw [es] at tl
      simp only [u220_104, u220_105, u220_108, u220_109, u220_110, u220_111, u220_112, u220_115, u220_117, u220_120, u220_121, u220_122, u220_125, u220_127, u220_130, u220_131, u220_132, u220_135, eq_self, q_nl0, q_nlI, q_nlR, not_false_eq_true, q_nz0, q_nz1, q_zv0, q_zv1, q_tl1, q_tl0, q_wif, q_swc, q_swn, List.cons_append, List.nil_append, if_true, if_false, e10, e01, Bool.false_eq_true, sh_195, f0, f2, eq_false y2, f1, eq_false y1, H.1.2.2.1, ks, Option.toList]
      exact tl Q
