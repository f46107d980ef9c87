theorem a_returnsO {X : XT} {d T N : Nat} {h : HT} {τ : CT} {A : Nat → Int32} {m : Nat} (H : CQ h T τ N A) (hm : m < τ 0 1) (z : (aN A).testBit m = true) : An X (d + 10) 160 [some (.ref 1), some (.int (nI m)), none] h (oI (reO τ A m)) := by
  have hp := cq_p H
  have hk := cq_k H
  have h7 := o_mn hk
  have hn := cq_n H
  have s38 : (m_sh (KS X) 38).1 = 7 := by rw [sh_38]
  have ix : ixB (nI m) (τ 0 1) = true := ixB_in hm (by omega)
  have hb := bit01 hn (show m < 8 by omega)
  obtain ⟨g, a1, a2, a3⟩ := c_look (X := X) (d := d + 4) H (Nat.le_refl 60)
  have C := CQ_same a1 H
  have a3' : ∀ Q : QT, wq X (d + 9) 104 0 [some (.ref 171), some (.ref T), some (.ref 38), some (.int 60), none, none] [] h Q = Q none g := a3
  have st : ∀ i (Q : QT), i ≤ 60 → wq X (d + 10) 160 40 [some (.ref 1), some (.int (nI m)), some (.int (nI i))] [] g Q = if (aN (aIt τ A i)).testBit m = true then wq X (d + 10) 160 40 [some (.ref 1), some (.int (nI m)), some (.int (nI (i + 1)))] [] g Q else Q (some (.int (nI i))) g := by
    intro i Q hi
    have e2 : (60 < nI i) = False := eq_false (nI_nlt (a := 60) (by omega) (by omega))
    have hb2 := bit01 (aN_lt hk (it_ok hk (cq_a H) i)) (show m < 8 by omega)
    rw [u160_40]
    simp only [u160_41, u160_43, u160_46, u160_47, u160_50, u160_51, u160_54, u160_55, u160_56, u160_57, u160_58, u160_61, u160_62, u160_63, u160_66, eq_self, q_nl0, q_nlI, q_nlR, not_false_eq_true, q_nz0, q_nz1, q_zv0, q_zv1, q_tl1, q_tl0, q_wif, q_swc, q_swn, List.cons_append, List.nil_append, if_true, if_false, e10, e01, Bool.false_eq_true, sh_1, sh_171, e2, p_1_8 (cq_p C), c_outB (cq_p C) a2 (show i ≤ 60 by omega) (Nat.le_refl _), hb2, if_b0, nI_1]
    by_cases y : (aN (aIt τ A i)).testBit m = true
    · simp only [y, not_true_eq_false, if_false, if_true]
    · simp only [y, not_false_eq_true, if_false, if_true, Bool.false_eq_true]
  refine ⟨g, a1, fun Q => ?_⟩
  simp only [u160_0, u160_1, u160_2, u160_5, u160_8, u160_9, u160_12, u160_13, u160_16, u160_19, u160_20, u160_21, u160_22, u160_25, u160_26, u160_29, u160_30, u160_33, u160_35, eq_self, q_nl0, q_nlI, q_nlR, not_false_eq_true, q_nz0, q_nz1, q_zv0, q_zv1, q_tl1, q_tl0, q_wif, q_swc, q_swn, List.cons_append, List.nil_append, if_true, if_false, e10, e01, Bool.false_eq_true, sh_1, sh_38, sh_171, c_isIx (cq_t H) (cq_T H), ix, p_1_3 hp, c_isOut s38, cq_o H, hb, z, p_1_8 hp, cq_T H, a3']
  simp only [u160_38, u160_39, eq_self, q_nl0, q_nlI, q_nlR, not_false_eq_true, q_nz0, q_nz1, q_zv0, q_zv1, q_tl1, q_tl0, q_wif, q_swc, q_swn, List.cons_append, List.nil_append, if_true, if_false, e10, e01, Bool.false_eq_true]
  unfold reO
  cases e : fstN (reP τ A m) 60 with
  | none =>
    have hz := fst_none 60 e
    refine (q_loopFrom (fun i => wq X (d + 9 + 1) 160 40 [some (.ref 1), some (.int (nI m)), some (.int (nI i))] [] g Q) 1 61 (by omega) (fun i h1 hi => ?_)).trans ?_
    · show wq X (d + 10) 160 40 _ _ _ _ = _
      rw [st i Q (by omega), if_pos (reP_f (hz i (by omega)))]
    · rw [u160_40]
      simp only [u160_41, u160_43, u160_69, u160_70, eq_self, q_nl0, q_nlI, q_nlR, not_false_eq_true, q_nz0, q_nz1, q_zv0, q_zv1, q_tl1, q_tl0, q_wif, q_swc, q_swn, List.cons_append, List.nil_append, if_true, if_false, e10, e01, Bool.false_eq_true, eq_true (show 60 < nI 61 by decide), oI]
  | some n =>
    have hz := fst_some 60 e
    have hn1 : 1 ≤ n := by
      rcases Nat.eq_zero_or_pos n with q | q
      · subst q
        have := reP_t hz.2.1
        rw [show aIt τ A 0 = A from rfl, z] at this
        cases this
      · exact q
    refine (q_loopFrom (fun i => wq X (d + 9 + 1) 160 40 [some (.ref 1), some (.int (nI m)), some (.int (nI i))] [] g Q) 1 n hn1 (fun i h1 hi => ?_)).trans ?_
    · show wq X (d + 10) 160 40 _ _ _ _ = _
      rw [st i Q (by omega), if_pos (reP_f (hz.2.2 i hi))]
    · show wq X (d + 10) 160 40 _ _ _ _ = _
      rw [st n Q hz.1, if_neg (by rw [reP_t hz.2.1]; decide)]
      rfl
theorem a_returnsI {X : XT} {d T N : Nat} {h : HT} {τ : CT} {A : Nat → Int32} {m : Nat} (H : CQ h T τ N A) (hm : m < τ 0 1) (z : ¬ (aN A).testBit m = true) : An X (d + 10) 160 [some (.ref 1), some (.int (nI m)), none] h (-1) := by
  have hp := cq_p H
  have hk := cq_k H
  have h7 := o_mn hk
  have hn := cq_n H
  have s38 : (m_sh (KS X) 38).1 = 7 := by rw [sh_38]
  have ix : ixB (nI m) (τ 0 1) = true := ixB_in hm (by omega)
  have hb := bit01 hn (show m < 8 by omega)
  refine An_pure (fun Q => ?_)
  simp only [u160_0, u160_1, u160_2, u160_5, u160_8, u160_9, u160_12, u160_13, u160_16, u160_19, u160_20, eq_self, q_nl0, q_nlI, q_nlR, not_false_eq_true, q_nz0, q_nz1, q_zv0, q_zv1, q_tl1, q_tl0, q_wif, q_swc, q_swn, List.cons_append, List.nil_append, if_true, if_false, e10, e01, Bool.false_eq_true, sh_1, sh_38, c_isIx (cq_t H) (cq_T H), ix, p_1_3 hp, c_isOut s38, cq_o H, hb, z]
theorem a_returnsN {X : XT} {d T N : Nat} {h : HT} {τ : CT} {A : Nat → Int32} {x : Int32} (H : CQ h T τ N A) (ix : ixB x (τ 0 1) = false) : An X (d + 10) 160 [some (.ref 1), some (.int x), none] h (-1) := by
  have hp := cq_p H
  have hk := cq_k H
  have h7 := o_mn hk
  have hn := cq_n H
  have s38 : (m_sh (KS X) 38).1 = 7 := by rw [sh_38]
  refine An_pure (fun Q => ?_)
  simp only [u160_0, u160_1, u160_2, u160_5, u160_8, u160_9, u160_12, u160_13, u160_16, u160_19, u160_20, eq_self, q_nl0, q_nlI, q_nlR, not_false_eq_true, q_nz0, q_nz1, q_zv0, q_zv1, q_tl1, q_tl0, q_wif, q_swc, q_swn, List.cons_append, List.nil_append, if_true, if_false, e10, e01, Bool.false_eq_true, sh_1, c_isIx (cq_t H) (cq_T H), ix]
theorem a_weakest {X : XT} {d T N : Nat} {h : HT} {τ : CT} {A : Nat → Int32} (H : CQ h T τ N A) : An X (d + 10) 161 [some (.ref 1), none, none, none] h (wkB (fL (wkS τ A) none (τ 0 1))) := by
  have hp := cq_p H
  have hk := cq_k H
  have h7 := o_mn hk
  have hn := cq_n H
  obtain ⟨g, a1, a2, a3⟩ := c_look (X := X) (d := d + 4) H (Nat.le_refl 60)
  have C := CQ_same a1 H
  have a3' : ∀ Q : QT, wq X (d + 9) 104 0 [some (.ref 171), some (.ref T), some (.ref 38), some (.int 60), none, none] [] h Q = Q none g := a3
  -- what is back on day i
  have bk : ∀ i m, m < 7 → (aN A &&& (127 ^^^ aN (aIt τ A i))).testBit m = ((aN A).testBit m && !(aN (aIt τ A i)).testBit m) := fun i m hm => and_bit hm
  have inn : ∀ i m (Q : QT) (l1 : Int32), m ≤ 7 → (∀ j, j < m → (aN A &&& (127 ^^^ aN (aIt τ A i))).testBit j = false) → wq X (d + 10) 161 46 [some (.ref 1), some (.int l1), some (.int (nI (aN A &&& (127 ^^^ aN (aIt τ A i))))), some (.int (nI 0))] [] g Q = wq X (d + 10) 161 46 [some (.ref 1), some (.int l1), some (.int (nI (aN A &&& (127 ^^^ aN (aIt τ A i))))), some (.int (nI m))] [] g Q := by
    intro i m Q l1 hm hz
    refine q_loop (fun j => wq X (d + 10) 161 46 [some (.ref 1), some (.int l1), some (.int (nI (aN A &&& (127 ^^^ aN (aIt τ A i))))), some (.int (nI j))] [] g Q) m (fun j hj => ?_)
    have e2 : (nI j < 7) = True := eq_true (nI_lt (b := 7) (by omega) (by omega))
    have hb := bit01 (and_128 (b := 127 ^^^ aN (aIt τ A i)) hn) (show j < 8 by omega)
    show wq X (d + 10) 161 46 _ _ _ _ = _
    rw [u161_46]
    simp only [u161_47, u161_49, u161_52, u161_53, u161_54, u161_55, u161_56, u161_57, u161_58, u161_61, u161_62, u161_63, u161_66, eq_self, q_nl0, q_nlI, q_nlR, not_false_eq_true, q_nz0, q_nz1, q_zv0, q_zv1, q_tl1, q_tl0, q_wif, q_swc, q_swn, List.cons_append, List.nil_append, if_true, if_false, e10, e01, Bool.false_eq_true, e2, hb, hz j hj, nI_1]
  have out : ∀ i (Q : QT) (l2 l3 : Option Value), 1 ≤ i → i ≤ 60 → wq X (d + 10) 161 19 [some (.ref 1), some (.int (nI i)), l2, l3] [] g Q = wq X (d + 10) 161 46 [some (.ref 1), some (.int (nI i)), some (.int (nI (aN A &&& (127 ^^^ aN (aIt τ A i))))), some (.int (nI 0))] [] g Q := by
    intro i Q l2 l3 h1 hi
    have e2 : (60 < nI i) = False := eq_false (nI_nlt (a := 60) (by omega) (by omega))
    rw [u161_19]
    simp only [u161_20, u161_22, u161_25, u161_26, u161_29, u161_32, u161_33, u161_36, u161_37, u161_40, u161_41, u161_42, u161_43, u161_44, u161_45, eq_self, q_nl0, q_nlI, q_nlR, not_false_eq_true, q_nz0, q_nz1, q_zv0, q_zv1, q_tl1, q_tl0, q_wif, q_swc, q_swn, List.cons_append, List.nil_append, if_true, if_false, e10, e01, Bool.false_eq_true, sh_1, sh_38, sh_171, e2, p_1_3 (cq_p C), cq_o C, p_1_8 (cq_p C), c_outB (cq_p C) a2 (show i ≤ 60 by omega) (Nat.le_refl _), nI_not _ hn _ (aN_lt hk (it_ok hk (cq_a H) i))]
    rfl
  have day : ∀ i (Q : QT) (l : Option Value × Option Value), 1 ≤ i → i ≤ 60 → (∀ j, j < 7 → (aN A &&& (127 ^^^ aN (aIt τ A i))).testBit j = false) → wq X (d + 10) 161 19 [some (.ref 1), some (.int (nI i)), l.1, l.2] [] g Q = wq X (d + 10) 161 19 [some (.ref 1), some (.int (nI (i + 1))), some (.int (nI (aN A &&& (127 ^^^ aN (aIt τ A i))))), some (.int (nI 7))] [] g Q := by
    intro i Q l h1 hi hz
    rw [out i Q l.1 l.2 h1 hi, inn i 7 Q (nI i) (Nat.le_refl _) hz, u161_46]
    simp only [u161_47, u161_49, u161_69, u161_72, eq_self, q_nl0, q_nlI, q_nlR, not_false_eq_true, q_nz0, q_nz1, q_zv0, q_zv1, q_tl1, q_tl0, q_wif, q_swc, q_swn, List.cons_append, List.nil_append, if_true, if_false, e10, e01, Bool.false_eq_true, eq_false (show ¬ nI 7 < 7 by decide), nI_1]
  refine ⟨g, a1, fun Q => ?_⟩
  simp only [u161_0, u161_1, u161_4, u161_5, u161_8, u161_9, u161_12, u161_14, eq_self, q_nl0, q_nlI, q_nlR, not_false_eq_true, q_nz0, q_nz1, q_zv0, q_zv1, q_tl1, q_tl0, q_wif, q_swc, q_swn, List.cons_append, List.nil_append, if_true, if_false, e10, e01, Bool.false_eq_true, sh_1, sh_171, p_1_8 hp, cq_T H, p_1_3 hp, a3']
  simp only [u161_17, u161_18, eq_self, q_nl0, q_nlI, q_nlR, not_false_eq_true, q_nz0, q_nz1, q_zv0, q_zv1, q_tl1, q_tl0, q_wif, q_swc, q_swn, List.cons_append, List.nil_append, if_true, if_false, e10, e01, Bool.false_eq_true]
  have lp : ∀ n, 1 ≤ n → n ≤ 61 → (∀ i, 1 ≤ i → i < n → ∀ j, j < 7 → (aN A &&& (127 ^^^ aN (aIt τ A i))).testBit j = false) → ∃ l : Option Value × Option Value, wq X (d + 10) 161 19 [some (.ref 1), some (.int 1), none, none] [] g Q = wq X (d + 10) 161 19 [some (.ref 1), some (.int (nI n)), l.1, l.2] [] g Q := by
    intro n h1 h2 hz
    induction n with
    | zero => omega
    | succ n ih =>
      by_cases z : n = 0
      · subst z
        exact ⟨(none, none), rfl⟩
      · obtain ⟨l, e⟩ := ih (by omega) (by omega) (fun i a b => hz i a (by omega))
        exact ⟨(_, _), e.trans (day n Q l (by omega) (by omega) (hz n (by omega) (by omega)))⟩
  cases e : fL (wkS τ A) none (τ 0 1) with
  | none =>
    have hz := wk_none _ e
    obtain ⟨l, e1⟩ := lp 61 (by omega) (by omega) (fun i h1 hi j hj => by
      rw [bk i j hj]
      by_cases z : (aN A).testBit j = true
      · have hm := bit_lt (cq_a H).1.2 z
        rw [reP_f (fst_none 60 (hz j hm z) i (by omega))]
        simp
      · simp only [z, Bool.false_and])
    refine e1.trans ?_
    rw [u161_19]
    simp only [u161_20, u161_22, u161_75, u161_76, eq_self, q_nl0, q_nlI, q_nlR, not_false_eq_true, q_nz0, q_nz1, q_zv0, q_zv1, q_tl1, q_tl0, q_wif, q_swc, q_swn, List.cons_append, List.nil_append, if_true, if_false, e10, e01, Bool.false_eq_true, eq_true (show 60 < nI 61 by decide), wkB]
  | some p =>
    obtain ⟨q, v⟩ := p
    obtain ⟨⟨hq, hqb, hqr⟩, hmin⟩ := wk_some _ q v e
    have hf := fst_some 60 hqr
    have hv1 : 1 ≤ v := by
      rcases Nat.eq_zero_or_pos v with y | y
      · subst y
        have := reP_t hf.2.1
        rw [show aIt τ A 0 = A from rfl, hqb] at this
        cases this
      · exact y
    have hle : ∀ m i, (aN A).testBit m = true → (aN (aIt τ A i)).testBit m = false → i ≤ 60 → v < i ∨ v = i ∧ (i = v → True) ∧ q ≤ m ∨ v ≤ i ∧ v ≠ i := by
      intro m i hb hc hi
      have hm := bit_lt (cq_a H).1.2 hb
      cases r : reO τ A m with
      | none =>
        have := reP_f (fst_none 60 r i hi)
        rw [hc] at this
        cases this
      | some w =>
        have hw := fst_some 60 r
        have hwi : w ≤ i := by
          rcases Nat.lt_or_ge i w with y | y
          · have := reP_f (hw.2.2 i y)
            rw [hc] at this
            cases this
          · exact y
        rcases hmin m hm hb w r with t | t
        · exact Or.inl (by omega)
        · by_cases y : v = i
          · exact Or.inr (Or.inl ⟨y, fun _ => trivial, t.2⟩)
          · exact Or.inr (Or.inr ⟨by omega, y⟩)
    obtain ⟨l, e1⟩ := lp v hv1 (by omega) (fun i h1 hi j hj => by
      rw [bk i j hj]
      by_cases z : (aN A).testBit j = true
      · by_cases y : (aN (aIt τ A i)).testBit j = true
        · rw [y]
          simp
        · have := hle j i z (by simpa using y) (by omega)
          omega
      · simp only [z, Bool.false_and])
    refine e1.trans ((out v Q l.1 l.2 hv1 hf.1).trans ?_)
    refine (inn v q Q (nI v) (by omega) (fun j hj => ?_)).trans ?_
    · rw [bk v j (by omega)]
      by_cases z : (aN A).testBit j = true
      · by_cases y : (aN (aIt τ A v)).testBit j = true
        · rw [y]
          simp
        · have := hle j v z (by simpa using y) hf.1
          omega
      · simp only [z, Bool.false_and]
    · have e2 : (nI q < 7) = True := eq_true (nI_lt (b := 7) (by omega) (by omega))
      have hb := bit01 (and_128 (b := 127 ^^^ aN (aIt τ A v)) hn) (show q < 8 by omega)
      have hz : (aN A &&& (127 ^^^ aN (aIt τ A v))).testBit q = true := by
        rw [bk v q (by omega), hqb, reP_t hf.2.1]
        rfl
      rw [u161_46]
      simp only [u161_47, u161_49, u161_52, u161_53, u161_54, u161_55, u161_56, u161_57, u161_58, u161_61, u161_62, eq_self, q_nl0, q_nlI, q_nlR, not_false_eq_true, q_nz0, q_nz1, q_zv0, q_zv1, q_tl1, q_tl0, q_wif, q_swc, q_swn, List.cons_append, List.nil_append, if_true, if_false, e10, e01, Bool.false_eq_true, e2, hb, hz, wkB]
