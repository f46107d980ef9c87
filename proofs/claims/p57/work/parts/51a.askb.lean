theorem a_feedsO {X : XT} {d T N : Nat} {h : HT} {τ : CT} {A : Nat → Int32} {m n : Nat} (H : CQ h T τ N A) (hm : m < τ 0 1) (hn1 : 1 ≤ n) (hn2 : n ≤ 60) (z : (aN A).testBit m = true) : An X (d + 10) 151 [some (.ref 1), some (.int (nI m)), some (.int (nI n)), none] h (oI (fstN (feF τ A m n) 99)) := by
  have hp := cq_p H
  have hk := cq_k H
  have h7 := o_mn hk
  have hn := cq_n H
  have s38 : (m_sh (KS X) 38).1 = 7 := by rw [sh_38]
  have ix : ixB (nI m) (τ 0 1) = true := ixB_in hm (by omega)
  have hb := bit01 hn (show m < 8 by omega)
  have iy := cnt_in hn1 hn2
  have cstep : ∀ i g, i ≤ 99 → Same h g → ∃ g', Same h g' ∧ ∀ Q : QT, wq X (d + 10) 151 30 [some (.ref 1), some (.int (nI m)), some (.int (nI n)), some (.int (nI i))] [] g Q = if feF τ A m n i = true then Q (some (.int (nI i))) g' else wq X (d + 10) 151 30 [some (.ref 1), some (.int (nI m)), some (.int (nI n)), some (.int (nI (i + 1)))] [] g' Q := by
    intro i g hi hs
    have C := CQ_same hs H
    obtain ⟨g', c1, c2⟩ := c_stays (X := X) (d := d + 4) (v := nI i) C hm z hn2
    refine ⟨g', Same_tr hs c1, fun Q => ?_⟩
    have e2 : (99 < nI i) = False := eq_false (nI_nlt (a := 99) (by omega) (by omega))
    unfold feF
    rw [u151_30]
    simp only [u151_31, u151_33, u151_36, u151_37, u151_38, u151_39, u151_40, eq_self, q_nl0, q_nlI, q_nlR, not_false_eq_true, q_nz0, q_nz1, q_zv0, q_zv1, q_tl1, q_tl0, q_wif, q_swc, q_swn, List.cons_append, List.nil_append, if_true, if_false, e10, e01, Bool.false_eq_true, sh_1, e2, c2]
    simp only [u151_43, u151_46, u151_47, u151_48, u151_51, eq_self, q_nl0, q_nlI, q_nlR, not_false_eq_true, q_nz0, q_nz1, q_zv0, q_zv1, q_tl1, q_tl0, q_wif, q_swc, q_swn, List.cons_append, List.nil_append, if_true, if_false, e10, e01, Bool.false_eq_true, if_b0, nI_1]
    by_cases w : stB (reO τ (upL A m (nI i)) m) n = true
    · simp only [w, not_true_eq_false, if_false, if_true]
    · simp only [w, not_false_eq_true, if_true, if_false, Bool.false_eq_true]
  have start : ∀ Q : QT, wq X (d + 10) 151 0 [some (.ref 1), some (.int (nI m)), some (.int (nI n)), none] [] h Q = wq X (d + 10) 151 30 [some (.ref 1), some (.int (nI m)), some (.int (nI n)), some (.int (nI 0))] [] h Q := by
    intro Q
    simp only [u151_0, u151_1, u151_2, u151_5, u151_8, u151_9, u151_12, u151_13, u151_16, u151_19, u151_20, u151_23, u151_26, u151_27, u151_28, u151_29, eq_self, q_nl0, q_nlI, q_nlR, not_false_eq_true, q_nz0, q_nz1, q_zv0, q_zv1, q_tl1, q_tl0, q_wif, q_swc, q_swn, List.cons_append, List.nil_append, if_true, if_false, e10, e01, Bool.false_eq_true, sh_1, sh_38, c_isIx (cq_t H) (cq_T H), ix, p_1_3 hp, c_isOut s38, cq_o H, hb, z, c_isCount, iy]
    rfl
  have lp : ∀ k, k ≤ 100 → (∀ j, j < k → feF τ A m n j = false) → ∃ g, Same h g ∧ (fun Q : QT => wq X (d + 10) 151 30 [some (.ref 1), some (.int (nI m)), some (.int (nI n)), some (.int (nI 0))] [] h Q) = fun Q => wq X (d + 10) 151 30 [some (.ref 1), some (.int (nI m)), some (.int (nI n)), some (.int (nI k))] [] g Q := by
    intro k hk2 hz
    refine q_loopI (fun i (g : HT) (Q : QT) => wq X (d + 10) 151 30 [some (.ref 1), some (.int (nI m)), some (.int (nI n)), some (.int (nI i))] [] g Q) (fun i g => Same h g) k (fun i hi g hg => ?_) h Same_rf
    obtain ⟨g', q1, q2⟩ := cstep i g (by omega) hg
    refine ⟨g', q1, funext fun Q => ?_⟩
    rw [q2 Q, hz i hi, if_neg Bool.false_ne_true]
  cases e : fstN (feF τ A m n) 99 with
  | none =>
    have hz := fst_none 99 e
    obtain ⟨g, q1, q2⟩ := lp 100 (Nat.le_refl _) (fun j hj => hz j (by omega))
    refine ⟨g, q1, fun Q => ?_⟩
    rw [start, congrFun q2 Q, u151_30]
    simp only [u151_31, u151_33, u151_54, u151_55, eq_self, q_nl0, q_nlI, q_nlR, not_false_eq_true, q_nz0, q_nz1, q_zv0, q_zv1, q_tl1, q_tl0, q_wif, q_swc, q_swn, List.cons_append, List.nil_append, if_true, if_false, e10, e01, Bool.false_eq_true, eq_true (show 99 < nI 100 by decide), oI]
  | some v =>
    have hz := fst_some 99 e
    obtain ⟨g, q1, q2⟩ := lp v (by omega) hz.2.2
    obtain ⟨g', q3, q4⟩ := cstep v g hz.1 q1
    refine ⟨g', q3, fun Q => ?_⟩
    rw [start, congrFun q2 Q, q4 Q, hz.2.1, if_pos rfl]
    rfl
theorem a_feedsI {X : XT} {d T N : Nat} {h : HT} {τ : CT} {A : Nat → Int32} {m : Nat} {y : Int32} (H : CQ h T τ N A) (hm : m < τ 0 1) (z : ¬ (aN A).testBit m = true) : An X (d + 10) 151 [some (.ref 1), some (.int (nI m)), some (.int y), none] h (-1) := by
  have hp := cq_p H
  have hk := cq_k H
  have h7 := o_mn hk
  have hn := cq_n H
  have s38 : (m_sh (KS X) 38).1 = 7 := by rw [sh_38]
  have ix : ixB (nI m) (τ 0 1) = true := ixB_in hm (by omega)
  have hb := bit01 hn (show m < 8 by omega)
  refine An_pure (fun Q => ?_)
  simp only [u151_0, u151_1, u151_2, u151_5, u151_8, u151_9, u151_12, u151_13, u151_16, u151_19, u151_20, u151_23, u151_26, u151_27, eq_self, q_nl0, q_nlI, q_nlR, not_false_eq_true, q_nz0, q_nz1, q_zv0, q_zv1, q_tl1, q_tl0, q_wif, q_swc, q_swn, List.cons_append, List.nil_append, if_true, if_false, e10, e01, Bool.false_eq_true, sh_1, sh_38, c_isIx (cq_t H) (cq_T H), ix, p_1_3 hp, c_isOut s38, cq_o H, hb, z]
