/-! questions of days ahead -/
theorem b_hands {X : XT} {d T b f N : Nat} {h : HT} {τ : CT} {A : Nat → Int32} (H : CQ h T τ N A) (K : KQ h b f τ N A) (x y : Int32) : Pr X (d + 10) 102 [some (.ref 1), some (.int x), some (.int y)] 276 [some (.ref 195), some (.int x), some (.int y), none] h := by
  have hp := cq_p H
  have hk := cq_k H
  have h4 := o_cr hk
  have hT := ct_T (cq_t H)
  rcases ix_cases x (k := τ 0 0) (by omega) with ⟨c, hc, rfl, ixc⟩ | ixc
  · have hs := sMen_lt hk c
    rcases ix_cases y (k := 61) (by decide) with ⟨n, hn, rfl, ix⟩ | ix
    · have hn8 := aN_lt hk (it_ok hk (cq_a H) n)
      have e8 : sMen τ c &&& (127 ^^^ aN (aIt τ A n)) < 128 := and_128 hs
      refine Pr_of (nI (pcN (sMen τ c &&& (127 ^^^ aN (aIt τ A n))))) ?_ ?_
      · obtain ⟨g, a1, a2, a3⟩ := c_look (X := X) (d := d + 4) H (show n ≤ 60 by omega)
        have C := CQ_same a1 H
        refine ⟨g, a1, fun Q => ?_⟩
        simp only [u102_0, u102_1, u102_2, u102_5, u102_8, u102_9, u102_12, u102_15, u102_16, u102_17, u102_18, u102_21, u102_22, u102_25, u102_26, u102_29, u102_30, u102_33, u102_34, u102_37, u102_38, u102_39, u102_42, u102_43, u102_46, u102_49, eq_self, q_nl0, q_nlI, q_nlR, not_false_eq_true, q_nz0, q_nz1, q_zv0, q_zv1, q_tl1, q_tl0, q_wif, q_swc, q_swn, List.cons_append, List.nil_append, if_true, if_false, e10, e01, Bool.false_eq_true, sh_1, sh_171, c_isCraft (cq_t H) (cq_T H), ixc, c_isAhead, ix, p_1_8 hp, cq_T H, p_1_3 hp, a3]
        simp only [u102_0, u102_1, u102_2, u102_5, u102_8, u102_9, u102_12, u102_15, u102_16, u102_17, u102_18, u102_21, u102_22, u102_25, u102_26, u102_29, u102_30, u102_33, u102_34, u102_37, u102_38, u102_39, u102_42, u102_43, u102_46, u102_49, eq_self, q_nl0, q_nlI, q_nlR, not_false_eq_true, q_nz0, q_nz1, q_zv0, q_zv1, q_tl1, q_tl0, q_wif, q_swc, q_swn, List.cons_append, List.nil_append, if_true, if_false, e10, e01, Bool.false_eq_true, sh_1, sh_171, shT_0 hT, p_1_8 (cq_p C), cq_T C, c_outB (cq_p C) a2 (Nat.le_refl n) (show n ≤ 60 by omega), c_handsOf (cq_t C) hn8 hc]
      · intro g a
        have K' := KQ_same a K
        obtain ⟨g1, a1, a2, a3, a4⟩ := k_goDays (X := X) (d := d + 2) K' (show n ≤ 1000 by omega)
        obtain ⟨g2, b1, b2⟩ := k_bringG (X := X) (d := d + 9) K' a1 a2 a3 (fun k hk2 => it_ge hk (Or.inl hk2) n)
        refine ⟨g2, b1, fun Q => ?_⟩
        simp only [u276_0, u276_1, u276_2, u276_5, u276_8, u276_9, u276_12, u276_15, u276_16, u276_17, u276_18, u276_19, eq_self, q_nl0, q_nlI, q_nlR, not_false_eq_true, q_nz0, q_nz1, q_zv0, q_zv1, q_tl1, q_tl0, q_wif, q_swc, q_swn, List.cons_append, List.nil_append, if_true, if_false, e10, e01, Bool.false_eq_true, sh_195, k_isCraft (mq_t K'), ixc, k_isAhead, ix, a4]
        simp only [u276_22, u276_23, u276_24, u276_27, u276_28, u276_31, u276_33, u276_34, u276_35, u276_36, u276_37, u276_40, u276_41, u276_42, eq_self, q_nl0, q_nlI, q_nlR, not_false_eq_true, q_nz0, q_nz1, q_zv0, q_zv1, q_tl1, q_tl0, q_wif, q_swc, q_swn, List.cons_append, List.nil_append, if_true, if_false, e10, e01, Bool.false_eq_true, sh_195, sh_227, k_menOf (mq_t a3) (show c < 8 by omega), p_195_47 (mq_p a3), in14, cl14, mq_o a3, nI_not _ hs _ hn8, k_bitsOf e8, b2]
        simp only [u276_45, u276_46, eq_self, q_nl0, q_nlI, q_nlR, not_false_eq_true, q_nz0, q_nz1, q_zv0, q_zv1, q_tl1, q_tl0, q_wif, q_swc, q_swn, List.cons_append, List.nil_append, if_true, if_false, e10, e01, Bool.false_eq_true]
    · refine Pr_pure (-1) (fun Q => ?_) (fun Q => ?_)
      · simp only [u102_0, u102_1, u102_2, u102_5, u102_8, u102_9, u102_12, u102_15, u102_16, u102_17, u102_18, u102_21, u102_22, u102_25, u102_26, u102_29, u102_30, u102_33, u102_34, u102_37, u102_38, u102_39, u102_42, u102_43, u102_46, u102_49, eq_self, q_nl0, q_nlI, q_nlR, not_false_eq_true, q_nz0, q_nz1, q_zv0, q_zv1, q_tl1, q_tl0, q_wif, q_swc, q_swn, List.cons_append, List.nil_append, if_true, if_false, e10, e01, Bool.false_eq_true, sh_1, c_isCraft (cq_t H) (cq_T H), ixc, c_isAhead, ix]
      · simp only [u276_0, u276_1, u276_2, u276_5, u276_8, u276_9, u276_12, u276_15, u276_16, u276_17, u276_18, u276_19, u276_22, u276_23, u276_24, u276_27, u276_28, u276_31, u276_33, u276_34, u276_35, u276_36, u276_37, u276_40, u276_41, u276_42, u276_45, u276_46, eq_self, q_nl0, q_nlI, q_nlR, not_false_eq_true, q_nz0, q_nz1, q_zv0, q_zv1, q_tl1, q_tl0, q_wif, q_swc, q_swn, List.cons_append, List.nil_append, if_true, if_false, e10, e01, Bool.false_eq_true, sh_195, k_isCraft (mq_t K), ixc, k_isAhead, ix]
  · refine Pr_pure (-1) (fun Q => ?_) (fun Q => ?_)
    · simp only [u102_0, u102_1, u102_2, u102_5, u102_8, u102_9, u102_12, u102_15, u102_16, u102_17, u102_18, u102_21, u102_22, u102_25, u102_26, u102_29, u102_30, u102_33, u102_34, u102_37, u102_38, u102_39, u102_42, u102_43, u102_46, u102_49, eq_self, q_nl0, q_nlI, q_nlR, not_false_eq_true, q_nz0, q_nz1, q_zv0, q_zv1, q_tl1, q_tl0, q_wif, q_swc, q_swn, List.cons_append, List.nil_append, if_true, if_false, e10, e01, Bool.false_eq_true, sh_1, c_isCraft (cq_t H) (cq_T H), ixc]
    · simp only [u276_0, u276_1, u276_2, u276_5, u276_8, u276_9, u276_12, u276_15, u276_16, u276_17, u276_18, u276_19, u276_22, u276_23, u276_24, u276_27, u276_28, u276_31, u276_33, u276_34, u276_35, u276_36, u276_37, u276_40, u276_41, u276_42, u276_45, u276_46, eq_self, q_nl0, q_nlI, q_nlR, not_false_eq_true, q_nz0, q_nz1, q_zv0, q_zv1, q_tl1, q_tl0, q_wif, q_swc, q_swn, List.cons_append, List.nil_append, if_true, if_false, e10, e01, Bool.false_eq_true, sh_195, k_isCraft (mq_t K), ixc]
theorem b_hungry {X : XT} {d T b f N : Nat} {h : HT} {τ : CT} {A : Nat → Int32} (H : CQ h T τ N A) (K : KQ h b f τ N A) (x : Int32) : Pr X (d + 10) 149 [some (.ref 1), some (.int x)] 277 [some (.ref 195), some (.int x), none, none] h := by
  have hp := cq_p H
  have hk := cq_k H
  have h7 := o_mn hk
  rcases ix_cases x (k := 61) (by decide) with ⟨n, hn, rfl, ix⟩ | ix
  · refine Pr_of (nI (huS τ (aIt τ A n))) ?_ ?_
    · obtain ⟨g, a1, a2, a3⟩ := c_look (X := X) (d := d + 4) H (show n ≤ 60 by omega)
      have C := CQ_same a1 H
      refine ⟨g, a1, fun Q => ?_⟩
      simp only [u149_0, u149_1, u149_4, u149_7, u149_8, u149_9, u149_10, u149_13, u149_14, u149_17, u149_18, u149_21, u149_22, u149_25, u149_26, u149_29, u149_30, u149_33, eq_self, q_nl0, q_nlI, q_nlR, not_false_eq_true, q_nz0, q_nz1, q_zv0, q_zv1, q_tl1, q_tl0, q_wif, q_swc, q_swn, List.cons_append, List.nil_append, if_true, if_false, e10, e01, Bool.false_eq_true, sh_1, sh_171, c_isAhead, ix, p_1_8 hp, cq_T H, p_1_3 hp, a3]
      simp only [u149_0, u149_1, u149_4, u149_7, u149_8, u149_9, u149_10, u149_13, u149_14, u149_17, u149_18, u149_21, u149_22, u149_25, u149_26, u149_29, u149_30, u149_33, eq_self, q_nl0, q_nlI, q_nlR, not_false_eq_true, q_nz0, q_nz1, q_zv0, q_zv1, q_tl1, q_tl0, q_wif, q_swc, q_swn, List.cons_append, List.nil_append, if_true, if_false, e10, e01, Bool.false_eq_true, sh_1, sh_171, p_1_8 (cq_p C), c_hunB (cq_p C) a2 (Nat.le_refl n) (show n ≤ 60 by omega)]
    · intro g a
      have K' := KQ_same a K
      obtain ⟨g1, a1, a2, a3, a4⟩ := k_goDays (X := X) (d := d + 2) K' (show n ≤ 1000 by omega)
      obtain ⟨g2, b1, b2⟩ := k_bringG (X := X) (d := d + 9) K' a1 a2 a3 (fun k hk2 => it_ge hk (Or.inl hk2) n)
      have hn8 := mq_n a3
      refine ⟨g2, b1, fun Q => ?_⟩
      simp only [u277_0, u277_1, u277_4, u277_7, u277_8, u277_9, u277_10, u277_11, eq_self, q_nl0, q_nlI, q_nlR, not_false_eq_true, q_nz0, q_nz1, q_zv0, q_zv1, q_tl1, q_tl0, q_wif, q_swc, q_swn, List.cons_append, List.nil_append, if_true, if_false, e10, e01, Bool.false_eq_true, sh_195, k_isAhead, ix, a4]
      simp only [u277_14, u277_15, u277_16, u277_17, eq_self, q_nl0, q_nlI, q_nlR, not_false_eq_true, q_nz0, q_nz1, q_zv0, q_zv1, q_tl1, q_tl0, q_wif, q_swc, q_swn, List.cons_append, List.nil_append, if_true, if_false, e10, e01, Bool.false_eq_true]
      refine (q_loop (fun i => wq X (d + 9 + 1) 277 18 [some (.ref 195), some (.int (nI n)), some (.int (nI (fL (bS (huP (aIt τ A n))) 0 i))), some (.int (nI i))] [] g1 Q) (τ 0 1) ?_).trans ?_
      · intro i hi
        have hb := bit01 hn8 (show i < 8 by omega)
        have e2 : (nI i < nI (τ 0 1)) = True := eq_true (nI_lt hi (by omega))
        have e3 : m_in (nI i) 20 = true := q_in (by omega) (by decide)
        have e4 : (nI i).toNatClampNeg = i := q_cl (by omega)
        show wq X (d + 9 + 1) 277 18 _ _ _ _ = _
        rw [u277_18, fL_s, bS_b]
        unfold huP
        by_cases z : (aN (aIt τ A n)).testBit i = true
        · simp only [u277_19, u277_20, u277_23, u277_26, u277_27, u277_30, u277_32, u277_33, u277_34, u277_37, u277_40, u277_41, u277_44, u277_45, u277_46, u277_47, u277_48, u277_51, u277_52, u277_53, u277_54, u277_55, u277_56, u277_57, u277_60, eq_self, q_nl0, q_nlI, q_nlR, not_false_eq_true, q_nz0, q_nz1, q_zv0, q_zv1, q_tl1, q_tl0, q_wif, q_swc, q_swn, List.cons_append, List.nil_append, if_true, if_false, e10, e01, Bool.false_eq_true, sh_195, sh_227, k_many (mq_t a3), e2, p_195_47 (mq_p a3), in14, cl14, mq_o a3, k_has, hb, z, Int32.zero_add, e3, e4, mq_A a3, nI_sh i (by omega), nI_or, nI_1, Bool.true_and, decide_eq_true_eq]
          by_cases y : aIt τ A n i = 0
          · simp only [y, if_true]
          · simp only [y, if_false]
        · simp only [u277_19, u277_20, u277_23, u277_26, u277_27, u277_30, u277_32, u277_33, u277_34, u277_37, u277_40, u277_41, u277_44, u277_45, u277_46, u277_47, u277_48, u277_51, u277_52, u277_53, u277_54, u277_55, u277_56, u277_57, u277_60, eq_self, q_nl0, q_nlI, q_nlR, not_false_eq_true, q_nz0, q_nz1, q_zv0, q_zv1, q_tl1, q_tl0, q_wif, q_swc, q_swn, List.cons_append, List.nil_append, if_true, if_false, e10, e01, Bool.false_eq_true, sh_195, sh_227, k_many (mq_t a3), e2, p_195_47 (mq_p a3), in14, cl14, mq_o a3, k_has, hb, z, nI_1, Bool.false_and]
      · rw [u277_18]
        simp only [u277_19, u277_20, u277_23, u277_26, u277_27, u277_30, u277_32, u277_33, u277_34, u277_37, u277_40, u277_41, u277_44, u277_45, u277_46, u277_47, u277_48, u277_51, u277_52, u277_53, u277_54, u277_55, u277_56, u277_57, u277_60, u277_63, u277_64, eq_self, q_nl0, q_nlI, q_nlR, not_false_eq_true, q_nz0, q_nz1, q_zv0, q_zv1, q_tl1, q_tl0, q_wif, q_swc, q_swn, List.cons_append, List.nil_append, if_true, if_false, e10, e01, Bool.false_eq_true, sh_195, k_many (mq_t a3), eq_false (nI_nlt (Nat.le_refl (τ 0 1)) (by omega)), b2]
        simp only [u277_67, u277_68, eq_self, q_nl0, q_nlI, q_nlR, not_false_eq_true, q_nz0, q_nz1, q_zv0, q_zv1, q_tl1, q_tl0, q_wif, q_swc, q_swn, List.cons_append, List.nil_append, if_true, if_false, e10, e01, Bool.false_eq_true]
        rfl
  · refine Pr_pure (-1) (fun Q => ?_) (fun Q => ?_)
    · simp only [u149_0, u149_1, u149_4, u149_7, u149_8, u149_9, u149_10, u149_13, u149_14, u149_17, u149_18, u149_21, u149_22, u149_25, u149_26, u149_29, u149_30, u149_33, eq_self, q_nl0, q_nlI, q_nlR, not_false_eq_true, q_nz0, q_nz1, q_zv0, q_zv1, q_tl1, q_tl0, q_wif, q_swc, q_swn, List.cons_append, List.nil_append, if_true, if_false, e10, e01, Bool.false_eq_true, c_isAhead, ix]
    · simp only [u277_0, u277_1, u277_4, u277_7, u277_8, u277_9, u277_10, u277_11, u277_14, u277_15, u277_16, u277_17, u277_18, u277_19, u277_20, u277_23, u277_26, u277_27, u277_30, u277_32, u277_33, u277_34, u277_37, u277_40, u277_41, u277_44, u277_45, u277_46, u277_47, u277_48, u277_51, u277_52, u277_53, u277_54, u277_55, u277_56, u277_57, u277_60, u277_63, u277_64, u277_67, u277_68, eq_self, q_nl0, q_nlI, q_nlR, not_false_eq_true, q_nz0, q_nz1, q_zv0, q_zv1, q_tl1, q_tl0, q_wif, q_swc, q_swn, List.cons_append, List.nil_append, if_true, if_false, e10, e01, Bool.false_eq_true, k_isAhead, ix]
/-! the first that .. -/
def fstN (p : Nat → Bool) : Nat → Option Nat
  | 0 => if p 0 = true then some 0 else none
  | m + 1 => match fstN p m with
    | some n => some n
    | none => if p (m + 1) = true then some (m + 1) else none
theorem fst_none {p : Nat → Bool} : ∀ m, fstN p m = none → ∀ n, n ≤ m → p n = false
  | 0, h, n, hn => by
    have : n = 0 := by omega
    subst this
    unfold fstN at h
    split at h
    · cases h
    · next z => simpa using z
  | m + 1, h, n, hn => by
    unfold fstN at h
    split at h
    · cases h
    · next e =>
      by_cases z : n = m + 1
      · subst z
        split at h
        · cases h
        · next y => simpa using y
      · exact fst_none m e n (by omega)
theorem fst_some {p : Nat → Bool} {n : Nat} : ∀ m, fstN p m = some n → n ≤ m ∧ p n = true ∧ ∀ j, j < n → p j = false
  | 0, h => by
    unfold fstN at h
    split at h
    · next z =>
      cases h
      exact ⟨Nat.le_refl _, z, fun j hj => absurd hj (Nat.not_lt_zero j)⟩
    · cases h
  | m + 1, h => by
    unfold fstN at h
    split at h
    · next e =>
      cases h
      have := fst_some m e
      exact ⟨by omega, this.2⟩
    · next e =>
      split at h
      · next z =>
        cases h
        exact ⟨Nat.le_refl _, z, fun j hj => fst_none m e j (by omega)⟩
      · cases h
/-! lasts -/
def lsP (τ : CT) (A : Nat → Int32) (n : Nat) : Bool := decide (aN (aIt τ A n) = 0)
theorem c_empty {X : XT} {d N : Nat} {g : HT} {Q : QT} {τ : CT} {A : Nat → Int32} (hp : Ptr g) (H : cOk τ) (K : aOk τ N A) (nt : Noted τ A 60 g) : wq X d 156 0 [some (.ref 171), none] [] g Q = Q (some (.int (oI (fstN (lsP τ A) 60)))) g := by
  have st : ∀ i, i ≤ 60 → wq X d 156 2 [some (.ref 171), some (.int (nI i))] [] g Q = if aN (aIt τ A i) = 0 then Q (some (.int (nI i))) g else wq X d 156 2 [some (.ref 171), some (.int (nI (i + 1)))] [] g Q := by
    intro i hi
    have hn := aN_lt H (it_ok H K i)
    have e2 : (60 < nI i) = False := eq_false (nI_nlt (a := 60) (by omega) (by omega))
    have e3 : m_in (nI i) 61 = true := q_in (by omega) (by decide)
    have e4 : (nI i).toNatClampNeg = i := q_cl (by omega)
    rw [u156_2]
    simp only [u156_3, u156_5, u156_8, u156_9, u156_12, u156_13, u156_14, u156_17, u156_18, u156_19, u156_22, eq_self, q_nl0, q_nlI, q_nlR, not_false_eq_true, q_nz0, q_nz1, q_zv0, q_zv1, q_tl1, q_tl0, q_wif, q_swc, q_swn, List.cons_append, List.nil_append, if_true, if_false, e10, e01, Bool.false_eq_true, sh_171, sh_175, p_171_1 hp, e2, e3, e4, (nt i hi).1, nI_0eq hn, nI_1]
  simp only [u156_0, u156_1, eq_self, q_nl0, q_nlI, q_nlR, not_false_eq_true, q_nz0, q_nz1, q_zv0, q_zv1, q_tl1, q_tl0, q_wif, q_swc, q_swn, List.cons_append, List.nil_append, if_true, if_false, e10, e01, Bool.false_eq_true]
  cases e : fstN (lsP τ A) 60 with
  | none =>
    have hz := fst_none 60 e
    refine (q_loop (fun i => wq X d 156 2 [some (.ref 171), some (.int (nI i))] [] g Q) 61 (fun i hi => ?_)).trans ?_
    · show wq X d 156 2 _ _ _ _ = _
      rw [st i (by omega), if_neg (of_decide_eq_false (hz i (by omega)))]
    · show wq X d 156 2 _ _ _ _ = _
      rw [u156_2]
      simp only [u156_3, u156_5, u156_25, u156_26, eq_self, q_nl0, q_nlI, q_nlR, not_false_eq_true, q_nz0, q_nz1, q_zv0, q_zv1, q_tl1, q_tl0, q_wif, q_swc, q_swn, List.cons_append, List.nil_append, if_true, if_false, e10, e01, Bool.false_eq_true, eq_true (show 60 < nI 61 by decide), oI]
  | some n =>
    have hz := fst_some 60 e
    refine (q_loop (fun i => wq X d 156 2 [some (.ref 171), some (.int (nI i))] [] g Q) n (fun i hi => ?_)).trans ?_
    · show wq X d 156 2 _ _ _ _ = _
      rw [st i (by omega), if_neg (of_decide_eq_false (hz.2.2 i hi))]
    · show wq X d 156 2 _ _ _ _ = _
      rw [st n hz.1, if_pos (of_decide_eq_true hz.2.1)]
      rfl
theorem b_lasts {X : XT} {d T b f N : Nat} {h : HT} {τ : CT} {A : Nat → Int32} (H : CQ h T τ N A) (K : KQ h b f τ N A) : Pr X (d + 10) 155 [some (.ref 1)] 278 [some (.ref 195), none, none] h := by
  have hp := cq_p H
  have hk := cq_k H
  refine Pr_of (oI (fstN (lsP τ A) 60)) ?_ ?_
  · obtain ⟨g, a1, a2, a3⟩ := c_look (X := X) (d := d + 4) H (Nat.le_refl 60)
    have C := CQ_same a1 H
    have a3' : ∀ Q : QT, wq X (d + 9) 104 0 [some (.ref 171), some (.ref T), some (.ref 38), some (.int 60), none, none] [] h Q = Q none g := a3
    refine ⟨g, a1, fun Q => ?_⟩
    simp only [u155_0, u155_1, u155_4, u155_5, u155_8, u155_9, u155_12, u155_14, u155_17, u155_18, u155_21, u155_24, eq_self, q_nl0, q_nlI, q_nlR, not_false_eq_true, q_nz0, q_nz1, q_zv0, q_zv1, q_tl1, q_tl0, q_wif, q_swc, q_swn, List.cons_append, List.nil_append, if_true, if_false, e10, e01, Bool.false_eq_true, sh_1, sh_171, p_1_8 hp, cq_T H, p_1_3 hp, a3']
    simp only [u155_0, u155_1, u155_4, u155_5, u155_8, u155_9, u155_12, u155_14, u155_17, u155_18, u155_21, u155_24, eq_self, q_nl0, q_nlI, q_nlR, not_false_eq_true, q_nz0, q_nz1, q_zv0, q_zv1, q_tl1, q_tl0, q_wif, q_swc, q_swn, List.cons_append, List.nil_append, if_true, if_false, e10, e01, Bool.false_eq_true, sh_1, sh_171, p_1_8 (cq_p C), c_empty (cq_p C) hk (cq_a H) a2]
  · intro g a
    have K' := KQ_same a K
    obtain ⟨g1, a1, a2, a3⟩ := k_keepG (X := X) (d := d + 9) K'
    have K1 := KQ_same a1 K'
    have step : ∀ i h, i < 60 → aN (aIt τ A i) ≠ 0 → Al g h ∧ Kept h A ∧ KQ h b f τ (N + i) (aIt τ A i) → ∃ h', (Al g h' ∧ Kept h' A ∧ KQ h' b f τ (N + (i + 1)) (aIt τ A (i + 1))) ∧ (fun (Q : QT) => wq X (d + 10) 278 6 [some (.ref 195), some (.int (nI i)), none] [] h Q) = fun Q => wq X (d + 10) 278 6 [some (.ref 195), some (.int (nI (i + 1))), none] [] h' Q := by
      intro i h hi hz hh
      obtain ⟨b1, b2, b3⟩ := hh
      obtain ⟨h', c1, c2, c3, _, c5⟩ := k_dayG (X := X) (d := d + 3) b3
      refine ⟨h', ⟨Al_tr b1 c1, fun k hk => (c3 k).trans (b2 k hk), c2⟩, funext fun Q => ?_⟩
      have e1 : (nI i < 60) = True := eq_true (nI_lt (b := 60) (by omega) (by omega))
      rw [u278_6]
      simp only [u278_7, u278_9, u278_12, u278_13, u278_16, u278_18, u278_19, u278_22, u278_23, u278_26, u278_29, eq_self, q_nl0, q_nlI, q_nlR, not_false_eq_true, q_nz0, q_nz1, q_zv0, q_zv1, q_tl1, q_tl0, q_wif, q_swc, q_swn, List.cons_append, List.nil_append, if_true, if_false, e10, e01, Bool.false_eq_true, sh_195, sh_227, e1, p_195_47 (mq_p b3), in14, cl14, mq_o b3, nI_0eq (mq_n b3), eq_false hz, c5, nI_1]
    cases e : fstN (lsP τ A) 60 with
    | none =>
      have hz := fst_none 60 e
      obtain ⟨h1, ⟨b1, b2, b3⟩, e1⟩ := q_loopI (fun i (h : HT) (Q : QT) => wq X (d + 10) 278 6 [some (.ref 195), some (.int (nI i)), none] [] h Q) (fun i h => Al g h ∧ Kept h A ∧ KQ h b f τ (N + i) (aIt τ A i)) 60 (fun i hi h hh => step i h hi (of_decide_eq_false (hz i (by omega))) hh) g1 ⟨Al_of a1, a2, K1⟩
      obtain ⟨g2, c1, c2⟩ := k_bringG (X := X) (d := d + 9) K' b1 b2 b3 (fun k hk2 => it_ge hk (Or.inl hk2) 60)
      refine ⟨g2, c1, fun Q => ?_⟩
      simp only [u278_0, u278_1, u278_4, u278_5, eq_self, q_nl0, q_nlI, q_nlR, not_false_eq_true, q_nz0, q_nz1, q_zv0, q_zv1, q_tl1, q_tl0, q_wif, q_swc, q_swn, List.cons_append, List.nil_append, if_true, if_false, e10, e01, Bool.false_eq_true, sh_195, a3]
      refine (congrFun e1 Q).trans ?_
      rw [u278_6]
      simp only [u278_7, u278_9, u278_32, u278_33, u278_36, u278_38, u278_39, u278_42, u278_43, u278_46, u278_47, u278_48, u278_49, eq_self, q_nl0, q_nlI, q_nlR, not_false_eq_true, q_nz0, q_nz1, q_zv0, q_zv1, q_tl1, q_tl0, q_wif, q_swc, q_swn, List.cons_append, List.nil_append, if_true, if_false, e10, e01, Bool.false_eq_true, sh_195, sh_227, eq_false (show ¬ nI 60 < 60 by decide), p_195_47 (mq_p b3), in14, cl14, mq_o b3, nI_0eq (mq_n b3), eq_false (of_decide_eq_false (hz 60 (Nat.le_refl _))), c2]
      simp only [u278_52, u278_53, u278_56, u278_57, u278_60, u278_61, eq_self, q_nl0, q_nlI, q_nlR, not_false_eq_true, q_nz0, q_nz1, q_zv0, q_zv1, q_tl1, q_tl0, q_wif, q_swc, q_swn, List.cons_append, List.nil_append, if_true, if_false, e10, e01, Bool.false_eq_true, oI]
    | some n =>
      have hz := fst_some 60 e
      obtain ⟨h1, ⟨b1, b2, b3⟩, e1⟩ := q_loopI (fun i (h : HT) (Q : QT) => wq X (d + 10) 278 6 [some (.ref 195), some (.int (nI i)), none] [] h Q) (fun i h => Al g h ∧ Kept h A ∧ KQ h b f τ (N + i) (aIt τ A i)) n (fun i hi h hh => step i h (by omega) (of_decide_eq_false (hz.2.2 i hi)) hh) g1 ⟨Al_of a1, a2, K1⟩
      obtain ⟨g2, c1, c2⟩ := k_bringG (X := X) (d := d + 9) K' b1 b2 b3 (fun k hk2 => it_ge hk (Or.inl hk2) n)
      refine ⟨g2, c1, fun Q => ?_⟩
      simp only [u278_0, u278_1, u278_4, u278_5, eq_self, q_nl0, q_nlI, q_nlR, not_false_eq_true, q_nz0, q_nz1, q_zv0, q_zv1, q_tl1, q_tl0, q_wif, q_swc, q_swn, List.cons_append, List.nil_append, if_true, if_false, e10, e01, Bool.false_eq_true, sh_195, a3]
      refine (congrFun e1 Q).trans ?_
      have z0 : (aN (aIt τ A n) = 0) = True := eq_true (of_decide_eq_true hz.2.1)
      rw [u278_6]
      simp only [u278_7, u278_9, u278_12, u278_13, u278_16, u278_18, u278_19, u278_32, u278_33, u278_36, u278_38, u278_39, u278_42, u278_43, u278_46, u278_47, u278_48, u278_49, eq_self, q_nl0, q_nlI, q_nlR, not_false_eq_true, q_nz0, q_nz1, q_zv0, q_zv1, q_tl1, q_tl0, q_wif, q_swc, q_swn, List.cons_append, List.nil_append, if_true, if_false, e10, e01, Bool.false_eq_true, sh_195, sh_227, p_195_47 (mq_p b3), in14, cl14, mq_o b3, nI_0eq (mq_n b3), z0, c2, ite_self]
      simp only [u278_52, u278_53, u278_56, u278_57, u278_60, u278_61, eq_self, q_nl0, q_nlI, q_nlR, not_false_eq_true, q_nz0, q_nz1, q_zv0, q_zv1, q_tl1, q_tl0, q_wif, q_swc, q_swn, List.cons_append, List.nil_append, if_true, if_false, e10, e01, Bool.false_eq_true, oI]
/-! costs -/
theorem c_lostB {X : XT} {d n p q : Nat} {g : HT} {Q : QT} {τ : CT} {A : Nat → Int32} (hp : Ptr g) (nt : Noted τ A n g) (hn : n ≤ 60) (hpq : p ≤ q) (hq : q ≤ n) : wq X d 158 0 [some (.ref 171), some (.int (nI p)), some (.int (nI q))] [] g Q = Q (some (.int (nI (aCs τ A q) - nI (aCs τ A p)))) g := by
  have e1 : (nI p < 0) = False := oI_lt0 (by omega)
  have e2 : (nI q < nI p) = False := eq_false (nI_nlt (by omega) (by omega))
  have e3 : (60 < nI q) = False := eq_false (nI_nlt (a := 60) (by omega) (by omega))
  have e4 : m_in (nI p) 61 = true := q_in (by omega) (by decide)
  have e5 : (nI p).toNatClampNeg = p := q_cl (by omega)
  have e6 : m_in (nI q) 61 = true := q_in (by omega) (by decide)
  have e7 : (nI q).toNatClampNeg = q := q_cl (by omega)
  simp only [u158_0, u158_1, u158_4, u158_5, u158_6, u158_9, u158_10, u158_12, u158_15, u158_16, u158_17, u158_18, u158_21, u158_22, u158_23, u158_24, u158_27, u158_28, u158_29, u158_30, eq_self, q_nl0, q_nlI, q_nlR, not_false_eq_true, q_nz0, q_nz1, q_zv0, q_zv1, q_tl1, q_tl0, q_wif, q_swc, q_swn, List.cons_append, List.nil_append, if_true, if_false, e10, e01, Bool.false_eq_true, sh_171, sh_177, e1, e2, e3, e4, e5, e6, e7, p_171_3 hp, (nt q hq).2.2, (nt p (by omega)).2.2]
theorem add_sub_l {a b : Int32} : a + b - a = b := by
  rw [Int32.add_comm]
  exact Int32.add_sub_cancel _ _
theorem k_costsIn {X : XT} {d b f N n : Nat} {g : HT} {τ : CT} {A : Nat → Int32} (K : KQ g b f τ N A) (hn : n ≤ 1000) : ∃ g', Same g g' ∧ ∀ Q : QT, wq X (d + 8) 280 0 [some (.ref 195), some (.int (nI n)), none] [] g Q = Q (some (.int (nI (aCs τ A n)))) g' := by
  have hk := mq_k K
  obtain ⟨g1, a1, a2, a3, a4⟩ := k_goDays (X := X) (d := d) K hn
  obtain ⟨g2, b1, b2⟩ := k_bringG (X := X) (d := d + 7) K a1 a2 a3 (fun k hk2 => it_ge hk (Or.inl hk2) n)
  refine ⟨g2, b1, fun Q => ?_⟩
  simp only [u280_0, u280_1, u280_2, eq_self, q_nl0, q_nlI, q_nlR, not_false_eq_true, q_nz0, q_nz1, q_zv0, q_zv1, q_tl1, q_tl0, q_wif, q_swc, q_swn, List.cons_append, List.nil_append, if_true, if_false, e10, e01, Bool.false_eq_true, sh_195, a4]
  simp only [u280_5, u280_6, u280_9, u280_11, u280_12, u280_13, u280_16, u280_18, u280_19, u280_20, u280_21, u280_22, eq_self, q_nl0, q_nlI, q_nlR, not_false_eq_true, q_nz0, q_nz1, q_zv0, q_zv1, q_tl1, q_tl0, q_wif, q_swc, q_swn, List.cons_append, List.nil_append, if_true, if_false, e10, e01, Bool.false_eq_true, sh_195, sh_227, sh_229, p_195_47 (mq_p a3), p_195_52 (mq_p a3), in16, cl16, mq_A a3, it_16 hk (mq_a K), a2 16 (by decide), add_sub_l, b2]
  simp only [u280_25, u280_26, eq_self, q_nl0, q_nlI, q_nlR, not_false_eq_true, q_nz0, q_nz1, q_zv0, q_zv1, q_tl1, q_tl0, q_wif, q_swc, q_swn, List.cons_append, List.nil_append, if_true, if_false, e10, e01, Bool.false_eq_true]
theorem b_costs {X : XT} {d T b f N : Nat} {h : HT} {τ : CT} {A : Nat → Int32} (H : CQ h T τ N A) (K : KQ h b f τ N A) (x : Int32) : Pr X (d + 10) 157 [some (.ref 1), some (.int x)] 279 [some (.ref 195), some (.int x)] h := by
  have hp := cq_p H
  have hk := cq_k H
  rcases ix_cases x (k := 61) (by decide) with ⟨n, hn, rfl, ix⟩ | ix
  · refine Pr_of (nI (aCs τ A n)) ?_ ?_
    · obtain ⟨g, a1, a2, a3⟩ := c_look (X := X) (d := d + 4) H (show n ≤ 60 by omega)
      have C := CQ_same a1 H
      have cl := fun (Q : QT) => c_lostB (X := X) (d := d + 9) (Q := Q) (cq_p C) a2 (show n ≤ 60 by omega) (Nat.zero_le n) (Nat.le_refl n)
      have e0 : nI (aCs τ A n) - nI (aCs τ A 0) = nI (aCs τ A n) := Int32.sub_zero _
      rw [e0] at cl
      have cl' : ∀ Q : QT, wq X (d + 9) 158 0 [some (.ref 171), some (.int 0), some (.int (nI n))] [] g Q = Q (some (.int (nI (aCs τ A n)))) g := cl
      refine ⟨g, a1, fun Q => ?_⟩
      simp only [u157_0, u157_1, u157_4, u157_7, u157_8, u157_9, u157_10, u157_13, u157_14, u157_17, u157_18, u157_21, u157_22, u157_25, u157_26, u157_29, u157_30, u157_31, u157_34, eq_self, q_nl0, q_nlI, q_nlR, not_false_eq_true, q_nz0, q_nz1, q_zv0, q_zv1, q_tl1, q_tl0, q_wif, q_swc, q_swn, List.cons_append, List.nil_append, if_true, if_false, e10, e01, Bool.false_eq_true, sh_1, sh_171, c_isAhead, ix, p_1_8 hp, cq_T H, p_1_3 hp, a3]
      simp only [u157_0, u157_1, u157_4, u157_7, u157_8, u157_9, u157_10, u157_13, u157_14, u157_17, u157_18, u157_21, u157_22, u157_25, u157_26, u157_29, u157_30, u157_31, u157_34, eq_self, q_nl0, q_nlI, q_nlR, not_false_eq_true, q_nz0, q_nz1, q_zv0, q_zv1, q_tl1, q_tl0, q_wif, q_swc, q_swn, List.cons_append, List.nil_append, if_true, if_false, e10, e01, Bool.false_eq_true, sh_1, sh_171, p_1_8 (cq_p C), cl']
    · intro g a
      obtain ⟨g1, a1, a2⟩ := k_costsIn (X := X) (d := d + 1) (KQ_same a K) (show n ≤ 1000 by omega)
      refine ⟨g1, a1, fun Q => ?_⟩
      simp only [u279_0, u279_1, u279_4, u279_7, u279_8, u279_9, u279_12, u279_15, u279_16, eq_self, q_nl0, q_nlI, q_nlR, not_false_eq_true, q_nz0, q_nz1, q_zv0, q_zv1, q_tl1, q_tl0, q_wif, q_swc, q_swn, List.cons_append, List.nil_append, if_true, if_false, e10, e01, Bool.false_eq_true, sh_195, k_isAhead, ix, a2]
  · refine Pr_pure (-1) (fun Q => ?_) (fun Q => ?_)
    · simp only [u157_0, u157_1, u157_4, u157_7, u157_8, u157_9, u157_10, u157_13, u157_14, u157_17, u157_18, u157_21, u157_22, u157_25, u157_26, u157_29, u157_30, u157_31, u157_34, eq_self, q_nl0, q_nlI, q_nlR, not_false_eq_true, q_nz0, q_nz1, q_zv0, q_zv1, q_tl1, q_tl0, q_wif, q_swc, q_swn, List.cons_append, List.nil_append, if_true, if_false, e10, e01, Bool.false_eq_true, c_isAhead, ix]
    · simp only [u279_0, u279_1, u279_4, u279_7, u279_8, u279_9, u279_12, u279_15, u279_16, eq_self, q_nl0, q_nlI, q_nlR, not_false_eq_true, q_nz0, q_nz1, q_zv0, q_zv1, q_tl1, q_tl0, q_wif, q_swc, q_swn, List.cons_append, List.nil_append, if_true, if_false, e10, e01, Bool.false_eq_true, k_isAhead, ix]
/-! ever -/
theorem cnt_cases (x : Int32) : (∃ n, 1 ≤ n ∧ n ≤ 60 ∧ x = nI n ∧ (if x < 1 then (0 : Int32) else if 60 < x then 0 else 1) = 1) ∨ (if x < 1 then (0 : Int32) else if 60 < x then 0 else 1) = 0 := by
  by_cases a : x < 1
  · right
    rw [if_pos a]
  · by_cases b : 60 < x
    · right
      rw [if_neg a, if_pos b]
    · left
      have h1 : ¬ x.toInt < 1 := fun z => a (Int32.lt_iff_toInt_lt.mpr z)
      have h2 : ¬ 60 < x.toInt := fun z => b (Int32.lt_iff_toInt_lt.mpr z)
      obtain ⟨n, hn, e⟩ := vp_in_of (x := x) (n := 61) (vp_in_iff.mpr ⟨by omega, by omega⟩) (by decide)
      subst e
      rw [nI_toInt (by omega)] at h1
      exact ⟨n, by omega, by omega, rfl, by rw [if_neg a, if_neg b]⟩
theorem c_isCount {X : XT} {d : Nat} {h : HT} {Q : QT} {x : Int32} : wq X d 152 0 [some (.int x)] [] h Q = Q (some (.int (if x < 1 then 0 else if 60 < x then 0 else 1))) h := by
  simp only [u152_0, u152_1, u152_2, u152_5, u152_6, u152_8, u152_11, u152_12, u152_15, u152_16, eq_self, q_nl0, q_nlI, q_nlR, not_false_eq_true, q_nz0, q_nz1, q_zv0, q_zv1, q_tl1, q_tl0, q_wif, q_swc, q_swn, List.cons_append, List.nil_append, if_true, if_false, e10, e01, Bool.false_eq_true]
  split
  · rfl
  · split <;> rfl
def evN (τ : CT) (A : Nat → Int32) : Nat → Nat
  | 0 => aN A
  | k + 1 => evN τ A k ||| aN (aIt τ A (k + 1))
def evC (τ : CT) (A : Nat → Int32) : Nat → Nat
  | 0 => 0
  | k + 1 => evC τ A k ||| aN (aIt τ A k)
theorem evC_e {τ : CT} {A : Nat → Int32} : ∀ k, evC τ A (k + 1) = evN τ A k
  | 0 => Nat.zero_or _
  | k + 1 => by
    show evC τ A (k + 1) ||| aN (aIt τ A (k + 1)) = _
    rw [evC_e k]
    rfl
theorem b_ever {X : XT} {d T b f N : Nat} {h : HT} {τ : CT} {A : Nat → Int32} (H : CQ h T τ N A) (K : KQ h b f τ N A) (x : Int32) : Pr X (d + 10) 159 [some (.ref 1), some (.int x), none, none] 287 [some (.ref 195), some (.int x), none, none] h := by
  have hp := cq_p H
  have hk := cq_k H
  rcases cnt_cases x with ⟨n, hn1, hn, rfl, ix⟩ | ix
  · refine Pr_of (nI (evN τ A n)) ?_ ?_
    · obtain ⟨g, a1, a2, a3⟩ := c_look (X := X) (d := d + 4) H (show n ≤ 60 by omega)
      have C := CQ_same a1 H
      refine ⟨g, a1, fun Q => ?_⟩
      simp only [u159_0, u159_1, u159_4, u159_7, u159_8, u159_9, u159_10, u159_13, u159_14, u159_17, u159_18, u159_21, u159_22, eq_self, q_nl0, q_nlI, q_nlR, not_false_eq_true, q_nz0, q_nz1, q_zv0, q_zv1, q_tl1, q_tl0, q_wif, q_swc, q_swn, List.cons_append, List.nil_append, if_true, if_false, e10, e01, Bool.false_eq_true, sh_1, sh_171, c_isCount, ix, p_1_8 hp, cq_T H, p_1_3 hp, a3]
      simp only [u159_25, u159_26, u159_27, u159_28, eq_self, q_nl0, q_nlI, q_nlR, not_false_eq_true, q_nz0, q_nz1, q_zv0, q_zv1, q_tl1, q_tl0, q_wif, q_swc, q_swn, List.cons_append, List.nil_append, if_true, if_false, e10, e01, Bool.false_eq_true]
      refine (q_loop (fun i => wq X (d + 9 + 1) 159 29 [some (.ref 1), some (.int (nI n)), some (.int (nI (evC τ A i))), some (.int (nI i))] [] g Q) (n + 1) ?_).trans ?_
      · intro i hi
        have e1 : (nI n < nI i) = False := eq_false (nI_nlt (by omega) (by omega))
        show wq X (d + 9 + 1) 159 29 _ _ _ _ = _
        rw [u159_29]
        simp only [u159_30, u159_31, u159_34, u159_35, u159_36, u159_39, u159_40, u159_43, u159_44, u159_45, u159_48, eq_self, q_nl0, q_nlI, q_nlR, not_false_eq_true, q_nz0, q_nz1, q_zv0, q_zv1, q_tl1, q_tl0, q_wif, q_swc, q_swn, List.cons_append, List.nil_append, if_true, if_false, e10, e01, Bool.false_eq_true, sh_1, sh_171, e1, p_1_8 (cq_p C), c_outB (cq_p C) a2 (show i ≤ n by omega) hn, nI_or, nI_1]
        rfl
      · rw [u159_29, evC_e]
        simp only [u159_30, u159_31, u159_34, u159_35, u159_36, u159_39, u159_40, u159_43, u159_44, u159_45, u159_48, u159_51, u159_52, eq_self, q_nl0, q_nlI, q_nlR, not_false_eq_true, q_nz0, q_nz1, q_zv0, q_zv1, q_tl1, q_tl0, q_wif, q_swc, q_swn, List.cons_append, List.nil_append, if_true, if_false, e10, e01, Bool.false_eq_true, eq_true (show nI n < nI (n + 1) from nI_lt (by omega) (by omega))]
    · intro g a
      have K' := KQ_same a K
      obtain ⟨g1, a1, a2, a3⟩ := k_keepG (X := X) (d := d + 9) K'
      have K1 := KQ_same a1 K'
      obtain ⟨h1, ⟨b1, b2, b3⟩, e1⟩ := q_loopI (fun i (h : HT) (Q : QT) => wq X (d + 10) 287 26 [some (.ref 195), some (.int (nI n)), some (.int (nI (evN τ A i))), some (.int (nI i))] [] h Q) (fun i h => Al g h ∧ Kept h A ∧ KQ h b f τ (N + i) (aIt τ A i)) n (by
        intro i hi h hh
        obtain ⟨b1, b2, b3⟩ := hh
        obtain ⟨h', c1, c2, c3, _, c5⟩ := k_dayG (X := X) (d := d + 3) b3
        refine ⟨h', ⟨Al_tr b1 c1, fun k hk => (c3 k).trans (b2 k hk), c2⟩, funext fun Q => ?_⟩
        have e1 : (nI i < nI n) = True := eq_true (nI_lt (by omega) (by omega))
        rw [u287_26]
        simp only [u287_27, u287_28, u287_31, u287_32, eq_self, q_nl0, q_nlI, q_nlR, not_false_eq_true, q_nz0, q_nz1, q_zv0, q_zv1, q_tl1, q_tl0, q_wif, q_swc, q_swn, List.cons_append, List.nil_append, if_true, if_false, e10, e01, Bool.false_eq_true, sh_195, sh_227, e1, c5]
        simp only [u287_35, u287_36, u287_37, u287_40, u287_42, u287_43, u287_44, u287_45, u287_48, eq_self, q_nl0, q_nlI, q_nlR, not_false_eq_true, q_nz0, q_nz1, q_zv0, q_zv1, q_tl1, q_tl0, q_wif, q_swc, q_swn, List.cons_append, List.nil_append, if_true, if_false, e10, e01, Bool.false_eq_true, sh_195, sh_227, p_195_47 (mq_p c2), in14, cl14, mq_o c2, nI_or, nI_1]
        rfl) g1 ⟨Al_of a1, a2, K1⟩
      obtain ⟨g2, c1, c2⟩ := k_bringG (X := X) (d := d + 9) K' b1 b2 b3 (fun k hk2 => it_ge hk (Or.inl hk2) n)
      refine ⟨g2, c1, fun Q => ?_⟩
      have ki := fun (Q : QT) (h : HT) => k_isIn (X := X) (d := d + 9) (h := h) (Q := Q) (x := nI n) (a := 1) (b := 60)
      simp only [ix] at ki
      simp only [u287_0, u287_1, u287_2, u287_4, u287_7, u287_10, u287_11, u287_12, u287_13, u287_16, u287_17, u287_20, u287_22, u287_23, u287_24, u287_25, eq_self, q_nl0, q_nlI, q_nlR, not_false_eq_true, q_nz0, q_nz1, q_zv0, q_zv1, q_tl1, q_tl0, q_wif, q_swc, q_swn, List.cons_append, List.nil_append, if_true, if_false, e10, e01, Bool.false_eq_true, sh_195, sh_227, ki, a3, p_195_47 (mq_p K1), in14, cl14, mq_o K1]
      refine (congrFun e1 Q).trans ?_
      rw [u287_26]
      simp only [u287_27, u287_28, u287_51, u287_52, eq_self, q_nl0, q_nlI, q_nlR, not_false_eq_true, q_nz0, q_nz1, q_zv0, q_zv1, q_tl1, q_tl0, q_wif, q_swc, q_swn, List.cons_append, List.nil_append, if_true, if_false, e10, e01, Bool.false_eq_true, sh_195, eq_false (nI_nlt (Nat.le_refl n) (by omega)), c2]
      simp only [u287_55, u287_56, eq_self, q_nl0, q_nlI, q_nlR, not_false_eq_true, q_nz0, q_nz1, q_zv0, q_zv1, q_tl1, q_tl0, q_wif, q_swc, q_swn, List.cons_append, List.nil_append, if_true, if_false, e10, e01, Bool.false_eq_true]
  · refine Pr_pure (-1) (fun Q => ?_) (fun Q => ?_)
    · simp only [u159_0, u159_1, u159_4, u159_7, u159_8, u159_9, u159_10, u159_13, u159_14, u159_17, u159_18, u159_21, u159_22, u159_25, u159_26, u159_27, u159_28, u159_29, u159_30, u159_31, u159_34, u159_35, u159_36, u159_39, u159_40, u159_43, u159_44, u159_45, u159_48, u159_51, u159_52, eq_self, q_nl0, q_nlI, q_nlR, not_false_eq_true, q_nz0, q_nz1, q_zv0, q_zv1, q_tl1, q_tl0, q_wif, q_swc, q_swn, List.cons_append, List.nil_append, if_true, if_false, e10, e01, Bool.false_eq_true, c_isCount, ix]
    · have ki := fun (Q : QT) (h : HT) => k_isIn (X := X) (d := d + 9) (h := h) (Q := Q) (x := x) (a := 1) (b := 60)
      simp only [ix] at ki
      simp only [u287_0, u287_1, u287_2, u287_4, u287_7, u287_10, u287_11, eq_self, q_nl0, q_nlI, q_nlR, not_false_eq_true, q_nz0, q_nz1, q_zv0, q_zv1, q_tl1, q_tl0, q_wif, q_swc, q_swn, List.cons_append, List.nil_append, if_true, if_false, e10, e01, Bool.false_eq_true, ki]
