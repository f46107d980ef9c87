/-! the model's day: eating, growing older on the hill -/
def aEatL (A : Nat → Int32) (g i : Nat) : Nat → Int32 := fun k => if k < i ∧ g.testBit k = true ∧ 0 < A k then A k - 1 else A k
def aAgeL (A : Nat → Int32) (g i : Nat) : Nat → Int32 := fun k => if 7 ≤ k ∧ k < 7 + i ∧ g.testBit (k - 7) = true then A k + 1 else A k
theorem aEatL_0 {A : Nat → Int32} {g : Nat} : aEatL A g 0 = A := by
  funext k
  show (if k < 0 ∧ g.testBit k = true ∧ 0 < A k then A k - 1 else A k) = A k
  rw [if_neg (by omega)]
theorem aEatL_ge {A : Nat → Int32} {g i k : Nat} (h : i ≤ k) : aEatL A g i k = A k := by
  show (if k < i ∧ g.testBit k = true ∧ 0 < A k then A k - 1 else A k) = A k
  rw [if_neg (by omega)]
theorem aEatL_s {A : Nat → Int32} {g i : Nat} : aEatL A g (i + 1) = if g.testBit i = true then if 0 < A i then up (aEatL A g i) i (A i - 1) else aEatL A g i else aEatL A g i := by
  by_cases z : g.testBit i = true ∧ 0 < A i
  · rw [if_pos z.1, if_pos z.2]
    funext k
    show (if k < i + 1 ∧ g.testBit k = true ∧ 0 < A k then A k - 1 else A k) = if k = i then A i - 1 else if k < i ∧ g.testBit k = true ∧ 0 < A k then A k - 1 else A k
    by_cases y : k = i
    · rw [if_pos y, y, if_pos ⟨by omega, z⟩]
    · rw [if_neg y]
      by_cases w : k < i ∧ g.testBit k = true ∧ 0 < A k
      · rw [if_pos w, if_pos ⟨by omega, w.2⟩]
      · rw [if_neg w, if_neg (fun v => w ⟨by omega, v.2⟩)]
  · have : aEatL A g (i + 1) = aEatL A g i := by
      funext k
      show (if k < i + 1 ∧ g.testBit k = true ∧ 0 < A k then A k - 1 else A k) = if k < i ∧ g.testBit k = true ∧ 0 < A k then A k - 1 else A k
      by_cases w : k < i ∧ g.testBit k = true ∧ 0 < A k
      · rw [if_pos w, if_pos ⟨by omega, w.2⟩]
      · rw [if_neg w, if_neg]
        rintro ⟨v1, v2⟩
        by_cases y : k = i
        · rw [y] at v2; exact z v2
        · exact w ⟨by omega, v2⟩
    rw [this]
    split
    · split
      · exact absurd ⟨by assumption, by assumption⟩ z
      · rfl
    · rfl
theorem k_eatL {X : XT} {d b g : Nat} {h : HT} {Q : QT} {τ : CT} {A P : Nat → Int32} {w o : Int32} {l2 : Option Value} (H : MTown h b τ) (hg : g < 128) (ho : A 14 = nI g) : wq X (d + 5) 260 23 [some (.ref 195), some (.int (nI 0)), l2] [] (hK h A P w o) Q = wq X (d + 5) 260 74 [some (.ref 195), some (.int (nI (τ 0 1))), l2] [] (hK h (aEatL A g (τ 0 1)) P w o) Q := by
  have h7 := o_mn (mt_ok H)
  have hp := mt_p H
  have HK : ∀ A, MTown (hK h A P w o) b τ := fun A => H
  have := q_loop (fun i => wq X (d + 5) 260 23 [some (.ref 195), some (.int (nI i)), l2] [] (hK h (aEatL A g i) P w o) Q) (τ 0 1) (by
    intro i hi
    show wq X (d + 5) 260 23 _ _ _ _ = _
    rw [u260_23]
    have e1 : (nI i < nI (τ 0 1)) = True := eq_true (nI_lt hi (by omega))
    have e3 : m_in (nI i) 20 = true := q_in (by omega) (by decide)
    have e4 : (nI i).toNatClampNeg = i := q_cl (by omega)
    have e5 : (0 : Int32) + nI i = nI i := Int32.zero_add _
    have e6 : aEatL A g i 14 = nI g := (aEatL_ge (by omega)).trans ho
    have e7 : aEatL A g i i = A i := aEatL_ge (Nat.le_refl _)
    simp only [u260_24, u260_25, u260_28, u260_31, u260_32, u260_35, u260_37, u260_38, u260_39, u260_42, u260_45, u260_46, u260_49, u260_50, u260_51, u260_52, u260_53, u260_56, u260_57, u260_60, u260_61, u260_62, u260_63, u260_64, u260_65, u260_66, u260_67, u260_68, u260_71, eq_self, q_nl0, q_nlI, q_nlR, not_false_eq_true, q_nz0, q_nz1, q_zv0, q_zv1, q_tl1, q_tl0, q_wif, q_swc, q_swn, List.cons_append, List.nil_append, sh_195, sh_227, k_many (HK _), e1, if_true, gR_hK, p_195_47 hp, show m_in 14 20 = true by decide, show (14 : Int32).toNatClampNeg = 14 by decide, gI_hK227, e6, k_has, nI_bit4 g hg i (by omega), e5, e3, e4, e7, sI_hK227, nI_1]
    rw [aEatL_s]
    by_cases z : g.testBit i = true
    · rw [if_pos z, if_pos z, if_neg (by decide)]
      split <;> rfl
    · rw [if_neg z, if_neg z, if_pos rfl])
  rw [aEatL_0] at this
  refine Eq.trans this ?_
  show wq X (d + 5) 260 23 _ _ _ _ = _
  rw [u260_23]
  simp only [u260_24, u260_25, u260_28, eq_self, q_nl0, q_nlI, q_nlR, not_false_eq_true, q_nz0, q_nz1, q_zv0, q_zv1, q_tl1, q_tl0, q_wif, q_swc, q_swn, List.cons_append, List.nil_append, sh_195, k_many (HK _), eq_false (nI_nlt (Nat.le_refl (τ 0 1)) (by omega)), if_false]
theorem aAgeL_0 {A : Nat → Int32} {g : Nat} : aAgeL A g 0 = A := by
  funext k
  show (if 7 ≤ k ∧ k < 7 + 0 ∧ g.testBit (k - 7) = true then A k + 1 else A k) = A k
  rw [if_neg (by omega)]
theorem aAgeL_o {A : Nat → Int32} {g i k : Nat} (h : k < 7 ∨ 7 + i ≤ k) : aAgeL A g i k = A k := by
  show (if 7 ≤ k ∧ k < 7 + i ∧ g.testBit (k - 7) = true then A k + 1 else A k) = A k
  rw [if_neg (by omega)]
theorem aAgeL_s {A : Nat → Int32} {g i : Nat} : aAgeL A g (i + 1) = if g.testBit i = true then up (aAgeL A g i) (7 + i) (A (7 + i) + 1) else aAgeL A g i := by
  by_cases w : g.testBit i = true
  · rw [if_pos w]
    funext k
    show (if 7 ≤ k ∧ k < 7 + (i + 1) ∧ g.testBit (k - 7) = true then A k + 1 else A k) = if k = 7 + i then A (7 + i) + 1 else if 7 ≤ k ∧ k < 7 + i ∧ g.testBit (k - 7) = true then A k + 1 else A k
    by_cases z : k = 7 + i
    · have hz : k - 7 = i := by omega
      rw [if_pos z, if_pos ⟨by omega, by omega, by rw [hz]; exact w⟩, z]
    · rw [if_neg z]
      by_cases v : 7 ≤ k ∧ k < 7 + i ∧ g.testBit (k - 7) = true
      · rw [if_pos v, if_pos ⟨v.1, by omega, v.2.2⟩]
      · rw [if_neg v, if_neg (fun u => v ⟨u.1, by omega, u.2.2⟩)]
  · rw [if_neg w]
    funext k
    show (if 7 ≤ k ∧ k < 7 + (i + 1) ∧ g.testBit (k - 7) = true then A k + 1 else A k) = if 7 ≤ k ∧ k < 7 + i ∧ g.testBit (k - 7) = true then A k + 1 else A k
    by_cases v : 7 ≤ k ∧ k < 7 + i ∧ g.testBit (k - 7) = true
    · rw [if_pos v, if_pos ⟨v.1, by omega, v.2.2⟩]
    · rw [if_neg v, if_neg]
      rintro ⟨u1, u2, u3⟩
      by_cases x : k = 7 + i
      · rw [show k - 7 = i by omega] at u3
        exact w u3
      · exact v ⟨u1, by omega, u3⟩
theorem k_ageL {X : XT} {d b g : Nat} {h : HT} {Q : QT} {τ : CT} {A P : Nat → Int32} {w o x1 : Int32} (H : MTown h b τ) (hg : g < 128) (ho : A 14 = nI g) : wq X (d + 5) 260 179 [some (.ref 195), some (.int x1), some (.int (nI 0))] [] (hK h A P w o) Q = wq X (d + 5) 260 220 [some (.ref 195), some (.int x1), some (.int (nI (τ 0 1)))] [] (hK h (aAgeL A g (τ 0 1)) P w o) Q := by
  have h7 := o_mn (mt_ok H)
  have hp := mt_p H
  have HK : ∀ A, MTown (hK h A P w o) b τ := fun A => H
  have := q_loop (fun i => wq X (d + 5) 260 179 [some (.ref 195), some (.int x1), some (.int (nI i))] [] (hK h (aAgeL A g i) P w o) Q) (τ 0 1) (by
    intro i hi
    show wq X (d + 5) 260 179 _ _ _ _ = _
    rw [u260_179]
    have e1 : (nI i < nI (τ 0 1)) = True := eq_true (nI_lt hi (by omega))
    have e3 : m_in (nI (7 + i)) 20 = true := q_in (by omega) (by decide)
    have e4 : (nI (7 + i)).toNatClampNeg = 7 + i := q_cl (by omega)
    have e5 : (7 : Int32) + nI i = nI (7 + i) := nI_add 7 i
    have e6 : aAgeL A g i 14 = nI g := (aAgeL_o (by omega)).trans ho
    have e7 : aAgeL A g i (7 + i) = A (7 + i) := aAgeL_o (by omega)
    simp only [u260_180, u260_181, u260_184, u260_187, u260_188, u260_191, u260_193, u260_194, u260_195, u260_198, u260_201, u260_202, u260_205, u260_207, u260_208, u260_209, u260_210, u260_211, u260_212, u260_213, u260_214, u260_217, eq_self, q_nl0, q_nlI, q_nlR, not_false_eq_true, q_nz0, q_nz1, q_zv0, q_zv1, q_tl1, q_tl0, q_wif, q_swc, q_swn, List.cons_append, List.nil_append, sh_195, sh_227, k_many (HK _), e1, if_true, gR_hK, p_195_47 hp, show m_in 14 20 = true by decide, show (14 : Int32).toNatClampNeg = 14 by decide, gI_hK227, e6, k_has, nI_bit4 g hg i (by omega), e5, e3, e4, e7, sI_hK227, nI_1]
    rw [aAgeL_s]
    by_cases z : g.testBit i = true
    · rw [if_pos z, if_pos z, if_neg (by decide)]
    · rw [if_neg z, if_neg z, if_pos rfl])
  rw [aAgeL_0] at this
  refine Eq.trans this ?_
  show wq X (d + 5) 260 179 _ _ _ _ = _
  rw [u260_179]
  simp only [u260_180, u260_181, u260_184, eq_self, q_nl0, q_nlI, q_nlR, not_false_eq_true, q_nz0, q_nz1, q_zv0, q_zv1, q_tl1, q_tl0, q_wif, q_swc, q_swn, List.cons_append, List.nil_append, sh_195, k_many (HK _), eq_false (nI_nlt (Nat.le_refl (τ 0 1)) (by omega)), if_false]
theorem k_odd {X : XT} {d b n : Nat} {h : HT} {Q : QT} {τ : CT} {A P : Nat → Int32} {w o : Int32} (H : MTown h b τ) (hn : n < 128) (ho : A 14 = nI n) : wq X (d + 3) 262 0 [some (.ref 195)] [] (hK h A P w o) Q = Q (some (.int (if 100 < nI (τ 0 3 * pcN (sShort τ n)) then 100 else nI (τ 0 3 * pcN (sShort τ n))))) (hK h A P w o) := by
  have hp := mt_p H
  have hbb := mt_b H
  have HK : MTown (hK h A P w o) b τ := H
  have h16 := sShort_16 (mt_ok H) n
  have e1 : m_in (nI b) 2 = true := q_in (by omega) (by decide)
  have e2 : (nI b).toNatClampNeg = b := q_cl (by omega)
  simp only [u262_0, u262_2, u262_3, u262_6, u262_7, u262_10, u262_11, u262_12, u262_13, u262_16, u262_18, u262_19, u262_22, u262_25, u262_26, u262_29, u257_0, u257_1, u257_2, u257_5, u257_6, u257_9, u257_10, eq_self, q_nl0, q_nlI, q_nlR, not_false_eq_true, q_nz0, q_nz1, q_zv0, q_zv1, q_tl1, q_tl0, q_wif, q_swc, q_swn, List.cons_append, List.nil_append, sh_195, sh_202, sh_227, gR_hK, p_195_15 hp, p_195_47 hp, mt_k HK, e1, e2, mt_fo HK, show m_in 14 20 = true by decide, show (14 : Int32).toNatClampNeg = 14 by decide, gI_hK227, ho, k_shortBy HK hn, k_bitsOf (show sShort τ n < 128 by omega), pk_mul]
  split <;> rfl
