/-! the model's day, joined -/
def aSeed (A : Nat → Int32) : Int32 := 137 * A 19 + 71 - (137 * A 19 + 71) / 1000 * 1000
def sOdd (τ : CT) (g : Nat) : Int32 := if 100 < nI (τ 0 3 * pcN (sShort τ g)) then 100 else nI (τ 0 3 * pcN (sShort τ g))
def aWalk (A : Nat → Int32) (g : Nat) : Nat → Int32 := up A 14 (nI g)
def aMid (τ : CT) (A : Nat → Int32) (g : Nat) : Nat → Int32 := up (up (aEatL (aWalk A g) g (τ 0 1)) 16 (A 16 + nI (sLoss τ g))) 19 (aSeed A)
def aFoe (τ : CT) (A : Nat → Int32) (g : Nat) : Nat → Int32 := if aSeed A - aSeed A / 100 * 100 < sOdd τ g then up (up (aMid τ A g) 16 (A 16 + nI (sLoss τ g) + nI (τ 0 4))) 17 (A 17 + 1) else aMid τ A g
def aAge (τ : CT) (A : Nat → Int32) (g : Nat) : Nat → Int32 := aAgeL (aFoe τ A g) g (τ 0 1)
theorem k_dayA {X : XT} {d b n : Nat} {h : HT} {Q : QT} {τ : CT} {A P : Nat → Int32} {w o : Int32} (H : MTown h b τ) (hn : n < 128) (ho : A 14 = nI n) : wq X (d + 6) 260 0 [some (.ref 195), none, none] [] (hK h A P w o) Q = wq X (d + 6) 260 74 [some (.ref 195), some (.int (nI (τ 0 1))), none] [] (hK h (aEatL (aWalk A (n ||| sFol τ n)) (n ||| sFol τ n) (τ 0 1)) P w o) Q := by
  have hp := mt_p H
  have HK : ∀ A, MTown (hK h A P w o) b τ := fun A => H
  have hu : n ||| sFol τ n < 128 := Nat.or_lt_two_pow (n := 7) hn (sFol_lt (mt_ok H) n)
  simp only [u260_0, u260_1, u260_4, u260_6, u260_7, u260_8, u260_9, u260_10, u260_13, u260_15, u260_16, u260_19, u260_20, u260_21, u260_22, eq_self, q_nl0, q_nlI, q_nlR, not_false_eq_true, q_nz0, q_nz1, q_zv0, q_zv1, q_tl1, q_tl0, q_wif, q_swc, q_swn, List.cons_append, List.nil_append, sh_195, sh_227, gR_hK, p_195_47 hp, show m_in 14 20 = true by decide, show (14 : Int32).toNatClampNeg = 14 by decide, gI_hK227, ho, k_followers (HK _) hn, nI_or, sI_hK227]
  exact k_eatL (d := d + 1) (A := aWalk A (n ||| sFol τ n)) H hu up_s
theorem k_dayB {X : XT} {d b g : Nat} {h : HT} {Q : QT} {τ : CT} {A P : Nat → Int32} {w o x1 : Int32} (H : MTown h b τ) (hg : g < 128) : wq X (d + 6) 260 74 [some (.ref 195), some (.int x1), none] [] (hK h (aEatL (aWalk A g) g (τ 0 1)) P w o) Q = wq X (d + 6) 260 179 [some (.ref 195), some (.int (nI 0)), some (.int (nI 0))] [] (hK h (aFoe τ A g) P w (sOdd τ g)) Q := by
  have hp := mt_p H
  have hbb := mt_b H
  have h7 := o_mn (mt_ok H)
  have HK : ∀ A P w o, MTown (hK h A P w o) b τ := fun A P w o => H
  have e1 : m_in (nI b) 2 = true := q_in (by omega) (by decide)
  have e2 : (nI b).toNatClampNeg = b := q_cl (by omega)
  have a14 : aEatL (aWalk A g) g (τ 0 1) 14 = nI g := (aEatL_ge (by omega)).trans up_s
  have a16 : aEatL (aWalk A g) g (τ 0 1) 16 = A 16 := (aEatL_ge (by omega)).trans rfl
  have a19 : aEatL (aWalk A g) g (τ 0 1) 19 = A 19 := (aEatL_ge (by omega)).trans rfl
  have b19 : ∀ v, up (aEatL (aWalk A g) g (τ 0 1)) 16 v 19 = A 19 := fun v => a19
  have m14 : aMid τ A g 14 = nI g := a14
  have m16 : aMid τ A g 16 = A 16 + nI (sLoss τ g) := rfl
  have m17 : ∀ v, up (aMid τ A g) 16 v 17 = A 17 := fun v => (aEatL_ge (A := aWalk A g) (g := g) (i := τ 0 1) (k := 17) (by omega)).trans rfl
  have m19 : aMid τ A g 19 = aSeed A := rfl
  have em : up (up (aEatL (aWalk A g) g (τ 0 1)) 16 (A 16 + nI (sLoss τ g))) 19 (137 * A 19 + 71 - (137 * A 19 + 71) / 1000 * 1000) = aMid τ A g := rfl
  have k1 : ¬ (1000 : Int32) = 0 := by decide
  have k2 : ¬ (100 : Int32) = 0 := by decide
  have ko := fun (Q : QT) => k_odd (X := X) (d := d + 2) (Q := Q) (P := P) (w := w) (o := o) H hg m14
  simp only [u260_74, u260_75, u260_78, u260_80, u260_81, u260_82, u260_83, u260_84, u260_87, u260_89, u260_90, u260_93, u260_94, u260_95, u260_96, u260_99, u260_101, u260_104, u260_105, u260_108, u260_110, u260_111, u260_112, u260_114, u260_115, u260_118, u260_119, u260_120, u260_121, u260_122, u260_125, u260_128, u260_129, u260_132, u260_134, u260_135, u260_137, u260_138, u260_139, u260_142, eq_self, q_nl0, q_nlI, q_nlR, not_false_eq_true, q_nz0, q_nz1, q_zv0, q_zv1, q_tl1, q_tl0, q_wif, q_swc, q_swn, List.cons_append, List.nil_append, sh_195, sh_203, sh_227, gR_hK, p_195_47 hp, show m_in 14 20 = true by decide, show (14 : Int32).toNatClampNeg = 14 by decide, show m_in 16 20 = true by decide, show (16 : Int32).toNatClampNeg = 16 by decide, show m_in 19 20 = true by decide, show (19 : Int32).toNatClampNeg = 19 by decide, gI_hK227, gI_hK48, a14, a16, b19, k_lossBy (HK _ _ _ _) hg, sI_hK227, sI_hK48, k1, k2, em, ko, m19]
  have ef : aFoe τ A g = if aSeed A - aSeed A / 100 * 100 < sOdd τ g then up (up (aMid τ A g) 16 (A 16 + nI (sLoss τ g) + nI (τ 0 4))) 17 (A 17 + 1) else aMid τ A g := rfl
  rw [ef]
  show (if aSeed A - aSeed A / 100 * 100 < sOdd τ g then _ else _) = _
  by_cases z : aSeed A - aSeed A / 100 * 100 < sOdd τ g
  · rw [if_pos z, if_pos z]
    simp only [u260_145, u260_146, u260_149, u260_151, u260_152, u260_153, u260_154, u260_157, u260_158, u260_161, u260_162, u260_163, u260_164, u260_165, u260_168, u260_170, u260_171, u260_172, u260_173, u260_174, u260_175, u260_176, u260_177, u260_178, eq_self, q_nl0, q_nlI, q_nlR, not_false_eq_true, q_nz0, q_nz1, q_zv0, q_zv1, q_tl1, q_tl0, q_wif, q_swc, q_swn, List.cons_append, List.nil_append, sh_195, sh_203, sh_227, gR_hK, p_195_47 hp, p_195_16 hp, mt_k (HK _ _ _ _), e1, e2, mt_ra (HK _ _ _ _), show m_in 16 20 = true by decide, show (16 : Int32).toNatClampNeg = 16 by decide, show m_in 17 20 = true by decide, show (17 : Int32).toNatClampNeg = 17 by decide, gI_hK227, m16, m17, sI_hK227]
    rfl
  · rw [if_neg z, if_neg z]
    simp only [u260_175, u260_176, u260_177, u260_178, eq_self, q_nl0, q_nlI, q_nlR, not_false_eq_true, q_nz0, q_nz1, q_zv0, q_zv1, q_tl1, q_tl0, q_wif, q_swc, q_swn, List.cons_append, List.nil_append]
    rfl
def aDay (τ : CT) (A : Nat → Int32) (n : Nat) : Nat → Int32 := up (aHome τ (aAge τ A (n ||| sFol τ n)) (n ||| sFol τ n) (sBackM τ (aAge τ A (n ||| sFol τ n)) (n ||| sFol τ n) (τ 0 1))) 18 (aHome τ (aAge τ A (n ||| sFol τ n)) (n ||| sFol τ n) (sBackM τ (aAge τ A (n ||| sFol τ n)) (n ||| sFol τ n) (τ 0 1)) 18 + 1)
theorem aFoe_14 {τ : CT} {A : Nat → Int32} {g : Nat} (h7 : τ 0 1 ≤ 7) : aFoe τ A g 14 = nI g := by
  have a14 : aMid τ A g 14 = nI g := (aEatL_ge (A := aWalk A g) (g := g) (i := τ 0 1) (k := 14) (by omega)).trans up_s
  unfold aFoe
  split
  · exact a14
  · exact a14
theorem k_goDay {X : XT} {d b f n : Nat} {h : HT} {τ : CT} {A P : Nat → Int32} {w o : Int32} (H : MTown h b τ) (R : MRule h b f τ) (F : fOk τ) (hn : n < 128) (ho : A 14 = nI n) : ∃ P' w', ∀ Q : QT, wq X (d + 6) 260 0 [some (.ref 195), none, none] [] (hK h A P w o) Q = Q none (hK h (aDay τ A n) P' w' (sOdd τ (n ||| sFol τ n))) := by
  have hp := mt_p H
  have h7 := o_mn (mt_ok H)
  have hu : n ||| sFol τ n < 128 := Nat.or_lt_two_pow (n := 7) hn (sFol_lt (mt_ok H) n)
  have a14 : aAge τ A (n ||| sFol τ n) 14 = nI (n ||| sFol τ n) := (aAgeL_o (by omega)).trans (aFoe_14 h7)
  obtain ⟨P', w', kb⟩ := k_backL (X := X) (d := d) (P := P) (w := w) (o := sOdd τ (n ||| sFol τ n)) H R F hu a14 (τ 0 1) (Nat.le_refl _)
  have HK : ∀ A P w o, MTown (hK h A P w o) b τ := fun A P w o => H
  have hl : sBackM τ (aAge τ A (n ||| sFol τ n)) (n ||| sFol τ n) (τ 0 1) < 128 := Nat.lt_of_lt_of_le (sBackM_lt _) (p2_7 h7)
  refine ⟨P', w', fun Q => ?_⟩
  refine (k_dayA H hn ho).trans ((k_dayB H hu).trans ?_)
  refine (k_ageL (d := d + 1) H hu (aFoe_14 h7)).trans ?_
  simp only [u260_220, u260_221, eq_self, q_nl0, q_nlI, q_nlR, not_false_eq_true, q_nz0, q_nz1, q_zv0, q_zv1, q_tl1, q_tl0, q_wif, q_swc, q_swn, List.cons_append, List.nil_append]
  refine (kb Q).trans ?_
  rw [u260_222]
  simp only [u260_223, u260_224, u260_227, u260_264, u260_265, u260_266, u260_269, u260_270, u260_273, u260_275, u260_276, u260_277, u260_278, u260_279, u260_280, eq_self, q_nl0, q_nlI, q_nlR, not_false_eq_true, q_nz0, q_nz1, q_zv0, q_zv1, q_tl1, q_tl0, q_wif, q_swc, q_swn, List.cons_append, List.nil_append, sh_195, sh_227, k_many (HK _ _ _ _), eq_false (nI_nlt (Nat.le_refl (τ 0 1)) (by omega)), if_false, k_goHome H hu hl a14, gR_hK, p_195_47 hp, show m_in 18 20 = true by decide, show (18 : Int32).toNatClampNeg = 18 by decide, gI_hK227, sI_hK227]
  rfl
