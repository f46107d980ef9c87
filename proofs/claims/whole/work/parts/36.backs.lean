/-! the model: who goes back of an evening -/
def sBackM (τ : CT) (A : Nat → Int32) (n : Nat) : Nat → Nat
  | 0 => 0
  | i + 1 => if n.testBit i = true ∧ sGoes τ n (A i) (A (7 + i)) i = true then sBackM τ A n i ||| 2 ^ i else sBackM τ A n i
theorem sBackM_lt {τ : CT} {A : Nat → Int32} {n : Nat} : ∀ k, sBackM τ A n k < 2 ^ k
  | 0 => by simp [sBackM]
  | k + 1 => by
    unfold sBackM
    have := sBackM_lt (τ := τ) (A := A) (n := n) k
    have h2 : sBackM τ A n k < 2 ^ (k + 1) := Nat.lt_of_lt_of_le this (Nat.pow_le_pow_right (by decide) (by omega))
    split
    · exact orb h2 (by omega)
    · exact h2
theorem k_backL {X : XT} {d b f n : Nat} {h : HT} {τ : CT} {A P : Nat → Int32} {w o : Int32} (H : MTown h b τ) (R : MRule h b f τ) (F : fOk τ) (hn : n < 128) (ho : A 14 = nI n) : ∀ i, i ≤ τ 0 1 → ∃ P' w', ∀ Q : QT, wq X (d + 6) 260 222 [some (.ref 195), some (.int (nI 0)), some (.int (nI 0))] [] (hK h A P w o) Q = wq X (d + 6) 260 222 [some (.ref 195), some (.int (nI (sBackM τ A n i))), some (.int (nI i))] [] (hK h A P' w' o) Q
  | 0, _ => ⟨P, w, fun Q => rfl⟩
  | i + 1, hi => by
    obtain ⟨P1, w1, ih⟩ := k_backL (X := X) (d := d) (P := P) (w := w) (o := o) H R F hn ho i (by omega)
    have h7 := o_mn (mt_ok H)
    have hp := mt_p H
    have HK : ∀ P w, MTown (hK h A P w o) b τ := fun P w => H
    have e1 : (nI i < nI (τ 0 1)) = True := eq_true (nI_lt (by omega) (by omega))
    have eb : sBackM τ A n (i + 1) = if n.testBit i = true ∧ sGoes τ n (A i) (A (7 + i)) i = true then sBackM τ A n i ||| 2 ^ i else sBackM τ A n i := rfl
    by_cases z : n.testBit i = true
    · obtain ⟨P2, w2, kg⟩ := k_doesGoBack (X := X) (d := d) (P := P1) (w := w1) (o := o) H R F (show i < τ 0 1 by omega) hn ho z
      refine ⟨P2, w2, fun Q => (ih Q).trans ?_⟩
      rw [u260_222]
      simp only [u260_223, u260_224, u260_227, u260_230, u260_231, u260_234, u260_236, u260_237, u260_238, u260_241, u260_244, u260_245, u260_246, eq_self, q_nl0, q_nlI, q_nlR, not_false_eq_true, q_nz0, q_nz1, q_zv0, q_zv1, q_tl1, q_tl0, q_wif, q_swc, q_swn, List.cons_append, List.nil_append, sh_195, sh_227, k_many (HK _ _), e1, if_true, gR_hK, p_195_47 hp, show m_in 14 20 = true by decide, show (14 : Int32).toNatClampNeg = 14 by decide, gI_hK227, ho, k_has, nI_bit4 n hn i (by omega), z, eq_false (show ¬ (1 : Int32) = 0 by decide), if_false, kg]
      by_cases y : sGoes τ n (A i) (A (7 + i)) i = true
      · rw [if_pos ⟨z, y⟩] at eb
        rw [eb]
        simp only [u260_249, u260_252, u260_253, u260_254, u260_255, u260_256, u260_257, u260_258, u260_261, eq_self, q_nl0, q_nlI, q_nlR, not_false_eq_true, q_nz0, q_nz1, q_zv0, q_zv1, q_tl1, q_tl0, q_wif, q_swc, q_swn, List.cons_append, List.nil_append, y, if_true, eq_false (show ¬ (1 : Int32) = 0 by decide), if_false, nI_sh i (by omega), nI_or, nI_1]
      · rw [if_neg (fun v => y v.2)] at eb
        rw [eb]
        simp only [u260_249, u260_252, u260_253, u260_254, u260_255, u260_256, u260_257, u260_258, u260_261, eq_self, q_nl0, q_nlI, q_nlR, not_false_eq_true, q_nz0, q_nz1, q_zv0, q_zv1, q_tl1, q_tl0, q_wif, q_swc, q_swn, List.cons_append, List.nil_append, y, Bool.false_eq_true, if_true, if_false, nI_1]
    · rw [if_neg (fun v => z v.1)] at eb
      refine ⟨P1, w1, fun Q => (ih Q).trans ?_⟩
      rw [u260_222, eb]
      simp only [u260_223, u260_224, u260_227, u260_230, u260_231, u260_234, u260_236, u260_237, u260_238, u260_241, u260_258, u260_261, eq_self, q_nl0, q_nlI, q_nlR, not_false_eq_true, q_nz0, q_nz1, q_zv0, q_zv1, q_tl1, q_tl0, q_wif, q_swc, q_swn, List.cons_append, List.nil_append, sh_195, sh_227, k_many (HK _ _), e1, if_true, gR_hK, p_195_47 hp, show m_in 14 20 = true by decide, show (14 : Int32).toNatClampNeg = 14 by decide, gI_hK227, ho, k_has, nI_bit4 n hn i (by omega), z, Bool.false_eq_true, if_false, nI_1]
