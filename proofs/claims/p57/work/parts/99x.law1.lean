/-! THE LAW: a round of five -/
section LAW1
variable {X : XT} {d : Nat} {h : HT} {τ : CT} {b : Nat} {A : Nat → Int32} {j : Nat} {A0 : Nat → Int32} {Z : Option (Nat → Int32)}
theorem rem3 : ∀ i, i < 5 → nI i - nI i / 3 * 3 = nI (i % 3) := by decide
/-- a round begins -/
theorem lw_1 (L : LB τ b) (W : WW h τ b A A j A0 Z) {i : Nat} (hi : i < 5) {l7 l8 l9 l10 l11 l12 l13 l14 l15 l16 l17 l18 l19 l20 l21 l22 : Option Value} : ∃ g, WW g τ b A A (i % 3) A Z ∧ ∀ Q : QT, wq X (d + 12) 315 38 [some (.ref 10000), some (.ref 1), some (.ref 195), some (.int 1), some (.ref 196), some (.int (nI (sAll τ))), some (.int (nI i)), l7, l8, l9, l10, l11, l12, l13, l14, l15, l16, l17, l18, l19, l20, l21, l22] [] h Q = wq X (d + 12) 315 118 [some (.ref 10000), some (.ref 1), some (.ref 195), some (.int 1), some (.ref 196), some (.int (nI (sAll τ))), some (.int (nI i)), some (.int (A 18)), some (.int (nI (aN A))), some (.int (nI (sShort τ (aN A)))), some (.int (nI (sLoss τ (aN A)))), some (.int 0), l12, l13, l14, l15, l16, l17, l18, l19, l20, l21, l22] [] g Q := by
  have K := ww_a W
  have hn := aN_lt L.1 K
  have h7 := o_mn L.1
  obtain ⟨g1, W1, q1⟩ := w_about3 (X := X) (d := d + 1) W
  obtain ⟨g2, W2, q2⟩ := w_out (X := X) (d := d + 1) W1
  obtain ⟨g3, W3, q3⟩ := w_about7 (X := X) (d := d + 1) W2
  obtain ⟨g4, W4, q4⟩ := w_loss0 (X := X) (d := d + 1) W3
  obtain ⟨g5, W5, q5⟩ := w_image (X := X) (d := d + 1) W4 (show i % 3 < 3 by omega)
  obtain ⟨g6, W6, q6⟩ := w_loss1 (X := X) (d := d + 1) W5
  have f1 : (nI i < 5) = True := eq_true (nI_lt (b := 5) hi (by decide))
  have hl := loss_all L.1 K.1.2
  have a1 := sLoss_le L.1 (sAll τ)
  have f2 : (nI (sLoss τ (sAll τ)) < nI (sLoss τ (aN A))) = False := eq_false (by rw [nI_ltI (by omega) (by omega)]; omega)
  have f3 : nI (aN A) &&& (nI (sAll τ) ^^^ (-1)) = 0 := set_in h7 K.1.2
  have n3 : ¬ (3 : Int32) = 0 := by decide
  refine ⟨g6, W6, fun Q => ?_⟩
  simp only [u315_38, u315_40, u315_41, u315_44, u315_45, u315_48, u315_49, u315_50, eq_self, q_nl0, q_nlI, q_nlR, not_false_eq_true, q_nz0, q_nz1, q_zv0, q_zv1, q_tl1, q_tl0, q_wif, q_swc, q_swn, List.cons_append, List.nil_append, if_true, if_false, e10, e01, Bool.false_eq_true, sh_1, f1, q1]
  simp only [u315_53, u315_55, u315_56, eq_self, q_nl0, q_nlI, q_nlR, not_false_eq_true, q_nz0, q_nz1, q_zv0, q_zv1, q_tl1, q_tl0, q_wif, q_swc, q_swn, List.cons_append, List.nil_append, if_true, if_false, e10, e01, Bool.false_eq_true, sh_1, q2]
  simp only [u315_59, u315_61, u315_62, u315_64, eq_self, q_nl0, q_nlI, q_nlR, not_false_eq_true, q_nz0, q_nz1, q_zv0, q_zv1, q_tl1, q_tl0, q_wif, q_swc, q_swn, List.cons_append, List.nil_append, if_true, if_false, e10, e01, Bool.false_eq_true, sh_1, q3]
  simp only [u315_67, u315_69, u315_70, u315_71, eq_self, q_nl0, q_nlI, q_nlR, not_false_eq_true, q_nz0, q_nz1, q_zv0, q_zv1, q_tl1, q_tl0, q_wif, q_swc, q_swn, List.cons_append, List.nil_append, if_true, if_false, e10, e01, Bool.false_eq_true, sh_1, q4]
  simp only [u315_74, u315_76, u315_77, u315_79, u315_80, u315_81, eq_self, q_nl0, q_nlI, q_nlR, not_false_eq_true, q_nz0, q_nz1, q_zv0, q_zv1, q_tl1, q_tl0, q_wif, q_swc, q_swn, List.cons_append, List.nil_append, if_true, if_false, e10, e01, Bool.false_eq_true, sh_1, n3, rem3 i hi, q5]
  simp only [u315_84, u315_86, u315_89, u315_91, u315_93, u315_94, u315_95, u315_96, u315_99, u315_101, u315_102, u315_103, eq_self, q_nl0, q_nlI, q_nlR, not_false_eq_true, q_nz0, q_nz1, q_zv0, q_zv1, q_tl1, q_tl0, q_wif, q_swc, q_swn, List.cons_append, List.nil_append, if_true, if_false, e10, e01, Bool.false_eq_true, sh_1, f3, q6]
  simp only [u315_106, u315_109, u315_110, u315_113, u315_114, u315_115, u315_116, eq_self, q_nl0, q_nlI, q_nlR, not_false_eq_true, q_nz0, q_nz1, q_zv0, q_zv1, q_tl1, q_tl0, q_wif, q_swc, q_swn, List.cons_append, List.nil_append, if_true, if_false, e10, e01, Bool.false_eq_true, f2]
end LAW1
