/-! THE LAW: a round of five -/
section LAW1
variable {X : XT} {d : Nat} {h : HT} {τ : CT} {b : Nat} {A : Nat → Int32} {j : Nat} {A0 : Nat → Int32} {Z : Option (Nat → Int32)}
theorem oI_n : oI none = -1 := rfl
theorem oI_s {v : Nat} : oI (some v) = nI v := rfl
theorem rem3 : ∀ i, i < 5 → nI i - nI i / 3 * 3 = nI (i % 3) := by decide
/-- a round begins -/
theorem lw_1 (L : LB τ b) (W : WW h τ b A A j A0 Z) {i : Nat} (hi : i < 5) {l7 l8 l9 l10 l11 l12 l13 l14 l15 l16 l17 l18 l19 l20 l21 l22 : Option Value} : ∃ g, WW g τ b A A (i % 3) A Z ∧ ∀ Q : QT, wq X (d + 12) 315 38 [some (.ref 10000), some (.ref 1), some (.ref 195), some (.int 1), some (.ref 196), some (.int (nI (sAll τ))), some (.int (nI i)), l7, l8, l9, l10, l11, l12, l13, l14, l15, l16, l17, l18, l19, l20, l21, l22] [] h Q = wq X (d + 12) 315 118 [some (.ref 10000), some (.ref 1), some (.ref 195), some (.int 1), some (.ref 196), some (.int (nI (sAll τ))), some (.int (nI i)), some (.int (A 18)), some (.int (nI (aN A))), some (.int (nI (sShort τ (aN A)))), some (.int (nI (sLoss τ (aN A)))), some (.int 0), l12, l13, l14, l15, l16, l17, l18, l19, l20, l21, l22] [] g Q := by
  have K := ww_a W
  have hn := aN_lt L.1 K
  have h7 := o_mn L.1
  obtain ⟨g1, W1, q1⟩ := w_about3 (X := X) (d := d + 1) W
  obtain ⟨g2, W2, q2⟩ := w_out (X := X) (d := d + 1) W1
  obtain ⟨g3, W3, q3⟩ := w_about7 (X := X) (d := d + 1) W2
  obtain ⟨g4, W4, q4⟩ := w_loss0 (X := X) (d := d + 1) W3
  obtain ⟨g5, W5, q5⟩ := w_image (X := X) (d := d + 1) W4 (show i % 3 < 3 by omega)
  obtain ⟨g6, W6, q6⟩ := w_loss1 (X := X) (d := d + 1) W5
  have f1 : (nI i < 5) = True := eq_true (nI_lt (b := 5) hi (by decide))
  have hl := loss_all L.1 K.1.2
  have a1 := sLoss_le L.1 (sAll τ)
  have f2 : (nI (sLoss τ (sAll τ)) < nI (sLoss τ (aN A))) = False := eq_false (by rw [nI_ltI (by omega) (by omega)]; omega)
  have f3 : nI (aN A) &&& (nI (sAll τ) ^^^ (-1)) = 0 := set_in h7 K.1.2
  have n3 : ¬ (3 : Int32) = 0 := by decide
  refine ⟨g6, W6, fun Q => ?_⟩
  simp only [u315_38, u315_40, u315_41, u315_44, u315_45, u315_48, u315_49, u315_50, eq_self, q_nl0, q_nlI, q_nlR, not_false_eq_true, q_nz0, q_nz1, q_zv0, q_zv1, q_tl1, q_tl0, q_wif, q_swc, q_swn, List.cons_append, List.nil_append, if_true, if_false, e10, e01, Bool.false_eq_true, sh_1, f1, q1]
  simp only [u315_53, u315_55, u315_56, eq_self, q_nl0, q_nlI, q_nlR, not_false_eq_true, q_nz0, q_nz1, q_zv0, q_zv1, q_tl1, q_tl0, q_wif, q_swc, q_swn, List.cons_append, List.nil_append, if_true, if_false, e10, e01, Bool.false_eq_true, sh_1, q2]
  simp only [u315_59, u315_61, u315_62, u315_64, eq_self, q_nl0, q_nlI, q_nlR, not_false_eq_true, q_nz0, q_nz1, q_zv0, q_zv1, q_tl1, q_tl0, q_wif, q_swc, q_swn, List.cons_append, List.nil_append, if_true, if_false, e10, e01, Bool.false_eq_true, sh_1, q3]
  simp only [u315_67, u315_69, u315_70, u315_71, eq_self, q_nl0, q_nlI, q_nlR, not_false_eq_true, q_nz0, q_nz1, q_zv0, q_zv1, q_tl1, q_tl0, q_wif, q_swc, q_swn, List.cons_append, List.nil_append, if_true, if_false, e10, e01, Bool.false_eq_true, sh_1, q4]
  simp only [u315_74, u315_76, u315_77, u315_79, u315_80, u315_81, eq_self, q_nl0, q_nlI, q_nlR, not_false_eq_true, q_nz0, q_nz1, q_zv0, q_zv1, q_tl1, q_tl0, q_wif, q_swc, q_swn, List.cons_append, List.nil_append, if_true, if_false, e10, e01, Bool.false_eq_true, sh_1, n3, rem3 i hi, q5]
  simp only [u315_84, u315_86, u315_89, u315_91, u315_93, u315_94, u315_95, u315_96, u315_99, u315_101, u315_102, u315_103, eq_self, q_nl0, q_nlI, q_nlR, not_false_eq_true, q_nz0, q_nz1, q_zv0, q_zv1, q_tl1, q_tl0, q_wif, q_swc, q_swn, List.cons_append, List.nil_append, if_true, if_false, e10, e01, Bool.false_eq_true, sh_1, f3, q6]
  simp only [u315_106, u315_109, u315_110, u315_113, u315_114, u315_115, u315_116, eq_self, q_nl0, q_nlI, q_nlR, not_false_eq_true, q_nz0, q_nz1, q_zv0, q_zv1, q_tl1, q_tl0, q_wif, q_swc, q_swn, List.cons_append, List.nil_append, if_true, if_false, e10, e01, Bool.false_eq_true, f2]
theorem lw_mO (L : LB τ b) (W : WW h τ b A A j A0 Z) {i m : Nat} (hm : m < τ 0 1) (z : (aN A).testBit m = true) {l12 l13 l14 l15 l16 l17 l18 l19 l20 l21 l22 : Option Value} : ∃ g, WW g τ b A A j A0 none ∧ ∀ Q : QT, wq X (d + 12) 315 118 [some (.ref 10000), some (.ref 1), some (.ref 195), some (.int 1), some (.ref 196), some (.int (nI (sAll τ))), some (.int (nI i)), some (.int (A 18)), some (.int (nI (aN A))), some (.int (nI (sShort τ (aN A)))), some (.int (nI (sLoss τ (aN A)))), some (.int (nI m)), l12, l13, l14, l15, l16, l17, l18, l19, l20, l21, l22] [] h Q = wq X (d + 12) 315 345 [some (.ref 10000), some (.ref 1), some (.ref 195), some (.int 1), some (.ref 196), some (.int (nI (sAll τ))), some (.int (nI i)), some (.int (A 18)), some (.int (nI (aN A))), some (.int (nI (sShort τ (aN A)))), some (.int (nI (sLoss τ (aN A)))), some (.int (nI m)), some (.int 1), some (.int (nI (sShort τ (aN A &&& (127 ^^^ 2 ^ m))))), l14, l15, l16, l17, l18, l19, l20, l21, l22] [] g Q := by
  have h5 := L.2.2.1
  have K := ww_a W
  have hn := aN_lt L.1 K
  have h7 := o_mn L.1
  have f1 : (nI m < nI (τ 0 1)) = True := eq_true (nI_lt hm (by omega))
  have hc : m_gI h 195 1 = nI (τ 0 1) := (ww_T W).1.2.1
  have hb := bit_i hn (show m < 8 by omega)
  have hs := s128 L.1 (aN A)
  obtain ⟨g1, W1, q1⟩ := w_home (X := X) (d := d + 1) W hm z
  have en : aN (aHome τ A (aN A) (2 ^ m)) = aN A &&& (127 ^^^ 2 ^ m) := aHome_n L.1 K
  obtain ⟨g2, W2, q2⟩ := w_loss0 (X := X) (d := d + 1) W1
  obtain ⟨g3, W3, q3⟩ := w_about7 (X := X) (d := d + 1) W2
  obtain ⟨g4, W4, q4⟩ := w_undo (X := X) (d := d + 1) W3
  obtain ⟨g5, W5, q5⟩ := w_about7 (X := X) (d := d + 1) W4
  obtain ⟨g6, W6, q6⟩ := w_out (X := X) (d := d + 1) W5
  obtain ⟨g7, W7, q7⟩ := w_ask W6 (fun T H => a_pillars (X := X) (d := d + 1) H)
  rw [en] at q2 q3
  have a0 := sLoss_le L.1 (aN A)
  have hl := loss_off L.1 (aN A) (2 ^ m) hn
  have f2 : (nI (sLoss τ (aN A)) < nI (sLoss τ (aN A &&& (127 ^^^ 2 ^ m)))) = False := eq_false (by rw [nI_ltI (by omega) (by omega)]; omega)
  obtain ⟨yy, _, _, hd⟩ := K.2.2.2
  obtain ⟨x, hx, ex, _⟩ := hd m hm
  have y999 : x < 2 ^ 31 := by
    have := K.2.2.2
    obtain ⟨y, hy, _, _⟩ := this
    omega
  have f3 : (A (7 + m) < 0) = False := by
    rw [ex]
    exact oI_lt0 y999
  have hp := bS_lt (p := piP τ (aN A)) (τ 0 1)
  have hp7 : fL (bS (piP τ (aN A))) 0 (τ 0 1) < 128 := Nat.lt_of_lt_of_le hp (p2_7 h7)
  have hpb := bit_i hp7 (show m < 8 by omega)
  rw [bS_bits, decide_eq_true hm, Bool.true_and] at hpb
  have ep : piP τ (aN A) m = decide (sShort τ (aN A) &&& (127 ^^^ sShort τ (aN A &&& (127 ^^^ 2 ^ m))) ≠ 0) := by
    unfold piP
    rw [z, Bool.true_and]
  rw [ep] at hpb
  refine ⟨g7, W7, fun Q => ?_⟩
  simp only [u315_118, u315_120, u315_121, u315_122, u315_123, u315_126, u315_127, u315_130, u315_132, u315_134, u315_135, u315_136, u315_137, u315_138, u315_141, u315_142, u315_145, u315_146, u315_148, u315_150, u315_153, u315_154, u315_156, eq_self, q_nl0, q_nlI, q_nlR, not_false_eq_true, q_nz0, q_nz1, q_zv0, q_zv1, q_tl1, q_tl0, q_wif, q_swc, q_swn, List.cons_append, List.nil_append, if_true, if_false, e10, e01, Bool.false_eq_true, sh_1, sh_195, t_in1, t_cl1, hc, f1, hb, z, q1]
  simp only [u315_159, u315_162, u315_163, u315_164, eq_self, q_nl0, q_nlI, q_nlR, not_false_eq_true, q_nz0, q_nz1, q_zv0, q_zv1, q_tl1, q_tl0, q_wif, q_swc, q_swn, List.cons_append, List.nil_append, if_true, if_false, e10, e01, Bool.false_eq_true, sh_1, f3, q2]
  simp only [u315_167, u315_169, u315_172, u315_173, u315_176, u315_177, u315_178, u315_181, u315_182, u315_184, u315_187, u315_189, u315_192, u315_193, u315_194, u315_197, u315_198, u315_199, u315_202, u315_204, u315_207, u315_208, u315_211, u315_212, u315_213, u315_214, u315_216, eq_self, q_nl0, q_nlI, q_nlR, not_false_eq_true, q_nz0, q_nz1, q_zv0, q_zv1, q_tl1, q_tl0, q_wif, q_swc, q_swn, List.cons_append, List.nil_append, if_true, if_false, e10, e01, Bool.false_eq_true, sh_1, f2, q3]
  simp only [u315_219, u315_221, u315_222, u315_225, u315_226, eq_self, q_nl0, q_nlI, q_nlR, not_false_eq_true, q_nz0, q_nz1, q_zv0, q_zv1, q_tl1, q_tl0, q_wif, q_swc, q_swn, List.cons_append, List.nil_append, if_true, if_false, e10, e01, Bool.false_eq_true, sh_1, q4]
  simp only [u315_229, u315_232, u315_233, u315_235, eq_self, q_nl0, q_nlI, q_nlR, not_false_eq_true, q_nz0, q_nz1, q_zv0, q_zv1, q_tl1, q_tl0, q_wif, q_swc, q_swn, List.cons_append, List.nil_append, if_true, if_false, e10, e01, Bool.false_eq_true, sh_1, q5]
  simp only [u315_238, u315_240, u315_243, u315_244, eq_self, q_nl0, q_nlI, q_nlR, not_false_eq_true, q_nz0, q_nz1, q_zv0, q_zv1, q_tl1, q_tl0, q_wif, q_swc, q_swn, List.cons_append, List.nil_append, if_true, if_false, e10, e01, Bool.false_eq_true, sh_1, q6]
  simp only [u315_247, u315_249, u315_252, u315_253, u315_256, u315_257, u315_258, u315_259, u315_262, u315_264, u315_267, u315_268, eq_self, q_nl0, q_nlI, q_nlR, not_false_eq_true, q_nz0, q_nz1, q_zv0, q_zv1, q_tl1, q_tl0, q_wif, q_swc, q_swn, List.cons_append, List.nil_append, if_true, if_false, e10, e01, Bool.false_eq_true, sh_1, q7]
  by_cases y : sShort τ (aN A) &&& (127 ^^^ sShort τ (aN A &&& (127 ^^^ 2 ^ m))) = 0
  · simp only [u315_271, u315_273, u315_274, u315_275, u315_276, u315_277, u315_280, u315_281, u315_284, u315_285, u315_287, u315_289, u315_290, u315_291, u315_292, u315_295, u315_296, u315_299, u315_300, u315_303, u315_306, u315_307, u315_310, u315_312, u315_313, u315_314, u315_315, u315_316, u315_319, u315_320, u315_323, u315_324, u315_326, u315_328, u315_331, u315_332, u315_335, u315_336, u315_339, u315_340, u315_343, u315_344, eq_self, q_nl0, q_nlI, q_nlR, not_false_eq_true, q_nz0, q_nz1, q_zv0, q_zv1, q_tl1, q_tl0, q_wif, q_swc, q_swn, List.cons_append, List.nil_append, if_true, if_false, e10, e01, Bool.false_eq_true, hpb, ne_eq, decide_eq_true_eq, nI_not _ hs _ (s128 L.1 _), nI_0eq (and_128 hs), eq_true y, not_true_eq_false]
  · simp only [u315_271, u315_273, u315_274, u315_275, u315_276, u315_277, u315_280, u315_281, u315_284, u315_285, u315_287, u315_289, u315_290, u315_291, u315_292, u315_295, u315_296, u315_299, u315_300, u315_303, u315_306, u315_307, u315_310, u315_312, u315_313, u315_314, u315_315, u315_316, u315_319, u315_320, u315_323, u315_324, u315_326, u315_328, u315_331, u315_332, u315_335, u315_336, u315_339, u315_340, u315_343, u315_344, eq_self, q_nl0, q_nlI, q_nlR, not_false_eq_true, q_nz0, q_nz1, q_zv0, q_zv1, q_tl1, q_tl0, q_wif, q_swc, q_swn, List.cons_append, List.nil_append, if_true, if_false, e10, e01, Bool.false_eq_true, hpb, ne_eq, decide_eq_true_eq, nI_not _ hs _ (s128 L.1 _), nI_0eq (and_128 hs), y, not_false_eq_true]
theorem lw_mI (L : LB τ b) (W : WW h τ b A A j A0 Z) {i m : Nat} (hm : m < τ 0 1) (z : ¬ (aN A).testBit m = true) {l12 l13 l14 l15 l16 l17 l18 l19 l20 l21 l22 : Option Value} : ∃ g, WW g τ b A A j A0 none ∧ ∀ Q : QT, wq X (d + 12) 315 118 [some (.ref 10000), some (.ref 1), some (.ref 195), some (.int 1), some (.ref 196), some (.int (nI (sAll τ))), some (.int (nI i)), some (.int (A 18)), some (.int (nI (aN A))), some (.int (nI (sShort τ (aN A)))), some (.int (nI (sLoss τ (aN A)))), some (.int (nI m)), l12, l13, l14, l15, l16, l17, l18, l19, l20, l21, l22] [] h Q = wq X (d + 12) 315 345 [some (.ref 10000), some (.ref 1), some (.ref 195), some (.int 1), some (.ref 196), some (.int (nI (sAll τ))), some (.int (nI i)), some (.int (A 18)), some (.int (nI (aN A))), some (.int (nI (sShort τ (aN A)))), some (.int (nI (sLoss τ (aN A)))), some (.int (nI m)), some (.int 0), some (.int (nI (sShort τ (aN A ||| 2 ^ m)))), l14, l15, l16, l17, l18, l19, l20, l21, l22] [] g Q := by
  have h5 := L.2.2.1
  have K := ww_a W
  have hn := aN_lt L.1 K
  have h7 := o_mn L.1
  have f1 : (nI m < nI (τ 0 1)) = True := eq_true (nI_lt hm (by omega))
  have hc : m_gI h 195 1 = nI (τ 0 1) := (ww_T W).1.2.1
  have hb := bit_i hn (show m < 8 by omega)
  have hs := s128 L.1 (aN A)
  have hp2 := p2_lt (show m < 7 by omega)
  obtain ⟨g1, W1, q1⟩ := w_leave (X := X) (d := d + 1) W hm z
  have en : aN (plA A (2 ^ m)) = aN A ||| 2 ^ m := plA_n hn hp2
  obtain ⟨g2, W2, q2⟩ := w_loss0 (X := X) (d := d + 1) W1
  obtain ⟨g3, W3, q3⟩ := w_about7 (X := X) (d := d + 1) W2
  obtain ⟨g4, W4, q4⟩ := w_undo (X := X) (d := d + 1) W3
  obtain ⟨g5, W5, q5⟩ := w_about7 (X := X) (d := d + 1) W4
  obtain ⟨g6, W6, q6⟩ := w_out (X := X) (d := d + 1) W5
  obtain ⟨g7, W7, q7⟩ := w_ask W6 (fun T H => a_idle (X := X) (d := d + 1) H)
  rw [en] at q2 q3
  rw [pc_one _ hn m (by omega) (by simpa using z)] at q1
  have a0 := sLoss_le L.1 (aN A)
  have a1 := sLoss_le L.1 (aN A ||| 2 ^ m)
  have hl := sLoss_mono L.1 (aN A) (2 ^ m)
  have f2 : (nI (sLoss τ (aN A ||| 2 ^ m)) < nI (sLoss τ (aN A))) = False := eq_false (by rw [nI_ltI (by omega) (by omega)]; omega)
  have hp := bS_lt (p := idP τ (aN A)) (τ 0 1)
  have hp7 : fL (bS (idP τ (aN A))) 0 (τ 0 1) < 128 := Nat.lt_of_lt_of_le hp (p2_7 h7)
  have hpb := bit_i hp7 (show m < 8 by omega)
  rw [bS_bits, decide_eq_true hm, Bool.true_and] at hpb
  have zc : (sCity τ (aN A)).testBit m = true := (city_in (n := aN A) h7 hm).mpr (by simpa using z)
  have ep : idP τ (aN A) m = decide (sShort τ (aN A ||| 2 ^ m) = sShort τ (aN A)) := by
    unfold idP
    rw [zc, Bool.true_and]
  rw [ep] at hpb
  have es : (nI (sShort τ (aN A ||| 2 ^ m)) = nI (sShort τ (aN A))) = (sShort τ (aN A ||| 2 ^ m) = sShort τ (aN A)) := nI_eqB (by have := s128 L.1 (aN A ||| 2 ^ m); omega) (by omega)
  refine ⟨g7, W7, fun Q => ?_⟩
  simp only [u315_118, u315_120, u315_121, u315_122, u315_123, u315_126, u315_127, u315_130, u315_132, u315_134, u315_135, u315_136, u315_137, u315_138, u315_141, u315_142, u315_145, u315_146, u315_148, u315_150, u315_153, u315_154, u315_156, u315_159, u315_162, u315_163, u315_164, u315_167, u315_169, u315_172, u315_173, u315_176, u315_177, u315_178, u315_181, u315_182, u315_184, eq_self, q_nl0, q_nlI, q_nlR, not_false_eq_true, q_nz0, q_nz1, q_zv0, q_zv1, q_tl1, q_tl0, q_wif, q_swc, q_swn, List.cons_append, List.nil_append, if_true, if_false, e10, e01, Bool.false_eq_true, sh_1, sh_195, t_in1, t_cl1, hc, f1, hb, z, q1]
  simp only [u315_187, u315_189, u315_192, u315_193, u315_194, u315_197, u315_198, u315_199, eq_self, q_nl0, q_nlI, q_nlR, not_false_eq_true, q_nz0, q_nz1, q_zv0, q_zv1, q_tl1, q_tl0, q_wif, q_swc, q_swn, List.cons_append, List.nil_append, if_true, if_false, e10, e01, Bool.false_eq_true, sh_1, c_bitCount hn, nI_1, q2]
  simp only [u315_202, u315_204, u315_207, u315_208, u315_211, u315_212, u315_213, u315_214, u315_216, eq_self, q_nl0, q_nlI, q_nlR, not_false_eq_true, q_nz0, q_nz1, q_zv0, q_zv1, q_tl1, q_tl0, q_wif, q_swc, q_swn, List.cons_append, List.nil_append, if_true, if_false, e10, e01, Bool.false_eq_true, sh_1, f2, q3]
  simp only [u315_219, u315_221, u315_222, u315_225, u315_226, eq_self, q_nl0, q_nlI, q_nlR, not_false_eq_true, q_nz0, q_nz1, q_zv0, q_zv1, q_tl1, q_tl0, q_wif, q_swc, q_swn, List.cons_append, List.nil_append, if_true, if_false, e10, e01, Bool.false_eq_true, sh_1, q4]
  simp only [u315_229, u315_232, u315_233, u315_235, eq_self, q_nl0, q_nlI, q_nlR, not_false_eq_true, q_nz0, q_nz1, q_zv0, q_zv1, q_tl1, q_tl0, q_wif, q_swc, q_swn, List.cons_append, List.nil_append, if_true, if_false, e10, e01, Bool.false_eq_true, sh_1, q5]
  simp only [u315_238, u315_240, u315_243, u315_244, eq_self, q_nl0, q_nlI, q_nlR, not_false_eq_true, q_nz0, q_nz1, q_zv0, q_zv1, q_tl1, q_tl0, q_wif, q_swc, q_swn, List.cons_append, List.nil_append, if_true, if_false, e10, e01, Bool.false_eq_true, sh_1, q6]
  simp only [u315_247, u315_249, u315_252, u315_253, u315_256, u315_257, u315_258, u315_259, u315_262, u315_264, u315_267, u315_268, u315_271, u315_273, u315_274, u315_275, u315_276, u315_277, u315_280, u315_281, u315_284, u315_285, u315_287, u315_289, u315_290, u315_291, u315_292, u315_295, u315_296, u315_299, u315_300, u315_303, u315_306, u315_307, eq_self, q_nl0, q_nlI, q_nlR, not_false_eq_true, q_nz0, q_nz1, q_zv0, q_zv1, q_tl1, q_tl0, q_wif, q_swc, q_swn, List.cons_append, List.nil_append, if_true, if_false, e10, e01, Bool.false_eq_true, sh_1, q7]
  by_cases y : sShort τ (aN A ||| 2 ^ m) = sShort τ (aN A)
  · simp only [u315_310, u315_312, u315_313, u315_314, u315_315, u315_316, u315_319, u315_320, u315_323, u315_324, u315_326, u315_328, u315_331, u315_332, u315_335, u315_336, u315_339, u315_340, u315_343, u315_344, eq_self, q_nl0, q_nlI, q_nlR, not_false_eq_true, q_nz0, q_nz1, q_zv0, q_zv1, q_tl1, q_tl0, q_wif, q_swc, q_swn, List.cons_append, List.nil_append, if_true, if_false, e10, e01, Bool.false_eq_true, hpb, decide_eq_true_eq, es, eq_true y]
  · simp only [u315_310, u315_312, u315_313, u315_314, u315_315, u315_316, u315_319, u315_320, u315_323, u315_324, u315_326, u315_328, u315_331, u315_332, u315_335, u315_336, u315_339, u315_340, u315_343, u315_344, eq_self, q_nl0, q_nlI, q_nlR, not_false_eq_true, q_nz0, q_nz1, q_zv0, q_zv1, q_tl1, q_tl0, q_wif, q_swc, q_swn, List.cons_append, List.nil_append, if_true, if_false, e10, e01, Bool.false_eq_true, hpb, decide_eq_true_eq, es, y]
/-- when he returns -/
theorem lw_rO (L : LB τ b) (W : WW h τ b A A j A0 none) {i m : Nat} (hm : m < τ 0 1) (z : (aN A).testBit m = true) {l13 : Int32} {l14 l15 l16 l17 l18 l19 l20 l21 l22 : Option Value} : ∃ g, WW g τ b A A j A0 none ∧ ∀ Q : QT, wq X (d + 12) 315 345 [some (.ref 10000), some (.ref 1), some (.ref 195), some (.int 1), some (.ref 196), some (.int (nI (sAll τ))), some (.int (nI i)), some (.int (A 18)), some (.int (nI (aN A))), some (.int (nI (sShort τ (aN A)))), some (.int (nI (sLoss τ (aN A)))), some (.int (nI m)), some (.int 1), some (.int l13), l14, l15, l16, l17, l18, l19, l20, l21, l22] [] h Q = wq X (d + 12) 315 423 [some (.ref 10000), some (.ref 1), some (.ref 195), some (.int 1), some (.ref 196), some (.int (nI (sAll τ))), some (.int (nI i)), some (.int (A 18)), some (.int (nI (aN A))), some (.int (nI (sShort τ (aN A)))), some (.int (nI (sLoss τ (aN A)))), some (.int (nI m)), some (.int 1), some (.int l13), some (.int (oI (reO τ A m))), l15, l16, l17, l18, l19, l20, l21, l22] [] g Q := by
  have h5 := L.2.2.1
  have h7 := o_mn L.1
  have K := ww_a W
  have hn := aN_lt L.1 K
  obtain ⟨g1, W1, q1⟩ := w_ask W (fun T H => a_returnsO (X := X) (d := d + 1) H hm z)
  cases e : reO τ A m with
  | none =>
    rw [e] at q1
    refine ⟨g1, W1, fun Q => ?_⟩
    simp only [u315_345, u315_346, u315_348, eq_self, q_nl0, q_nlI, q_nlR, not_false_eq_true, q_nz0, q_nz1, q_zv0, q_zv1, q_tl1, q_tl0, q_wif, q_swc, q_swn, List.cons_append, List.nil_append, if_true, if_false, e10, e01, Bool.false_eq_true, sh_1, q1]
    simp only [u315_351, u315_353, u315_354, u315_357, u315_359, u315_362, u315_364, u315_365, u315_368, u315_370, u315_373, u315_374, u315_376, u315_379, u315_381, u315_382, u315_383, u315_384, u315_387, u315_388, u315_390, u315_391, u315_392, u315_395, u315_397, u315_398, u315_399, u315_400, u315_401, u315_404, u315_406, u315_407, u315_408, u315_411, u315_414, u315_417, u315_418, u315_421, u315_422, eq_self, q_nl0, q_nlI, q_nlR, not_false_eq_true, q_nz0, q_nz1, q_zv0, q_zv1, q_tl1, q_tl0, q_wif, q_swc, q_swn, List.cons_append, List.nil_append, if_true, if_false, e10, e01, Bool.false_eq_true, oI_n, oI_s, m1_lt0]
  | some v =>
    rw [e] at q1
    obtain ⟨v1, v2, v3⟩ := fst_some 60 e
    have v0 : 0 < v := by
      apply Nat.pos_of_ne_zero
      intro w
      rw [w] at v2
      have := reP_t v2
      rw [show aIt τ A 0 = A from rfl, z] at this
      cases this
    obtain ⟨u, rfl⟩ : ∃ u, v = u + 1 := ⟨v - 1, by omega⟩
    have b1 := reP_t v2
    have b2 := reP_f (v3 u (by omega))
    obtain ⟨k1, k2⟩ := wk_min z e (τ 0 1)
    obtain ⟨q, hq, hle⟩ := k2 hm
    obtain ⟨c1, c2, c3⟩ := k1 q hq
    obtain ⟨g2, W2, q2⟩ := w_ask W1 (fun T H => a_will (X := X) (d := d + 1) (n := u + 1) H (by omega))
    obtain ⟨g3, W3, q3⟩ := w_ask W2 (fun T H => a_will (X := X) (d := d + 1) (n := u) H (by omega))
    obtain ⟨g4, W4, q4⟩ := w_ask W3 (fun T H => a_weakest (X := X) (d := d + 1) H)
    obtain ⟨g5, W5, q5⟩ := w_ask W4 (fun T H => a_returnsO (X := X) (d := d + 1) H c1 c2)
    rw [hq] at q4
    rw [c3] at q5
    have n1 := aN_lt L.1 (it_ok L.1 K (u + 1))
    have n2 := aN_lt L.1 (it_ok L.1 K u)
    have e1 := bit_i n1 (show m < 8 by omega)
    have e2 := bit_i n2 (show m < 8 by omega)
    rw [b1] at e1
    rw [b2] at e2
    have f2 : (nI (u + 1) < nI q.2) = False := eq_false (by rw [nI_ltI (by omega) (by omega)]; omega)
    refine ⟨g5, W5, fun Q => ?_⟩
    simp only [u315_345, u315_346, u315_348, eq_self, q_nl0, q_nlI, q_nlR, not_false_eq_true, q_nz0, q_nz1, q_zv0, q_zv1, q_tl1, q_tl0, q_wif, q_swc, q_swn, List.cons_append, List.nil_append, if_true, if_false, e10, e01, Bool.false_eq_true, sh_1, q1]
    simp only [u315_351, u315_353, u315_354, u315_357, u315_359, u315_362, u315_364, u315_365, u315_368, u315_370, u315_373, u315_374, u315_376, eq_self, q_nl0, q_nlI, q_nlR, not_false_eq_true, q_nz0, q_nz1, q_zv0, q_zv1, q_tl1, q_tl0, q_wif, q_swc, q_swn, List.cons_append, List.nil_append, if_true, if_false, e10, e01, Bool.false_eq_true, sh_1, oI_n, oI_s, oI_lt0 (show u + 1 < 2 ^ 31 by omega), q2]
    simp only [u315_379, u315_381, u315_382, u315_383, u315_384, u315_387, u315_388, u315_390, u315_391, u315_392, eq_self, q_nl0, q_nlI, q_nlR, not_false_eq_true, q_nz0, q_nz1, q_zv0, q_zv1, q_tl1, q_tl0, q_wif, q_swc, q_swn, List.cons_append, List.nil_append, if_true, if_false, e10, e01, Bool.false_eq_true, sh_1, e1, nI_dn, q3]
    simp only [u315_395, u315_397, u315_398, u315_399, u315_400, u315_401, u315_404, u315_406, u315_407, u315_408, eq_self, q_nl0, q_nlI, q_nlR, not_false_eq_true, q_nz0, q_nz1, q_zv0, q_zv1, q_tl1, q_tl0, q_wif, q_swc, q_swn, List.cons_append, List.nil_append, if_true, if_false, e10, e01, Bool.false_eq_true, sh_1, e2, q4]
    simp only [u315_411, eq_self, q_nl0, q_nlI, q_nlR, not_false_eq_true, q_nz0, q_nz1, q_zv0, q_zv1, q_tl1, q_tl0, q_wif, q_swc, q_swn, List.cons_append, List.nil_append, if_true, if_false, e10, e01, Bool.false_eq_true, sh_1, wkB, q5]
    simp only [u315_414, u315_417, u315_418, u315_421, u315_422, eq_self, q_nl0, q_nlI, q_nlR, not_false_eq_true, q_nz0, q_nz1, q_zv0, q_zv1, q_tl1, q_tl0, q_wif, q_swc, q_swn, List.cons_append, List.nil_append, if_true, if_false, e10, e01, Bool.false_eq_true, oI_n, oI_s, f2]
theorem lw_rI (L : LB τ b) (W : WW h τ b A A j A0 none) {i m : Nat} (hm : m < τ 0 1) (z : ¬ (aN A).testBit m = true) {l13 : Int32} {l14 l15 l16 l17 l18 l19 l20 l21 l22 : Option Value} : ∃ g, WW g τ b A A j A0 none ∧ ∀ Q : QT, wq X (d + 12) 315 345 [some (.ref 10000), some (.ref 1), some (.ref 195), some (.int 1), some (.ref 196), some (.int (nI (sAll τ))), some (.int (nI i)), some (.int (A 18)), some (.int (nI (aN A))), some (.int (nI (sShort τ (aN A)))), some (.int (nI (sLoss τ (aN A)))), some (.int (nI m)), some (.int 0), some (.int l13), l14, l15, l16, l17, l18, l19, l20, l21, l22] [] h Q = wq X (d + 12) 315 423 [some (.ref 10000), some (.ref 1), some (.ref 195), some (.int 1), some (.ref 196), some (.int (nI (sAll τ))), some (.int (nI i)), some (.int (A 18)), some (.int (nI (aN A))), some (.int (nI (sShort τ (aN A)))), some (.int (nI (sLoss τ (aN A)))), some (.int (nI m)), some (.int 0), some (.int l13), some (.int (-1)), l15, l16, l17, l18, l19, l20, l21, l22] [] g Q := by
  obtain ⟨g1, W1, q1⟩ := w_ask W (fun T H => a_returnsI (X := X) (d := d + 1) H hm z)
  refine ⟨g1, W1, fun Q => ?_⟩
  simp only [u315_345, u315_346, u315_348, eq_self, q_nl0, q_nlI, q_nlR, not_false_eq_true, q_nz0, q_nz1, q_zv0, q_zv1, q_tl1, q_tl0, q_wif, q_swc, q_swn, List.cons_append, List.nil_append, if_true, if_false, e10, e01, Bool.false_eq_true, sh_1, q1]
  simp only [u315_351, u315_353, u315_354, u315_357, u315_359, u315_362, u315_364, u315_365, u315_368, u315_370, u315_373, u315_374, u315_376, u315_379, u315_381, u315_382, u315_383, u315_384, u315_387, u315_388, u315_390, u315_391, u315_392, u315_395, u315_397, u315_398, u315_399, u315_400, u315_401, u315_404, u315_406, u315_407, u315_408, u315_411, u315_414, u315_417, u315_418, u315_421, u315_422, eq_self, q_nl0, q_nlI, q_nlR, not_false_eq_true, q_nz0, q_nz1, q_zv0, q_zv1, q_tl1, q_tl0, q_wif, q_swc, q_swn, List.cons_append, List.nil_append, if_true, if_false, e10, e01, Bool.false_eq_true, m1_lt0]
/-- what feeds him -/
theorem lw_fI (L : LB τ b) (W : WW h τ b A A j A0 none) {i m : Nat} (hm : m < τ 0 1) (z : ¬ (aN A).testBit m = true) {l13 : Int32} {l15 l16 l17 l18 l19 l20 l21 l22 : Option Value} : ∃ g, WW g τ b A A j A0 none ∧ ∀ Q : QT, wq X (d + 12) 315 423 [some (.ref 10000), some (.ref 1), some (.ref 195), some (.int 1), some (.ref 196), some (.int (nI (sAll τ))), some (.int (nI i)), some (.int (A 18)), some (.int (nI (aN A))), some (.int (nI (sShort τ (aN A)))), some (.int (nI (sLoss τ (aN A)))), some (.int (nI m)), some (.int 0), some (.int l13), some (.int (-1)), l15, l16, l17, l18, l19, l20, l21, l22] [] h Q = wq X (d + 12) 315 118 [some (.ref 10000), some (.ref 1), some (.ref 195), some (.int 1), some (.ref 196), some (.int (nI (sAll τ))), some (.int (nI i)), some (.int (A 18)), some (.int (nI (aN A))), some (.int (nI (sShort τ (aN A)))), some (.int (nI (sLoss τ (aN A)))), some (.int (nI (m + 1))), some (.int 0), some (.int l13), some (.int (-1)), some (.int (-1)), l16, l17, l18, l19, l20, l21, l22] [] g Q := by
  obtain ⟨g1, W1, q1⟩ := w_ask W (fun T H => a_feedsI (X := X) (d := d + 1) (y := 3) H hm z)
  have m1 : ((-1 : Int32) < 1) = True := eq_true (by decide)
  have m0 : ((-1 : Int32) = 0) = False := eq_false (by decide)
  refine ⟨g1, W1, fun Q => ?_⟩
  simp only [u315_423, u315_424, u315_426, u315_427, eq_self, q_nl0, q_nlI, q_nlR, not_false_eq_true, q_nz0, q_nz1, q_zv0, q_zv1, q_tl1, q_tl0, q_wif, q_swc, q_swn, List.cons_append, List.nil_append, if_true, if_false, e10, e01, Bool.false_eq_true, sh_1, q1]
  simp only [u315_430, u315_432, u315_433, u315_436, u315_438, u315_439, u315_442, u315_443, u315_445, u315_447, u315_450, u315_452, u315_455, u315_456, u315_458, u315_461, u315_462, u315_464, u315_467, u315_469, u315_472, u315_474, u315_475, u315_478, u315_479, u315_482, u315_485, u315_487, u315_490, u315_492, u315_495, u315_497, u315_498, u315_501, u315_502, u315_505, u315_506, u315_507, u315_510, eq_self, q_nl0, q_nlI, q_nlR, not_false_eq_true, q_nz0, q_nz1, q_zv0, q_zv1, q_tl1, q_tl0, q_wif, q_swc, q_swn, List.cons_append, List.nil_append, if_true, if_false, e10, e01, Bool.false_eq_true, m1, m0, nI_1]
theorem stB_n {v n : Nat} : stB (some v) n = decide (n < v) := rfl
theorem lw_fO (L : LB τ b) (lv : LV τ A) (W : WW h τ b A A j A0 none) {i m : Nat} (hm : m < τ 0 1) (z : (aN A).testBit m = true) {l13 : Int32} {l15 l16 l17 l18 l19 l20 l21 l22 : Option Value} : ∃ g l14' l15', WW g τ b A A j A0 none ∧ ∀ Q : QT, wq X (d + 12) 315 423 [some (.ref 10000), some (.ref 1), some (.ref 195), some (.int 1), some (.ref 196), some (.int (nI (sAll τ))), some (.int (nI i)), some (.int (A 18)), some (.int (nI (aN A))), some (.int (nI (sShort τ (aN A)))), some (.int (nI (sLoss τ (aN A)))), some (.int (nI m)), some (.int 1), some (.int l13), some (.int (oI (reO τ A m))), l15, l16, l17, l18, l19, l20, l21, l22] [] h Q = wq X (d + 12) 315 118 [some (.ref 10000), some (.ref 1), some (.ref 195), some (.int 1), some (.ref 196), some (.int (nI (sAll τ))), some (.int (nI i)), some (.int (A 18)), some (.int (nI (aN A))), some (.int (nI (sShort τ (aN A)))), some (.int (nI (sLoss τ (aN A)))), some (.int (nI (m + 1))), some (.int 1), some (.int l13), l14', l15', l16, l17, l18, l19, l20, l21, l22] [] g Q := by
  have h5 := L.2.2.1
  have h7 := o_mn L.1
  obtain ⟨l, hl, el⟩ := lv m hm
  obtain ⟨g1, W1, q1⟩ := w_ask W (fun T H => a_feedsO (X := X) (d := d + 1) (n := 3) H hm (by decide) (by decide) z)
  have n3 : nI 3 = (3 : Int32) := rfl
  simp only [n3] at q1
  have m1 : ((-1 : Int32) < 1) = True := eq_true (by decide)
  have m0 : ((-1 : Int32) = 0) = False := eq_false (by decide)
  cases e : fstN (feF τ A m 3) 99 with
  | none =>
    rw [e] at q1
    refine ⟨g1, some (.int (oI (reO τ A m))), some (.int (-1)), W1, fun Q => ?_⟩
    simp only [u315_423, u315_424, u315_426, u315_427, eq_self, q_nl0, q_nlI, q_nlR, not_false_eq_true, q_nz0, q_nz1, q_zv0, q_zv1, q_tl1, q_tl0, q_wif, q_swc, q_swn, List.cons_append, List.nil_append, if_true, if_false, e10, e01, Bool.false_eq_true, sh_1, q1]
    simp only [u315_430, u315_432, u315_433, u315_436, u315_438, u315_439, u315_442, u315_443, u315_445, u315_447, u315_450, u315_452, u315_455, u315_456, u315_458, u315_461, u315_462, u315_464, u315_467, u315_469, u315_472, u315_474, u315_475, u315_478, u315_479, u315_482, u315_485, u315_487, u315_490, u315_492, u315_495, u315_497, u315_498, u315_501, u315_502, u315_505, u315_506, u315_507, u315_510, eq_self, q_nl0, q_nlI, q_nlR, not_false_eq_true, q_nz0, q_nz1, q_zv0, q_zv1, q_tl1, q_tl0, q_wif, q_swc, q_swn, List.cons_append, List.nil_append, if_true, if_false, e10, e01, Bool.false_eq_true, oI_n, oI_s, m1, m0, nI_1]
  | some v =>
    rw [e] at q1
    obtain ⟨v1, v2, _⟩ := fst_some 99 e
    by_cases v0 : v = 0
    · subst v0
      have e0 : upL A m (nI 0) = A := by
        funext k
        show (if k = m then (if 99 < A m + nI 0 then 99 else A m + nI 0) else A k) = A k
        by_cases w : k = m
        · rw [if_pos w, w, el, nI_add, show (99 : Int32) = nI 99 from rfl, if_neg (by rw [nI_ltI (by omega) (by omega)]; omega)]
          rfl
        · rw [if_neg w]
      unfold feF at v2
      rw [e0] at v2
      refine ⟨g1, some (.int (oI (reO τ A m))), some (.int 0), W1, fun Q => ?_⟩
      have z1 : ((0 : Int32) < 1) = True := eq_true (by decide)
      have z2 : nI 0 = (0 : Int32) := rfl
      simp only [u315_423, u315_424, u315_426, u315_427, eq_self, q_nl0, q_nlI, q_nlR, not_false_eq_true, q_nz0, q_nz1, q_zv0, q_zv1, q_tl1, q_tl0, q_wif, q_swc, q_swn, List.cons_append, List.nil_append, if_true, if_false, e10, e01, Bool.false_eq_true, sh_1, q1]
      cases e2 : reO τ A m with
      | none => simp only [u315_430, u315_432, u315_433, u315_436, u315_438, u315_439, u315_442, u315_443, u315_445, u315_447, u315_450, u315_452, u315_455, u315_456, u315_458, u315_461, u315_462, u315_464, u315_467, u315_469, u315_472, u315_474, u315_475, u315_478, u315_479, u315_482, u315_485, u315_487, u315_490, u315_492, u315_495, u315_497, u315_498, u315_501, u315_502, u315_505, u315_506, u315_507, u315_510, eq_self, q_nl0, q_nlI, q_nlR, not_false_eq_true, q_nz0, q_nz1, q_zv0, q_zv1, q_tl1, q_tl0, q_wif, q_swc, q_swn, List.cons_append, List.nil_append, if_true, if_false, e10, e01, Bool.false_eq_true, oI_n, oI_s, z2, z1, m1_lt0, nI_1]
      | some r =>
        rw [e2, stB_n] at v2
        have v3 := of_decide_eq_true v2
        have hr := (fst_some 60 e2).1
        have f3 : ((3 : Int32) < nI r) = True := eq_true (nI_lt (a := 3) (by omega) (by omega))
        simp only [u315_430, u315_432, u315_433, u315_436, u315_438, u315_439, u315_442, u315_443, u315_445, u315_447, u315_450, u315_452, u315_455, u315_456, u315_458, u315_461, u315_462, u315_464, u315_467, u315_469, u315_472, u315_474, u315_475, u315_478, u315_479, u315_482, u315_485, u315_487, u315_490, u315_492, u315_495, u315_497, u315_498, u315_501, u315_502, u315_505, u315_506, u315_507, u315_510, eq_self, q_nl0, q_nlI, q_nlR, not_false_eq_true, q_nz0, q_nz1, q_zv0, q_zv1, q_tl1, q_tl0, q_wif, q_swc, q_swn, List.cons_append, List.nil_append, if_true, if_false, e10, e01, Bool.false_eq_true, oI_n, oI_s, z2, z1, oI_lt0 (show r < 2 ^ 31 by omega), f3, nI_1]
    · have w1 : ¬ nI v < 1 := by
        rw [show (1 : Int32) = nI 1 from rfl, nI_ltI (by omega) (by decide)]
        omega
      have w2 : ¬ 99 < nI v := by
        rw [show (99 : Int32) = nI 99 from rfl, nI_ltI (by decide) (by omega)]
        omega
      obtain ⟨g2, W2, q2⟩ := w_give (X := X) (d := d + 1) (v := nI v) W1 hm w1 w2
      have zu : (aN (upL A m (nI v))).testBit m = true := by
        rw [upL_n (by omega)]
        exact z
      obtain ⟨g3, W3, q3⟩ := w_ask W2 (fun T H => a_returnsO (X := X) (d := d + 1) H hm zu)
      obtain ⟨g4, W4, q4⟩ := w_undo (X := X) (d := d + 1) W3
      have f1 : (upL A m (nI v) m < nI v) = False := by
        refine eq_false ?_
        have : upL A m (nI v) m = if 99 < A m + nI v then 99 else A m + nI v := up_s
        rw [this, el, nI_add, show (99 : Int32) = nI 99 from rfl]
        have x2 : (nI 99 < nI (l + v)) = (99 < l + v) := nI_ltB (by decide) (by omega)
        by_cases q : 99 < l + v
        · rw [if_pos (x2.mpr q), nI_ltI (by decide) (by omega)]
          omega
        · rw [if_neg (fun e => q (x2.mp e)), nI_ltI (by omega) (by omega)]
          omega
      have f0 : (nI v = 0) = False := eq_false (fun e => v0 ((nI_eqB (b := 0) (by omega) (by decide)).mp e))
      unfold feF at v2
      cases e2 : reO τ (upL A m (nI v)) m with
      | none =>
        rw [e2] at q3
        refine ⟨g4, some (.int (-1)), some (.int (nI v)), W4, fun Q => ?_⟩
        simp only [u315_423, u315_424, u315_426, u315_427, eq_self, q_nl0, q_nlI, q_nlR, not_false_eq_true, q_nz0, q_nz1, q_zv0, q_zv1, q_tl1, q_tl0, q_wif, q_swc, q_swn, List.cons_append, List.nil_append, if_true, if_false, e10, e01, Bool.false_eq_true, sh_1, q1]
        simp only [u315_430, u315_432, u315_433, u315_436, u315_438, u315_439, u315_442, u315_443, u315_445, u315_447, eq_self, q_nl0, q_nlI, q_nlR, not_false_eq_true, q_nz0, q_nz1, q_zv0, q_zv1, q_tl1, q_tl0, q_wif, q_swc, q_swn, List.cons_append, List.nil_append, if_true, if_false, e10, e01, Bool.false_eq_true, sh_1, oI_n, oI_s, w1, q2]
        simp only [u315_450, u315_452, u315_455, u315_456, u315_458, eq_self, q_nl0, q_nlI, q_nlR, not_false_eq_true, q_nz0, q_nz1, q_zv0, q_zv1, q_tl1, q_tl0, q_wif, q_swc, q_swn, List.cons_append, List.nil_append, if_true, if_false, e10, e01, Bool.false_eq_true, sh_1, f1, q3]
        simp only [u315_461, u315_462, u315_464, u315_467, u315_469, u315_472, u315_474, u315_475, u315_478, u315_479, eq_self, q_nl0, q_nlI, q_nlR, not_false_eq_true, q_nz0, q_nz1, q_zv0, q_zv1, q_tl1, q_tl0, q_wif, q_swc, q_swn, List.cons_append, List.nil_append, if_true, if_false, e10, e01, Bool.false_eq_true, sh_1, oI_n, oI_s, m0, m1_lt0, q4]
        simp only [u315_482, u315_485, u315_487, u315_490, u315_492, u315_495, u315_497, u315_498, u315_501, u315_502, u315_505, u315_506, u315_507, u315_510, eq_self, q_nl0, q_nlI, q_nlR, not_false_eq_true, q_nz0, q_nz1, q_zv0, q_zv1, q_tl1, q_tl0, q_wif, q_swc, q_swn, List.cons_append, List.nil_append, if_true, if_false, e10, e01, Bool.false_eq_true, f0, nI_1]
      | some r =>
        rw [e2] at q3 v2
        have v3 := of_decide_eq_true (stB_n (v := r) (n := 3) ▸ v2)
        have hr := (fst_some 60 e2).1
        have f3 : ((3 : Int32) < nI r) = True := eq_true (nI_lt (a := 3) (by omega) (by omega))
        have r0 : (nI r = 0) = False := eq_false (fun e => by have := (nI_eqB (b := 0) (by omega) (by decide)).mp e; omega)
        refine ⟨g4, some (.int (nI r)), some (.int (nI v)), W4, fun Q => ?_⟩
        simp only [u315_423, u315_424, u315_426, u315_427, eq_self, q_nl0, q_nlI, q_nlR, not_false_eq_true, q_nz0, q_nz1, q_zv0, q_zv1, q_tl1, q_tl0, q_wif, q_swc, q_swn, List.cons_append, List.nil_append, if_true, if_false, e10, e01, Bool.false_eq_true, sh_1, q1]
        simp only [u315_430, u315_432, u315_433, u315_436, u315_438, u315_439, u315_442, u315_443, u315_445, u315_447, eq_self, q_nl0, q_nlI, q_nlR, not_false_eq_true, q_nz0, q_nz1, q_zv0, q_zv1, q_tl1, q_tl0, q_wif, q_swc, q_swn, List.cons_append, List.nil_append, if_true, if_false, e10, e01, Bool.false_eq_true, sh_1, oI_n, oI_s, w1, q2]
        simp only [u315_450, u315_452, u315_455, u315_456, u315_458, eq_self, q_nl0, q_nlI, q_nlR, not_false_eq_true, q_nz0, q_nz1, q_zv0, q_zv1, q_tl1, q_tl0, q_wif, q_swc, q_swn, List.cons_append, List.nil_append, if_true, if_false, e10, e01, Bool.false_eq_true, sh_1, f1, q3]
        simp only [u315_461, u315_462, u315_464, u315_467, u315_469, u315_472, u315_474, u315_475, u315_478, u315_479, eq_self, q_nl0, q_nlI, q_nlR, not_false_eq_true, q_nz0, q_nz1, q_zv0, q_zv1, q_tl1, q_tl0, q_wif, q_swc, q_swn, List.cons_append, List.nil_append, if_true, if_false, e10, e01, Bool.false_eq_true, sh_1, oI_n, oI_s, r0, oI_lt0 (show r < 2 ^ 31 by omega), f3, q4]
        simp only [u315_482, u315_485, u315_487, u315_490, u315_492, u315_495, u315_497, u315_498, u315_501, u315_502, u315_505, u315_506, u315_507, u315_510, eq_self, q_nl0, q_nlI, q_nlR, not_false_eq_true, q_nz0, q_nz1, q_zv0, q_zv1, q_tl1, q_tl0, q_wif, q_swc, q_swn, List.cons_append, List.nil_append, if_true, if_false, e10, e01, Bool.false_eq_true, f0, nI_1]
/-- all the men of a round -/
theorem lw_men (L : LB τ b) (lv : LV τ A) (W : WW h τ b A A j A0 Z) {i : Nat} (l12 l13 l14 l15 l16 l17 l18 l19 l20 l21 l22 : Option Value) : ∃ g k12 k13 k14 k15 Z', WW g τ b A A j A0 Z' ∧ ∀ Q : QT, wq X (d + 12) 315 118 [some (.ref 10000), some (.ref 1), some (.ref 195), some (.int 1), some (.ref 196), some (.int (nI (sAll τ))), some (.int (nI i)), some (.int (A 18)), some (.int (nI (aN A))), some (.int (nI (sShort τ (aN A)))), some (.int (nI (sLoss τ (aN A)))), some (.int 0), l12, l13, l14, l15, l16, l17, l18, l19, l20, l21, l22] [] h Q = wq X (d + 12) 315 513 [some (.ref 10000), some (.ref 1), some (.ref 195), some (.int 1), some (.ref 196), some (.int (nI (sAll τ))), some (.int (nI i)), some (.int (A 18)), some (.int (nI (aN A))), some (.int (nI (sShort τ (aN A)))), some (.int (nI (sLoss τ (aN A)))), some (.int (nI (τ 0 1))), k12, k13, k14, k15, l16, l17, l18, l19, l20, l21, l22] [] g Q := by
  have h5 := L.2.2.1
  obtain ⟨l', W', e⟩ := q_loopI (α := HT × Option Value × Option Value × Option Value × Option Value) (fun m l => fun (Q : QT) => wq X (d + 12) 315 118 [some (.ref 10000), some (.ref 1), some (.ref 195), some (.int 1), some (.ref 196), some (.int (nI (sAll τ))), some (.int (nI i)), some (.int (A 18)), some (.int (nI (aN A))), some (.int (nI (sShort τ (aN A)))), some (.int (nI (sLoss τ (aN A)))), some (.int (nI m)), l.2.1, l.2.2.1, l.2.2.2.1, l.2.2.2.2, l16, l17, l18, l19, l20, l21, l22] [] l.1 Q) (fun _ l => ∃ Z', WW l.1 τ b A A j A0 Z') (τ 0 1) (by
    rintro m hm ⟨h, k12, k13, k14, k15⟩ ⟨Z', W⟩
    by_cases z : (aN A).testBit m = true
    · obtain ⟨g1, W1, q1⟩ := lw_mO (X := X) (d := d) (i := i) L W hm z (l12 := k12) (l13 := k13) (l14 := k14) (l15 := k15) (l16 := l16) (l17 := l17) (l18 := l18) (l19 := l19) (l20 := l20) (l21 := l21) (l22 := l22)
      obtain ⟨g2, W2, q2⟩ := lw_rO (X := X) (d := d) (i := i) L W1 hm z (l13 := nI (sShort τ (aN A &&& (127 ^^^ 2 ^ m)))) (l14 := k14) (l15 := k15) (l16 := l16) (l17 := l17) (l18 := l18) (l19 := l19) (l20 := l20) (l21 := l21) (l22 := l22)
      obtain ⟨g3, m14, m15, W3, q3⟩ := lw_fO (X := X) (d := d) (i := i) L lv W2 hm z (l13 := nI (sShort τ (aN A &&& (127 ^^^ 2 ^ m)))) (l15 := k15) (l16 := l16) (l17 := l17) (l18 := l18) (l19 := l19) (l20 := l20) (l21 := l21) (l22 := l22)
      exact ⟨⟨g3, some (.int 1), some (.int (nI (sShort τ (aN A &&& (127 ^^^ 2 ^ m))))), m14, m15⟩, ⟨none, W3⟩, funext fun Q => (q1 Q).trans ((q2 Q).trans (q3 Q))⟩
    · obtain ⟨g1, W1, q1⟩ := lw_mI (X := X) (d := d) (i := i) L W hm z (l12 := k12) (l13 := k13) (l14 := k14) (l15 := k15) (l16 := l16) (l17 := l17) (l18 := l18) (l19 := l19) (l20 := l20) (l21 := l21) (l22 := l22)
      obtain ⟨g2, W2, q2⟩ := lw_rI (X := X) (d := d) (i := i) L W1 hm z (l13 := nI (sShort τ (aN A ||| 2 ^ m))) (l14 := k14) (l15 := k15) (l16 := l16) (l17 := l17) (l18 := l18) (l19 := l19) (l20 := l20) (l21 := l21) (l22 := l22)
      obtain ⟨g3, W3, q3⟩ := lw_fI (X := X) (d := d) (i := i) L W2 hm z (l13 := nI (sShort τ (aN A ||| 2 ^ m))) (l15 := k15) (l16 := l16) (l17 := l17) (l18 := l18) (l19 := l19) (l20 := l20) (l21 := l21) (l22 := l22)
      exact ⟨⟨g3, some (.int 0), some (.int (nI (sShort τ (aN A ||| 2 ^ m)))), some (.int (-1)), some (.int (-1))⟩, ⟨none, W3⟩, funext fun Q => (q1 Q).trans ((q2 Q).trans (q3 Q))⟩) ⟨h, l12, l13, l14, l15⟩ ⟨Z, W⟩
  obtain ⟨Z', W'⟩ := W'
  refine ⟨l'.1, l'.2.1, l'.2.2.1, l'.2.2.2.1, l'.2.2.2.2, Z', W', fun Q => ?_⟩
  have e' := congrFun e Q
  have hc : m_gI l'.1 195 1 = nI (τ 0 1) := (ww_T W').1.2.1
  refine Eq.trans (b := wq X (d + 12) 315 118 [some (.ref 10000), some (.ref 1), some (.ref 195), some (.int 1), some (.ref 196), some (.int (nI (sAll τ))), some (.int (nI i)), some (.int (A 18)), some (.int (nI (aN A))), some (.int (nI (sShort τ (aN A)))), some (.int (nI (sLoss τ (aN A)))), some (.int (nI 0)), l12, l13, l14, l15, l16, l17, l18, l19, l20, l21, l22] [] h Q) rfl (e'.trans ?_)
  show wq X (d + 12) 315 118 _ _ _ _ = _
  simp only [u315_118, u315_120, u315_121, u315_122, u315_123, eq_self, q_nl0, q_nlI, q_nlR, not_false_eq_true, q_nz0, q_nz1, q_zv0, q_zv1, q_tl1, q_tl0, q_wif, q_swc, q_swn, List.cons_append, List.nil_append, if_true, if_false, e10, e01, Bool.false_eq_true, sh_195, t_in1, t_cl1, hc, eq_false (nI_nlt (Nat.le_refl (τ 0 1)) (show τ 0 1 < 2 ^ 31 by omega))]
end LAW1
