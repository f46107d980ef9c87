/-! THE LAW'S same(o, t, c): all that the class says plainly is as counted from the law's own rows -/
theorem xor_b : ∀ n, n < 128 → ∀ m, m < 7 → n ^^^ 2 ^ m = if n.testBit m = true then n &&& (127 ^^^ 2 ^ m) else n ||| 2 ^ m := by decide +kernel
theorem nI_xor (a b : Nat) : nI a ^^^ nI b = nI (a ^^^ b) := by
  apply Int32.toBitVec_inj.mp
  simp [nI, Int32.toBitVec_xor, Int32.toBitVec_ofNat']
/-- nothing that is short is so no more when one leaves -/
theorem sub_or {τ : CT} (H : cOk τ) (n x : Nat) : (sShort τ (n ||| x) &&& (127 ^^^ sShort τ n) = 0) = (sShort τ (n ||| x) = sShort τ n) := by
  have h1 := s128 H n
  have h2 := s128 H (n ||| x)
  refine propext ⟨fun e => ?_, fun e => ?_⟩
  · apply Nat.eq_of_testBit_eq
    intro i
    by_cases hi : i < 7
    · have := congrArg (fun z => z.testBit i) e
      simp only [and_bit hi, Nat.zero_testBit] at this
      cases p : (sShort τ n).testBit i with
      | true => exact sShort_mono H p
      | false =>
        rw [p] at this
        simpa using this
    · rw [bit_ge (n := sShort τ (n ||| x)) (k := 7) h2 (by omega), bit_ge (n := sShort τ n) (k := 7) h1 (by omega)]
  · rw [e]
    exact self_and h1
section SAME
variable {X : XT} {d : Nat} {h : HT} {τ : CT} {b : Nat} {A : Nat → Int32} {j : Nat} {A0 : Nat → Int32} {Z : Option (Nat → Int32)}
theorem nI_fold (m : Nat) (hm : m < 8) : (1 : Int32) <<< (nI m &&& 31) - 1 = nI (2 ^ m - 1) := nI_all m hm
theorem sm_0 (hX : X.2 100000 ≠ 0) (L : LB τ b) (W : WW h τ b A A j A0 Z) : ∃ g, WW g τ b A A j A0 Z ∧ ∀ Q : QT, wq X (d + 11) 191 0 [some (.ref 1), some (.ref 195), some (.ref 196), none, none, none, none, none, none, none, none, none, none, none, none, none, none] [] h Q = wq X (d + 11) 191 146 [some (.ref 1), some (.ref 195), some (.ref 196), some (.int (nI (sAll τ))), some (.int (nI (sLoss τ (sAll τ)))), some (.int 1), some (.int (-1)), some (.int 0), some (.int 0), some (.int (-1)), some (.int 0), some (.int 0), some (.int 0), none, none, none, none] [] g Q := by
  have h5 := L.2.2.1
  have s6 : m_sh (KS X) 196 = (20, 21) := sh_196 hX
  have K := ww_a W
  have hn := aN_lt L.1 K
  have h14 := K.1.1
  have hal := sAll_lt L.1
  obtain ⟨g1, W1, q1⟩ := w_about3 (X := X) (d := d) W
  obtain ⟨g2, W2, q2⟩ := w_about4 (X := X) (d := d) W1
  obtain ⟨g3, W3, q3⟩ := w_about5 (X := X) (d := d) W2
  obtain ⟨g4, W4, q4⟩ := w_about6 (X := X) (d := d) W3
  obtain ⟨g5, W5, q5⟩ := w_about7 (X := X) (d := d) W4
  obtain ⟨g6, W6, q6⟩ := w_out (X := X) (d := d) W5
  obtain ⟨g7, W7, q7⟩ := w_loss0 (X := X) (d := d) W6
  obtain ⟨g8, W8, q8⟩ := w_loss1 (X := X) (d := d) W7
  have rw_ : ∀ {g : HT}, WW g τ b A A j A0 Z → ∀ k, m_gI g 196 k = A k := fun w k => congrFun (ww_C w) k
  have t1 : m_gI h 195 1 = nI (τ 0 1) := (ww_T W).1.2.1
  have eall : (1 : Int32) <<< (nI (τ 0 1) &&& 31) - 1 = nI (sAll τ) := nI_all _ (by omega)
  have l1 := fun (Q : QT) => l_loss (X := X) (d := d + 7) (ww_T W) L hal Q
  have l2 := fun (Q : QT) => l_brief (X := X) (d := d + 8) (ww_T W5) L hn Q
  have l3 := fun (Q : QT) => l_loss (X := X) (d := d + 7) (ww_T W7) L hn Q
  refine ⟨g8, W8, fun Q => ?_⟩
  simp only [u191_0, u191_1, u191_2, u191_3, u191_4, u191_5, u191_6, u191_7, u191_8, u191_9, u191_10, u191_13, u191_15, u191_16, u191_17, eq_self, q_nl0, q_nlI, q_nlR, not_false_eq_true, q_nz0, q_nz1, q_zv0, q_zv1, q_tl1, q_tl0, q_wif, q_swc, q_swn, List.cons_append, List.nil_append, if_true, if_false, e10, e01, Bool.false_eq_true, sh_1, sh_195, t_in1, t_cl1, t1, eall, l1, q1]
  simp only [u191_20, u191_21, u191_23, u191_24, u191_27, u191_28, u191_29, eq_self, q_nl0, q_nlI, q_nlR, not_false_eq_true, q_nz0, q_nz1, q_zv0, q_zv1, q_tl1, q_tl0, q_wif, q_swc, q_swn, List.cons_append, List.nil_append, if_true, if_false, e10, e01, Bool.false_eq_true, sh_1, s6, c_in18, cl18, rw_ W1, q2]
  simp only [u191_32, u191_33, u191_35, u191_36, u191_39, u191_40, u191_41, eq_self, q_nl0, q_nlI, q_nlR, not_false_eq_true, q_nz0, q_nz1, q_zv0, q_zv1, q_tl1, q_tl0, q_wif, q_swc, q_swn, List.cons_append, List.nil_append, if_true, if_false, e10, e01, Bool.false_eq_true, sh_1, s6, c_in19, cl19, rw_ W2, q3]
  simp only [u191_44, u191_45, u191_47, u191_48, u191_51, u191_52, u191_54, eq_self, q_nl0, q_nlI, q_nlR, not_false_eq_true, q_nz0, q_nz1, q_zv0, q_zv1, q_tl1, q_tl0, q_wif, q_swc, q_swn, List.cons_append, List.nil_append, if_true, if_false, e10, e01, Bool.false_eq_true, sh_1, s6, c_in16, cl16, rw_ W3, q4]
  simp only [u191_57, u191_58, u191_60, u191_61, u191_64, u191_65, u191_67, eq_self, q_nl0, q_nlI, q_nlR, not_false_eq_true, q_nz0, q_nz1, q_zv0, q_zv1, q_tl1, q_tl0, q_wif, q_swc, q_swn, List.cons_append, List.nil_append, if_true, if_false, e10, e01, Bool.false_eq_true, sh_1, s6, c_in17, cl17, rw_ W4, q5]
  simp only [u191_70, u191_71, u191_72, u191_74, u191_75, u191_78, u191_81, u191_82, eq_self, q_nl0, q_nlI, q_nlR, not_false_eq_true, q_nz0, q_nz1, q_zv0, q_zv1, q_tl1, q_tl0, q_wif, q_swc, q_swn, List.cons_append, List.nil_append, if_true, if_false, e10, e01, Bool.false_eq_true, sh_1, s6, c_in14, cl14, rw_ W5, h14, l2, q6]
  simp only [u191_85, u191_86, u191_88, u191_89, u191_92, u191_93, u191_94, eq_self, q_nl0, q_nlI, q_nlR, not_false_eq_true, q_nz0, q_nz1, q_zv0, q_zv1, q_tl1, q_tl0, q_wif, q_swc, q_swn, List.cons_append, List.nil_append, if_true, if_false, e10, e01, Bool.false_eq_true, sh_1, s6, c_in14, cl14, rw_ W6, h14, q7]
  simp only [u191_97, u191_98, u191_99, u191_101, u191_102, u191_105, u191_108, u191_109, u191_110, eq_self, q_nl0, q_nlI, q_nlR, not_false_eq_true, q_nz0, q_nz1, q_zv0, q_zv1, q_tl1, q_tl0, q_wif, q_swc, q_swn, List.cons_append, List.nil_append, if_true, if_false, e10, e01, Bool.false_eq_true, sh_1, s6, c_in14, cl14, rw_ W7, h14, l3, q8]
  simp only [u191_113, u191_115, u191_118, u191_119, u191_122, u191_123, u191_125, u191_126, u191_128, u191_129, u191_131, u191_132, u191_134, u191_135, u191_137, u191_138, u191_140, u191_141, u191_143, u191_144, eq_self, q_nl0, q_nlI, q_nlR, not_false_eq_true, q_nz0, q_nz1, q_zv0, q_zv1, q_tl1, q_tl0, q_wif, q_swc, q_swn, List.cons_append, List.nil_append, if_true, if_false, e10, e01, Bool.false_eq_true]
/-- the seven answers of a man -/
theorem sm_man (hX : X.2 100000 ≠ 0) (L : LB τ b) (W : WW h τ b A A j A0 Z) {i : Nat} (hi : i < τ 0 1) {l3 l4 l5 l6 l7 l8 l9 l10 l11 : Int32} {l14 l15 l16 : Option Value} : ∃ g, WW g τ b A A j A0 Z ∧ ∀ Q : QT, wq X (d + 11) 191 179 [some (.ref 1), some (.ref 195), some (.ref 196), some (.int l3), some (.int l4), some (.int l5), some (.int l6), some (.int l7), some (.int l8), some (.int l9), some (.int l10), some (.int l11), some (.int (nI i)), some (.int (if (aN A).testBit i = true then 1 else 0)), l14, l15, l16] [] h Q = wq X (d + 11) 191 325 [some (.ref 1), some (.ref 195), some (.ref 196), some (.int l3), some (.int l4), some (.int 1), some (.int l6), some (.int l7), some (.int l8), some (.int l9), some (.int l10), some (.int l11), some (.int (nI i)), some (.int (if (aN A).testBit i = true then 1 else 0)), l14, l15, l16] [] g Q := by
  have h5 := L.2.2.1
  have s6 : m_sh (KS X) 196 = (20, 21) := sh_196 hX
  have K := ww_a W
  have hn := aN_lt L.1 K
  have h14 := K.1.1
  have c1 : m_in (nI i) 21 = true := c_in (by omega)
  have c2 : (nI i).toNatClampNeg = i := c_cl (by omega)
  have c3 : m_in (nI (7 + i)) 21 = true := c_in (by omega)
  have c4 : (nI (7 + i)).toNatClampNeg = 7 + i := c_cl (by omega)
  have e1 : m_in (nI (20 + 4 * i)) 70 = true := t_in (by omega)
  have e2 : (nI (20 + 4 * i)).toNatClampNeg = 20 + 4 * i := t_cl (by omega)
  have e3 : m_in (nI (22 + 4 * i)) 70 = true := t_in (by omega)
  have e4 : (nI (22 + 4 * i)).toNatClampNeg = 22 + 4 * i := t_cl (by omega)
  have e5 : m_in (nI (23 + 4 * i)) 70 = true := t_in (by omega)
  have e6 : (nI (23 + 4 * i)).toNatClampNeg = 23 + 4 * i := t_cl (by omega)
  obtain ⟨g0, W0, q0⟩ := w_ask W (fun T H => a_man0 (X := X) (d := d) H hi (w := 0) rfl)
  obtain ⟨g1, W1, q1⟩ := w_ask W0 (fun T H => a_man1 (X := X) (d := d) H hi (w := 1) rfl)
  obtain ⟨g2, W2, q2⟩ := w_ask W1 (fun T H => a_man2 (X := X) (d := d) H hi (w := 2) rfl)
  obtain ⟨g3, W3, q3⟩ := w_ask W2 (fun T H => a_man3 (X := X) (d := d) H hi (w := 3) rfl)
  obtain ⟨g4, W4, q4⟩ := w_ask W3 (fun T H => a_man4 (X := X) (d := d) H hi (w := 4) rfl)
  obtain ⟨g5, W5, q5⟩ := w_ask W4 (fun T H => a_man5 (X := X) (d := d) H hi (w := 5) rfl)
  have rw_ : ∀ {g : HT}, WW g τ b A A j A0 Z → ∀ k, m_gI g 196 k = A k := fun w k => congrFun (ww_C w) k
  have v0 : ∀ {x : Int32}, ((if (aN A).testBit i = true then (1 : Int32) else 0) = 0) = ¬ (aN A).testBit i = true := if_b0
  by_cases z : (aN A).testBit i = true
  · obtain ⟨g6, W6, q6⟩ := w_ask W5 (fun T H => a_man6o (X := X) (d := d) H hi (w := 6) rfl z)
    have bk := fun (Q : QT) => l_back (X := X) (d := d + 7) hX (ww_T W6) L (ww_C W6) h14 hn hi z Q
    rw [← L.2.2.2.2.2 _ hn _ _ _ hi z] at bk
    refine ⟨g6, W6, fun Q => ?_⟩
    simp only [z, if_true] at q0 ⊢
    simp only [u191_179, u191_180, u191_182, u191_183, u191_186, u191_188, u191_191, u191_192, u191_195, u191_196, u191_199, u191_200, u191_202, u191_203, eq_self, q_nl0, q_nlI, q_nlR, not_false_eq_true, q_nz0, q_nz1, q_zv0, q_zv1, q_tl1, q_tl0, q_wif, q_swc, q_swn, List.cons_append, List.nil_append, if_true, if_false, e10, e01, Bool.false_eq_true, sh_1, q0, q1]
    simp only [u191_206, u191_207, u191_209, u191_210, u191_213, u191_214, u191_216, u191_217, eq_self, q_nl0, q_nlI, q_nlR, not_false_eq_true, q_nz0, q_nz1, q_zv0, q_zv1, q_tl1, q_tl0, q_wif, q_swc, q_swn, List.cons_append, List.nil_append, if_true, if_false, e10, e01, Bool.false_eq_true, sh_1, s6, c1, c2, rw_ W1, q2]
    simp only [u191_220, u191_221, u191_223, u191_225, u191_226, u191_227, u191_230, u191_231, u191_233, u191_234, eq_self, q_nl0, q_nlI, q_nlR, not_false_eq_true, q_nz0, q_nz1, q_zv0, q_zv1, q_tl1, q_tl0, q_wif, q_swc, q_swn, List.cons_append, List.nil_append, if_true, if_false, e10, e01, Bool.false_eq_true, sh_1, s6, l_a7, c3, c4, rw_ W2, q3]
    simp only [u191_237, u191_238, u191_240, u191_241, u191_243, u191_244, u191_245, u191_246, u191_249, u191_250, u191_252, u191_253, eq_self, q_nl0, q_nlI, q_nlR, not_false_eq_true, q_nz0, q_nz1, q_zv0, q_zv1, q_tl1, q_tl0, q_wif, q_swc, q_swn, List.cons_append, List.nil_append, if_true, if_false, e10, e01, Bool.false_eq_true, sh_1, sh_195, l_m4, l_a22, e3, e4, ((ww_T W3).2.2.1 i hi).2.2.1, q4]
    simp only [u191_256, u191_257, u191_259, u191_260, u191_262, u191_263, u191_264, u191_265, u191_268, u191_269, u191_271, u191_272, eq_self, q_nl0, q_nlI, q_nlR, not_false_eq_true, q_nz0, q_nz1, q_zv0, q_zv1, q_tl1, q_tl0, q_wif, q_swc, q_swn, List.cons_append, List.nil_append, if_true, if_false, e10, e01, Bool.false_eq_true, sh_1, sh_195, l_m4, l_a23, e5, e6, ((ww_T W4).2.2.1 i hi).2.2.2, q5]
    simp only [u191_275, u191_276, u191_278, u191_279, u191_281, u191_282, u191_283, u191_284, u191_287, u191_288, u191_290, u191_292, eq_self, q_nl0, q_nlI, q_nlR, not_false_eq_true, q_nz0, q_nz1, q_zv0, q_zv1, q_tl1, q_tl0, q_wif, q_swc, q_swn, List.cons_append, List.nil_append, if_true, if_false, e10, e01, Bool.false_eq_true, sh_1, sh_195, l_m4, l_a20, e1, e2, ((ww_T W5).2.2.1 i hi).1, q6]
    simp only [u191_295, u191_297, u191_300, u191_301, u191_302, u191_304, eq_self, q_nl0, q_nlI, q_nlR, not_false_eq_true, q_nz0, q_nz1, q_zv0, q_zv1, q_tl1, q_tl0, q_wif, q_swc, q_swn, List.cons_append, List.nil_append, if_true, if_false, e10, e01, Bool.false_eq_true, sh_1, bk]
    by_cases y : sGoes τ (aN A) (A i) (A (7 + i)) i = true
    · simp only [y, if_true, u191_307, u191_310, u191_311, u191_314, u191_315, u191_318, u191_319, u191_322, u191_323, eq_self, q_nl0, q_nlI, q_nlR, not_false_eq_true, q_nz0, q_nz1, q_zv0, q_zv1, q_tl1, q_tl0, q_wif, q_swc, q_swn, List.cons_append, List.nil_append, if_true, if_false, e10, e01, Bool.false_eq_true]
    · simp only [y, if_false, u191_307, u191_310, u191_311, u191_314, u191_315, u191_318, u191_319, u191_322, u191_323, eq_self, q_nl0, q_nlI, q_nlR, not_false_eq_true, q_nz0, q_nz1, q_zv0, q_zv1, q_tl1, q_tl0, q_wif, q_swc, q_swn, List.cons_append, List.nil_append, if_true, if_false, e10, e01, Bool.false_eq_true]
  · obtain ⟨g6, W6, q6⟩ := w_ask W5 (fun T H => a_man6i (X := X) (d := d) H hi (w := 6) rfl z)
    refine ⟨g6, W6, fun Q => ?_⟩
    simp only [z, if_false] at q0 ⊢
    simp only [u191_179, u191_180, u191_182, u191_183, u191_186, u191_188, u191_191, u191_192, u191_195, u191_196, u191_199, u191_200, u191_202, u191_203, eq_self, q_nl0, q_nlI, q_nlR, not_false_eq_true, q_nz0, q_nz1, q_zv0, q_zv1, q_tl1, q_tl0, q_wif, q_swc, q_swn, List.cons_append, List.nil_append, if_true, if_false, e10, e01, Bool.false_eq_true, sh_1, q0, q1]
    simp only [u191_206, u191_207, u191_209, u191_210, u191_213, u191_214, u191_216, u191_217, eq_self, q_nl0, q_nlI, q_nlR, not_false_eq_true, q_nz0, q_nz1, q_zv0, q_zv1, q_tl1, q_tl0, q_wif, q_swc, q_swn, List.cons_append, List.nil_append, if_true, if_false, e10, e01, Bool.false_eq_true, sh_1, s6, c1, c2, rw_ W1, q2]
    simp only [u191_220, u191_221, u191_223, u191_225, u191_226, u191_227, u191_230, u191_231, u191_233, u191_234, eq_self, q_nl0, q_nlI, q_nlR, not_false_eq_true, q_nz0, q_nz1, q_zv0, q_zv1, q_tl1, q_tl0, q_wif, q_swc, q_swn, List.cons_append, List.nil_append, if_true, if_false, e10, e01, Bool.false_eq_true, sh_1, s6, l_a7, c3, c4, rw_ W2, q3]
    simp only [u191_237, u191_238, u191_240, u191_241, u191_243, u191_244, u191_245, u191_246, u191_249, u191_250, u191_252, u191_253, eq_self, q_nl0, q_nlI, q_nlR, not_false_eq_true, q_nz0, q_nz1, q_zv0, q_zv1, q_tl1, q_tl0, q_wif, q_swc, q_swn, List.cons_append, List.nil_append, if_true, if_false, e10, e01, Bool.false_eq_true, sh_1, sh_195, l_m4, l_a22, e3, e4, ((ww_T W3).2.2.1 i hi).2.2.1, q4]
    simp only [u191_256, u191_257, u191_259, u191_260, u191_262, u191_263, u191_264, u191_265, u191_268, u191_269, u191_271, u191_272, eq_self, q_nl0, q_nlI, q_nlR, not_false_eq_true, q_nz0, q_nz1, q_zv0, q_zv1, q_tl1, q_tl0, q_wif, q_swc, q_swn, List.cons_append, List.nil_append, if_true, if_false, e10, e01, Bool.false_eq_true, sh_1, sh_195, l_m4, l_a23, e5, e6, ((ww_T W4).2.2.1 i hi).2.2.2, q5]
    simp only [u191_275, u191_276, u191_278, u191_279, u191_281, u191_282, u191_283, u191_284, u191_287, u191_288, u191_290, u191_292, eq_self, q_nl0, q_nlI, q_nlR, not_false_eq_true, q_nz0, q_nz1, q_zv0, q_zv1, q_tl1, q_tl0, q_wif, q_swc, q_swn, List.cons_append, List.nil_append, if_true, if_false, e10, e01, Bool.false_eq_true, sh_1, sh_195, l_m4, l_a20, e1, e2, ((ww_T W5).2.2.1 i hi).1, q6]
    simp only [u191_295, u191_297, u191_300, u191_301, u191_302, u191_304, u191_307, u191_310, u191_311, u191_314, u191_315, u191_318, u191_319, u191_322, u191_323, eq_self, q_nl0, q_nlI, q_nlR, not_false_eq_true, q_nz0, q_nz1, q_zv0, q_zv1, q_tl1, q_tl0, q_wif, q_swc, q_swn, List.cons_append, List.nil_append, if_true, if_false, e10, e01, Bool.false_eq_true]
/-- what the seven answers add up to -/
def smL (τ : CT) (A : Nat → Int32) (i : Nat) (j13 j14 j15 : Option Value) : LT := [some (.ref 1), some (.ref 195), some (.ref 196), some (.int (nI (sAll τ))), some (.int (nI (sLoss τ (sAll τ)))), some (.int 1), some (.int (oI (fL (lgS A) none i))), some (.int (nI (fL (bS (piP τ (aN A))) 0 i))), some (.int (nI (fL (bS (idP τ (aN A))) 0 i))), some (.int (oI (fL (deS τ (aN A)) none i))), some (.int (nI (fL (twS τ) 0 i))), some (.int (fL (stS A) 0 i)), some (.int (nI i)), j13, j14, j15, none]
theorem sm_longest (hX : X.2 100000 ≠ 0) (W : WW h τ b A A j A0 Z) {i : Nat} (hi : i < τ 0 1) (h5 : τ 0 1 ≤ 5) {o : Option Nat} (ho : ∀ b, o = some b → b < i) {l3 l4 l7 l8 l9 l10 l11 : Int32} {l15 l16 : Option Value} {l14 : Option Value} (hn : aN A < 128) (h14 : A 14 = nI (aN A)) (Q : QT) : wq X (d + 11) 191 325 [some (.ref 1), some (.ref 195), some (.ref 196), some (.int l3), some (.int l4), some (.int 1), some (.int (oI o)), some (.int l7), some (.int l8), some (.int l9), some (.int l10), some (.int l11), some (.int (nI i)), some (.int (if (aN A).testBit i = true then 1 else 0)), l14, l15, l16] [] h Q = wq X (d + 11) 191 372 [some (.ref 1), some (.ref 195), some (.ref 196), some (.int l3), some (.int l4), some (.int 1), some (.int (oI (lgS A i o))), some (.int l7), some (.int l8), some (.int l9), some (.int l10), some (.int l11), some (.int (nI i)), some (.int (if (aN A).testBit i = true then 1 else 0)), some (.int (nI (aN A ^^^ 2 ^ i))), l15, l16] [] h Q := by
  have s6 : m_sh (KS X) 196 = (20, 21) := sh_196 hX
  have rw_ : ∀ k, m_gI h 196 k = A k := fun k => congrFun (ww_C W) k
  have c3 : m_in (nI (7 + i)) 21 = true := c_in (by omega)
  have c4 : (nI (7 + i)).toNatClampNeg = 7 + i := c_cl (by omega)
  unfold lgS
  by_cases z : (aN A).testBit i = true
  · cases o with
    | none => simp only [u191_325, u191_326, u191_328, u191_329, u191_330, u191_332, u191_333, u191_334, u191_336, u191_338, u191_341, u191_343, u191_346, u191_347, u191_349, u191_351, u191_352, u191_353, u191_354, u191_356, u191_358, u191_359, u191_360, u191_363, u191_365, u191_368, u191_370, eq_self, q_nl0, q_nlI, q_nlR, not_false_eq_true, q_nz0, q_nz1, q_zv0, q_zv1, q_tl1, q_tl0, q_wif, q_swc, q_swn, List.cons_append, List.nil_append, if_true, if_false, e10, e01, Bool.false_eq_true, sh_1, s6, c_in14, cl14, rw_, h14, nI_sh i (show i < 8 by omega), nI_xor, z, oI, m1_lt0, lgM]
    | some k =>
      have hk := ho k rfl
      have d3 : m_in (nI (7 + k)) 21 = true := c_in (by omega)
      have d4 : (nI (7 + k)).toNatClampNeg = 7 + k := c_cl (by omega)
      simp only [u191_325, u191_326, u191_328, u191_329, u191_330, u191_332, u191_333, u191_334, u191_336, u191_338, u191_341, u191_343, u191_346, u191_347, u191_349, u191_351, u191_352, u191_353, u191_354, u191_356, u191_358, u191_359, u191_360, u191_363, u191_365, u191_368, u191_370, eq_self, q_nl0, q_nlI, q_nlR, not_false_eq_true, q_nz0, q_nz1, q_zv0, q_zv1, q_tl1, q_tl0, q_wif, q_swc, q_swn, List.cons_append, List.nil_append, if_true, if_false, e10, e01, Bool.false_eq_true, sh_1, s6, c_in14, cl14, rw_, h14, nI_sh i (show i < 8 by omega), nI_xor, z, oI, oI_lt0 (show k < 2 ^ 31 by omega), lgM, l_a7, c3, c4, d3, d4]
      by_cases y : A (7 + k) < A (7 + i)
      · simp only [y, if_true]
      · simp only [y, if_false]
  · simp only [u191_325, u191_326, u191_328, u191_329, u191_330, u191_332, u191_333, u191_334, u191_336, u191_338, u191_341, u191_343, u191_346, u191_347, u191_349, u191_351, u191_352, u191_353, u191_354, u191_356, u191_358, u191_359, u191_360, u191_363, u191_365, u191_368, u191_370, eq_self, q_nl0, q_nlI, q_nlR, not_false_eq_true, q_nz0, q_nz1, q_zv0, q_zv1, q_tl1, q_tl0, q_wif, q_swc, q_swn, List.cons_append, List.nil_append, if_true, if_false, e10, e01, Bool.false_eq_true, sh_1, s6, c_in14, cl14, rw_, h14, nI_sh i (show i < 8 by omega), nI_xor, z]
theorem sm_pillars (hX : X.2 100000 ≠ 0) (L : LB τ b) (W : WW h τ b A A j A0 Z) {i : Nat} (hi : i < τ 0 1) {p : Nat} {l3 l4 l6 l8 l9 l10 l11 : Int32} {l15 l16 : Option Value} (hn : aN A < 128) (h14 : A 14 = nI (aN A)) (Q : QT) : wq X (d + 11) 191 372 [some (.ref 1), some (.ref 195), some (.ref 196), some (.int l3), some (.int l4), some (.int 1), some (.int l6), some (.int (nI p)), some (.int l8), some (.int l9), some (.int l10), some (.int l11), some (.int (nI i)), some (.int (if (aN A).testBit i = true then 1 else 0)), some (.int (nI (aN A ^^^ 2 ^ i))), l15, l16] [] h Q = wq X (d + 11) 191 410 [some (.ref 1), some (.ref 195), some (.ref 196), some (.int l3), some (.int l4), some (.int 1), some (.int l6), some (.int (nI (bS (piP τ (aN A)) i p))), some (.int l8), some (.int l9), some (.int l10), some (.int l11), some (.int (nI i)), some (.int (if (aN A).testBit i = true then 1 else 0)), some (.int (nI (aN A ^^^ 2 ^ i))), l15, l16] [] h Q := by
  have h5 := L.2.2.1
  have s6 : m_sh (KS X) 196 = (20, 21) := sh_196 hX
  have rw_ : ∀ k, m_gI h 196 k = A k := fun k => congrFun (ww_C W) k
  have hs := s128 L.1 (aN A)
  have l1 := fun (Q : QT) => l_brief (X := X) (d := d + 8) (ww_T W) L hn Q
  have l2 := fun (Q : QT) => l_brief (X := X) (d := d + 8) (ww_T W) L (and_128 (b := 127 ^^^ 2 ^ i) hn) Q
  have ex := xor_b _ hn i (by omega)
  unfold bS piP
  by_cases z : (aN A).testBit i = true
  · rw [if_pos z] at ex
    simp only [u191_372, u191_374, u191_376, u191_379, u191_380, u191_381, u191_383, u191_384, u191_387, u191_388, u191_390, u191_393, u191_394, u191_395, u191_396, u191_399, u191_400, u191_402, u191_403, u191_406, u191_407, u191_408, eq_self, q_nl0, q_nlI, q_nlR, not_false_eq_true, q_nz0, q_nz1, q_zv0, q_zv1, q_tl1, q_tl0, q_wif, q_swc, q_swn, List.cons_append, List.nil_append, if_true, if_false, e10, e01, Bool.false_eq_true, sh_1, s6, c_in14, cl14, rw_, h14, ex, z, l1, l2, nI_not _ hs _ (s128 L.1 _), nI_0eq (and_128 hs), nI_sh i (show i < 8 by omega), Bool.true_and, decide_eq_true_eq, ne_eq]
    by_cases y : sShort τ (aN A) &&& (127 ^^^ sShort τ (aN A &&& (127 ^^^ 2 ^ i))) = 0
    · simp only [y, not_true_eq_false, if_true, if_false, Int32.or_zero]
    · simp only [y, not_false_eq_true, if_true, if_false, nI_or]
  · simp only [u191_372, u191_374, u191_376, u191_379, u191_380, u191_381, u191_383, u191_384, u191_387, u191_388, u191_390, u191_393, u191_394, u191_395, u191_396, u191_399, u191_400, u191_402, u191_403, u191_406, u191_407, u191_408, eq_self, q_nl0, q_nlI, q_nlR, not_false_eq_true, q_nz0, q_nz1, q_zv0, q_zv1, q_tl1, q_tl0, q_wif, q_swc, q_swn, List.cons_append, List.nil_append, if_true, if_false, e10, e01, Bool.false_eq_true, sh_1, z, Bool.false_and, Int32.or_zero]
theorem sm_idle (hX : X.2 100000 ≠ 0) (L : LB τ b) (W : WW h τ b A A j A0 Z) {i : Nat} (hi : i < τ 0 1) {p : Nat} {l3 l4 l6 l7 l9 l10 l11 : Int32} {l15 l16 : Option Value} (hn : aN A < 128) (h14 : A 14 = nI (aN A)) (Q : QT) : wq X (d + 11) 191 410 [some (.ref 1), some (.ref 195), some (.ref 196), some (.int l3), some (.int l4), some (.int 1), some (.int l6), some (.int l7), some (.int (nI p)), some (.int l9), some (.int l10), some (.int l11), some (.int (nI i)), some (.int (if (aN A).testBit i = true then 1 else 0)), some (.int (nI (aN A ^^^ 2 ^ i))), l15, l16] [] h Q = wq X (d + 11) 191 448 [some (.ref 1), some (.ref 195), some (.ref 196), some (.int l3), some (.int l4), some (.int 1), some (.int l6), some (.int l7), some (.int (nI (bS (idP τ (aN A)) i p))), some (.int l9), some (.int l10), some (.int l11), some (.int (nI i)), some (.int (if (aN A).testBit i = true then 1 else 0)), some (.int (nI (aN A ^^^ 2 ^ i))), l15, l16] [] h Q := by
  have h5 := L.2.2.1
  have h7 := o_mn L.1
  have s6 : m_sh (KS X) 196 = (20, 21) := sh_196 hX
  have rw_ : ∀ k, m_gI h 196 k = A k := fun k => congrFun (ww_C W) k
  have hp2 := p2_lt (show i < 7 by omega)
  have hs := s128 L.1 (aN A ||| 2 ^ i)
  have l1 := fun (Q : QT) => l_brief (X := X) (d := d + 8) (ww_T W) L hn Q
  have l2 := fun (Q : QT) => l_brief (X := X) (d := d + 8) (ww_T W) L (or_128 hn hp2) Q
  have ex := xor_b _ hn i (by omega)
  have hc := city_in (n := aN A) h7 hi
  have so := sub_or L.1 (aN A) (2 ^ i)
  unfold bS idP
  by_cases z : (aN A).testBit i = true
  · have zc : (sCity τ (aN A)).testBit i = false := by
      cases q : (sCity τ (aN A)).testBit i with
      | false => rfl
      | true =>
        have := hc.mp q
        rw [z] at this
        cases this
    simp only [u191_410, u191_412, u191_414, u191_417, u191_418, u191_420, u191_423, u191_424, u191_425, u191_427, u191_428, u191_431, u191_432, u191_433, u191_434, u191_437, u191_438, u191_440, u191_441, u191_444, u191_445, u191_446, eq_self, q_nl0, q_nlI, q_nlR, not_false_eq_true, q_nz0, q_nz1, q_zv0, q_zv1, q_tl1, q_tl0, q_wif, q_swc, q_swn, List.cons_append, List.nil_append, if_true, if_false, e10, e01, Bool.false_eq_true, sh_1, z, zc, Bool.false_and, Int32.or_zero]
  · rw [if_neg z] at ex
    have zc : (sCity τ (aN A)).testBit i = true := hc.mpr (by simpa using z)
    simp only [u191_410, u191_412, u191_414, u191_417, u191_418, u191_420, u191_423, u191_424, u191_425, u191_427, u191_428, u191_431, u191_432, u191_433, u191_434, u191_437, u191_438, u191_440, u191_441, u191_444, u191_445, u191_446, eq_self, q_nl0, q_nlI, q_nlR, not_false_eq_true, q_nz0, q_nz1, q_zv0, q_zv1, q_tl1, q_tl0, q_wif, q_swc, q_swn, List.cons_append, List.nil_append, if_true, if_false, e10, e01, Bool.false_eq_true, sh_1, s6, c_in14, cl14, rw_, h14, ex, z, zc, l1, l2, nI_not _ hs _ (s128 L.1 _), nI_0eq (and_128 hs), so, nI_sh i (show i < 8 by omega), Bool.true_and, decide_eq_true_eq]
    by_cases y : sShort τ (aN A ||| 2 ^ i) = sShort τ (aN A)
    · simp only [y, not_true_eq_false, if_true, if_false, nI_or]
    · simp only [y, not_false_eq_true, if_true, if_false, Int32.or_zero]
theorem sm_dearest (hX : X.2 100000 ≠ 0) (L : LB τ b) (W : WW h τ b A A j A0 Z) {i : Nat} (hi : i < τ 0 1) {o : Option Nat} (ho : ∀ b, o = some b → b < i) {l3 l4 l6 l7 l8 l10 l11 : Int32} {l15 l16 : Option Value} (hn : aN A < 128) (h14 : A 14 = nI (aN A)) (Q : QT) : wq X (d + 11) 191 448 [some (.ref 1), some (.ref 195), some (.ref 196), some (.int l3), some (.int l4), some (.int 1), some (.int l6), some (.int l7), some (.int l8), some (.int (oI o)), some (.int l10), some (.int l11), some (.int (nI i)), some (.int (if (aN A).testBit i = true then 1 else 0)), some (.int (nI (aN A ^^^ 2 ^ i))), l15, l16] [] h Q = wq X (d + 11) 191 510 [some (.ref 1), some (.ref 195), some (.ref 196), some (.int l3), some (.int l4), some (.int 1), some (.int l6), some (.int l7), some (.int l8), some (.int (oI (deS τ (aN A) i o))), some (.int l10), some (.int (stS A i l11)), some (.int (nI i)), some (.int (if (aN A).testBit i = true then 1 else 0)), some (.int (nI (aN A ^^^ 2 ^ i))), some (.int 0), l16] [] h Q := by
  have h5 := L.2.2.1
  have h7 := o_mn L.1
  have s6 : m_sh (KS X) 196 = (20, 21) := sh_196 hX
  have rw_ : ∀ k, m_gI h 196 k = A k := fun k => congrFun (ww_C W) k
  have hp2 := p2_lt (show i < 7 by omega)
  have c1 : m_in (nI i) 21 = true := c_in (by omega)
  have c2 : (nI i).toNatClampNeg = i := c_cl (by omega)
  have l2 := fun (Q : QT) => l_loss (X := X) (d := d + 7) (ww_T W) L (or_128 hn hp2) Q
  have ex := xor_b _ hn i (by omega)
  have hc := city_in (n := aN A) h7 hi
  unfold deS stS
  by_cases z : (aN A).testBit i = true
  · have zc : (sCity τ (aN A)).testBit i = false := by
      cases q : (sCity τ (aN A)).testBit i with
      | false => rfl
      | true =>
        have := hc.mp q
        rw [z] at this
        cases this
    simp only [u191_448, u191_450, u191_453, u191_455, u191_458, u191_459, u191_461, u191_464, u191_465, u191_466, u191_468, u191_469, u191_470, u191_472, u191_473, u191_474, u191_477, u191_480, u191_482, u191_485, u191_487, u191_489, u191_491, u191_493, u191_496, u191_497, u191_499, u191_500, u191_503, u191_504, u191_505, u191_507, u191_508, eq_self, q_nl0, q_nlI, q_nlR, not_false_eq_true, q_nz0, q_nz1, q_zv0, q_zv1, q_tl1, q_tl0, q_wif, q_swc, q_swn, List.cons_append, List.nil_append, if_true, if_false, e10, e01, Bool.false_eq_true, sh_1, s6, c1, c2, rw_, z, zc]
  · rw [if_neg z] at ex
    have zc : (sCity τ (aN A)).testBit i = true := hc.mpr (by simpa using z)
    cases o with
    | none => simp only [u191_448, u191_450, u191_453, u191_455, u191_458, u191_459, u191_461, u191_464, u191_465, u191_466, u191_468, u191_469, u191_470, u191_472, u191_473, u191_474, u191_477, u191_480, u191_482, u191_485, u191_487, u191_489, u191_491, u191_493, u191_496, u191_497, u191_499, u191_500, u191_503, u191_504, u191_505, u191_507, u191_508, eq_self, q_nl0, q_nlI, q_nlR, not_false_eq_true, q_nz0, q_nz1, q_zv0, q_zv1, q_tl1, q_tl0, q_wif, q_swc, q_swn, List.cons_append, List.nil_append, if_true, if_false, e10, e01, Bool.false_eq_true, sh_1, ex, z, zc, oI, m1_lt0, deM, Int32.add_zero]
    | some k =>
      have hk := ho k rfl
      have l1 := fun (Q : QT) => l_loss (X := X) (d := d + 7) (ww_T W) L (or_128 hn (p2_lt (show k < 7 by omega))) Q
      have a1 := sLoss_le L.1 (aN A ||| 2 ^ k)
      have a2 := sLoss_le L.1 (aN A ||| 2 ^ i)
      have ec : (nI (sLoss τ (aN A ||| 2 ^ k)) < nI (sLoss τ (aN A ||| 2 ^ i))) = (sLoss τ (aN A ||| 2 ^ k) < sLoss τ (aN A ||| 2 ^ i)) := nI_ltB (by omega) (by omega)
      simp only [u191_448, u191_450, u191_453, u191_455, u191_458, u191_459, u191_461, u191_464, u191_465, u191_466, u191_468, u191_469, u191_470, u191_472, u191_473, u191_474, u191_477, u191_480, u191_482, u191_485, u191_487, u191_489, u191_491, u191_493, u191_496, u191_497, u191_499, u191_500, u191_503, u191_504, u191_505, u191_507, u191_508, eq_self, q_nl0, q_nlI, q_nlR, not_false_eq_true, q_nz0, q_nz1, q_zv0, q_zv1, q_tl1, q_tl0, q_wif, q_swc, q_swn, List.cons_append, List.nil_append, if_true, if_false, e10, e01, Bool.false_eq_true, sh_1, s6, c_in14, cl14, rw_, h14, ex, z, zc, oI, oI_lt0 (show k < 2 ^ 31 by omega), l1, l2, nI_sh k (show k < 8 by omega), nI_or, ec, deM, Int32.add_zero]
      by_cases y : sLoss τ (aN A ||| 2 ^ k) < sLoss τ (aN A ||| 2 ^ i)
      · simp only [y, if_true]
      · simp only [y, if_false]
theorem sm_twins (L : LB τ b) (W : WW h τ b A A j A0 Z) {i : Nat} (hi : i < τ 0 1) {c : Nat} {l3 l4 l5 l6 l7 l8 l9 l11 : Int32} {l14 : Int32} {l13 l16 : Option Value} (Q : QT) : wq X (d + 11) 191 510 [some (.ref 1), some (.ref 195), some (.ref 196), some (.int l3), some (.int l4), some (.int l5), some (.int l6), some (.int l7), some (.int l8), some (.int l9), some (.int (nI c)), some (.int l11), some (.int (nI i)), l13, some (.int l14), some (.int 0), l16] [] h Q = wq X (d + 11) 191 146 [some (.ref 1), some (.ref 195), some (.ref 196), some (.int l3), some (.int l4), some (.int l5), some (.int l6), some (.int l7), some (.int l8), some (.int l9), some (.int (nI (twS τ i c))), some (.int l11), some (.int (nI (i + 1))), l13, some (.int l14), some (.int (nI i)), l16] [] h Q := by
  have h5 := L.2.2.1
  have sk : ∀ m, τ 3 m < 2 ^ 31 := fun m => by
    have := o_sk L.1 m
    omega
  have e1 : m_in (nI (20 + 4 * i)) 70 = true := t_in (by omega)
  have e2 : (nI (20 + 4 * i)).toNatClampNeg = 20 + 4 * i := t_cl (by omega)
  have e3 := ((ww_T W).2.2.1 i hi).1
  unfold twS
  refine (q_loop (fun k => wq X (d + 11) 191 510 [some (.ref 1), some (.ref 195), some (.ref 196), some (.int l3), some (.int l4), some (.int l5), some (.int l6), some (.int l7), some (.int l8), some (.int l9), some (.int (nI (fL (twI τ i) c k))), some (.int l11), some (.int (nI i)), l13, some (.int l14), some (.int (nI k)), l16] [] h Q) i ?_).trans ?_
  · intro k hk
    have f1 : (nI k < nI i) = True := eq_true (nI_lt hk (by omega))
    have g1 : m_in (nI (20 + 4 * k)) 70 = true := t_in (by omega)
    have g2 : (nI (20 + 4 * k)).toNatClampNeg = 20 + 4 * k := t_cl (by omega)
    have g3 := ((ww_T W).2.2.1 k (by omega)).1
    show wq X (d + 11) 191 510 _ _ _ _ = _
    rw [u191_510, fL_s]
    unfold twI
    simp only [u191_512, u191_514, u191_517, u191_519, u191_520, u191_522, u191_523, u191_525, u191_526, u191_527, u191_528, u191_529, u191_531, u191_532, u191_534, u191_535, u191_536, u191_537, u191_540, u191_541, u191_544, u191_545, u191_546, u191_548, u191_551, eq_self, q_nl0, q_nlI, q_nlR, not_false_eq_true, q_nz0, q_nz1, q_zv0, q_zv1, q_tl1, q_tl0, q_wif, q_swc, q_swn, List.cons_append, List.nil_append, if_true, if_false, e10, e01, Bool.false_eq_true, sh_1, sh_195, f1, l_m4, l_a20, e1, e2, e3, g1, g2, g3, nI_eqB (sk i) (sk k), nI_1]
    by_cases z : τ 3 i = τ 3 k
    · simp only [z, if_true, u191_548, u191_551, eq_self, q_nl0, q_nlI, q_nlR, not_false_eq_true, q_nz0, q_nz1, q_zv0, q_zv1, q_tl1, q_tl0, q_wif, q_swc, q_swn, List.cons_append, List.nil_append, if_true, if_false, e10, e01, Bool.false_eq_true, nI_1]
    · simp only [z, if_false, u191_548, u191_551, eq_self, q_nl0, q_nlI, q_nlR, not_false_eq_true, q_nz0, q_nz1, q_zv0, q_zv1, q_tl1, q_tl0, q_wif, q_swc, q_swn, List.cons_append, List.nil_append, if_true, if_false, e10, e01, Bool.false_eq_true, Int32.add_zero, nI_1]
  · rw [u191_510]
    simp only [u191_512, u191_514, u191_554, u191_557, eq_self, q_nl0, q_nlI, q_nlR, not_false_eq_true, q_nz0, q_nz1, q_zv0, q_zv1, q_tl1, q_tl0, q_wif, q_swc, q_swn, List.cons_append, List.nil_append, if_true, if_false, e10, e01, Bool.false_eq_true, sh_1, eq_false (nI_nlt (Nat.le_refl i) (show i < 2 ^ 31 by omega)), nI_1]
theorem sm_men (hX : X.2 100000 ≠ 0) (L : LB τ b) (W : WW h τ b A A j A0 Z) : ∃ g j13 j14 j15, WW g τ b A A j A0 Z ∧ ∀ Q : QT, wq X (d + 11) 191 146 (smL τ A 0 none none none) [] h Q = wq X (d + 11) 191 146 (smL τ A (τ 0 1) j13 j14 j15) [] g Q := by
  have h5 := L.2.2.1
  have s6 : m_sh (KS X) 196 = (20, 21) := sh_196 hX
  have K := ww_a W
  have hn := aN_lt L.1 K
  have h14 := K.1.1
  obtain ⟨l', i', e⟩ := q_loopI (α := HT × Option Value × Option Value × Option Value) (fun i l => fun (Q : QT) => wq X (d + 11) 191 146 (smL τ A i l.2.1 l.2.2.1 l.2.2.2) [] l.1 Q) (fun _ l => WW l.1 τ b A A j A0 Z) (τ 0 1) (by
    rintro i hi ⟨h, j13, j14, j15⟩ W
    have rw_ : ∀ k, m_gI h 196 k = A k := fun k => congrFun (ww_C W) k
    have f1 : (nI i < nI (τ 0 1)) = True := eq_true (nI_lt hi (by omega))
    have hm : m_gI h 195 1 = nI (τ 0 1) := (ww_T W).1.2.1
    have hb := bit_i hn (show i < 8 by omega)
    have ho6 := fO_lt (lgS_o (A := A)) i
    have ho9 := fO_lt (deS_o (τ := τ) (n := aN A)) i
    obtain ⟨g, W', q⟩ := sm_man (X := X) (d := d) (l3 := nI (sAll τ)) (l4 := nI (sLoss τ (sAll τ))) (l5 := 1) (l6 := oI (fL (lgS A) none i)) (l7 := nI (fL (bS (piP τ (aN A))) 0 i)) (l8 := nI (fL (bS (idP τ (aN A))) 0 i)) (l9 := oI (fL (deS τ (aN A)) none i)) (l10 := nI (fL (twS τ) 0 i)) (l11 := fL (stS A) 0 i) (l14 := j14) (l15 := j15) (l16 := none) hX L W hi
    refine ⟨⟨g, some (.int (if (aN A).testBit i = true then 1 else 0)), some (.int (nI (aN A ^^^ 2 ^ i))), some (.int (nI i))⟩, W', funext fun Q => ?_⟩
    have q1 := sm_longest (X := X) (d := d) (l3 := nI (sAll τ)) (l4 := nI (sLoss τ (sAll τ))) (l7 := nI (fL (bS (piP τ (aN A))) 0 i)) (l8 := nI (fL (bS (idP τ (aN A))) 0 i)) (l9 := oI (fL (deS τ (aN A)) none i)) (l10 := nI (fL (twS τ) 0 i)) (l11 := fL (stS A) 0 i) (l14 := j14) (l15 := j15) (l16 := none) hX W' hi h5 ho6 hn h14 Q
    have q2 := sm_pillars (X := X) (d := d) (p := fL (bS (piP τ (aN A))) 0 i) (l3 := nI (sAll τ)) (l4 := nI (sLoss τ (sAll τ))) (l6 := oI (lgS A i (fL (lgS A) none i))) (l8 := nI (fL (bS (idP τ (aN A))) 0 i)) (l9 := oI (fL (deS τ (aN A)) none i)) (l10 := nI (fL (twS τ) 0 i)) (l11 := fL (stS A) 0 i) (l15 := j15) (l16 := none) hX L W' hi hn h14 Q
    have q3 := sm_idle (X := X) (d := d) (p := fL (bS (idP τ (aN A))) 0 i) (l3 := nI (sAll τ)) (l4 := nI (sLoss τ (sAll τ))) (l6 := oI (lgS A i (fL (lgS A) none i))) (l7 := nI (bS (piP τ (aN A)) i (fL (bS (piP τ (aN A))) 0 i))) (l9 := oI (fL (deS τ (aN A)) none i)) (l10 := nI (fL (twS τ) 0 i)) (l11 := fL (stS A) 0 i) (l15 := j15) (l16 := none) hX L W' hi hn h14 Q
    have q4 := sm_dearest (X := X) (d := d) (l3 := nI (sAll τ)) (l4 := nI (sLoss τ (sAll τ))) (l6 := oI (lgS A i (fL (lgS A) none i))) (l7 := nI (bS (piP τ (aN A)) i (fL (bS (piP τ (aN A))) 0 i))) (l8 := nI (bS (idP τ (aN A)) i (fL (bS (idP τ (aN A))) 0 i))) (l10 := nI (fL (twS τ) 0 i)) (l11 := fL (stS A) 0 i) (l15 := j15) (l16 := none) hX L W' hi ho9 hn h14 Q
    have q5 := sm_twins (X := X) (d := d) (c := fL (twS τ) 0 i) (l3 := nI (sAll τ)) (l4 := nI (sLoss τ (sAll τ))) (l5 := 1) (l6 := oI (lgS A i (fL (lgS A) none i))) (l7 := nI (bS (piP τ (aN A)) i (fL (bS (piP τ (aN A))) 0 i))) (l8 := nI (bS (idP τ (aN A)) i (fL (bS (idP τ (aN A))) 0 i))) (l9 := oI (deS τ (aN A) i (fL (deS τ (aN A)) none i))) (l11 := stS A i (fL (stS A) 0 i)) (l13 := some (.int (if (aN A).testBit i = true then 1 else 0))) (l14 := nI (aN A ^^^ 2 ^ i)) (l16 := none) L W' hi Q
    have q0 : wq X (d + 11) 191 146 (smL τ A i j13 j14 j15) [] h Q = wq X (d + 11) 191 179 [some (.ref 1), some (.ref 195), some (.ref 196), some (.int (nI (sAll τ))), some (.int (nI (sLoss τ (sAll τ)))), some (.int 1), some (.int (oI (fL (lgS A) none i))), some (.int (nI (fL (bS (piP τ (aN A))) 0 i))), some (.int (nI (fL (bS (idP τ (aN A))) 0 i))), some (.int (oI (fL (deS τ (aN A)) none i))), some (.int (nI (fL (twS τ) 0 i))), some (.int (fL (stS A) 0 i)), some (.int (nI i)), some (.int (if (aN A).testBit i = true then 1 else 0)), j14, j15, none] [] h Q := by
      unfold smL
      simp only [u191_146, u191_148, u191_149, u191_150, u191_151, u191_154, u191_156, u191_159, u191_160, u191_162, u191_163, u191_165, u191_166, u191_167, u191_168, u191_169, eq_self, q_nl0, q_nlI, q_nlR, not_false_eq_true, q_nz0, q_nz1, q_zv0, q_zv1, q_tl1, q_tl0, q_wif, q_swc, q_swn, List.cons_append, List.nil_append, if_true, if_false, e10, e01, Bool.false_eq_true, sh_1, sh_195, s6, t_in1, t_cl1, hm, f1, c_in14, cl14, rw_, h14, hb]
      by_cases z : (aN A).testBit i = true
      · simp only [u191_172, u191_173, u191_176, u191_177, eq_self, q_nl0, q_nlI, q_nlR, not_false_eq_true, q_nz0, q_nz1, q_zv0, q_zv1, q_tl1, q_tl0, q_wif, q_swc, q_swn, List.cons_append, List.nil_append, if_true, if_false, e10, e01, Bool.false_eq_true, z]
      · simp only [u191_172, u191_173, u191_176, u191_177, eq_self, q_nl0, q_nlI, q_nlR, not_false_eq_true, q_nz0, q_nz1, q_zv0, q_zv1, q_tl1, q_tl0, q_wif, q_swc, q_swn, List.cons_append, List.nil_append, if_true, if_false, e10, e01, Bool.false_eq_true, z]
    exact q0.trans ((q Q).trans (q1.trans (q2.trans (q3.trans (q4.trans q5)))))) ⟨h, none, none, none⟩ W
  exact ⟨l'.1, l'.2.1, l'.2.2.1, l'.2.2.2, i', fun Q => congrFun e Q⟩
end SAME
