/-! THE LAW'S CASES -/
def Nx (X : XT) (h : HT) (i pc : Nat) : Prop := ∃ (g : HT) (σ : ST), OKs σ ∧ CI g σ ∧ KI g σ ∧ ∀ Q : QT, wq X 1000 315 pc [some (.ref 10000), some (.ref 1), some (.ref 195), some (.int (nI i))] [] h Q = wq X 1000 315 1634 [some (.ref 10000), some (.ref 1), some (.ref 195), some (.int (nI i))] [] g Q
section CASES
variable {X : XT} {h : HT} {σ : ST} {i : Nat}
theorem t_0 (hX : Nat.blt X.1 4096 = true) (hi : i + 6 ≤ X.1) (C : CI h σ) (K : KI h σ) (O : OKs σ) : Nx X h i 264 := by
  have hx : X.1 < 4096 := Nat.blt_eq.mp hX
  have a1 : nI i + 1 = nI (i + 1) := nI_add i 1
  have m1 : m_in (nI (i + 1)) X.1 = true := q_in (by omega) (by omega)
  have c1 : (nI (i + 1)).toNatClampNeg = i + 1 := q_cl (by omega)
  have a2 : nI i + 2 = nI (i + 2) := nI_add i 2
  have m2 : m_in (nI (i + 2)) X.1 = true := q_in (by omega) (by omega)
  have c2 : (nI (i + 2)).toNatClampNeg = i + 2 := q_cl (by omega)
  have a3 : nI i + 3 = nI (i + 3) := nI_add i 3
  have m3 : m_in (nI (i + 3)) X.1 = true := q_in (by omega) (by omega)
  have c3 : (nI (i + 3)).toNatClampNeg = i + 3 := q_cl (by omega)
  have a4 : nI i + 4 = nI (i + 4) := nI_add i 4
  have m4 : m_in (nI (i + 4)) X.1 = true := q_in (by omega) (by omega)
  have c4 : (nI (i + 4)).toNatClampNeg = i + 4 := q_cl (by omega)
  have a5 : nI i + 5 = nI (i + 5) := nI_add i 5
  have m5 : m_in (nI (i + 5)) X.1 = true := q_in (by omega) (by omega)
  have c5 : (nI (i + 5)).toNatClampNeg = i + 5 := q_cl (by omega)
  obtain ⟨v, g, g', σ', O', C', K', e1, e2⟩ := s_feed (X := X) (d := 989) C K O (X.2 (i + 1)) (X.2 (i + 2)) (X.2 (i + 3)) (X.2 (i + 4)) (X.2 (i + 5))
  refine ⟨g', σ', O', C', K', fun Q => ?_⟩
  simp only [u315_264, u315_265, u315_266, u315_267, u315_268, u315_269, u315_270, u315_271, u315_272, u315_273, u315_274, u315_275, u315_276, u315_277, u315_278, u315_279, u315_280, u315_281, u315_282, u315_283, u315_284, u315_285, u315_286, u315_287, u315_288, u315_289, u315_290, eq_self, q_nl0, q_nlI, q_nlR, not_false_eq_true, q_nz0, q_nz1, q_zv0, q_zv1, q_tl1, q_tl0, q_wif, q_swc, q_swn, List.cons_append, List.nil_append, if_true, if_false, e10, e01, Bool.false_eq_true, sh_1, hX, m1, c1, a1, m2, c2, a2, m3, c3, a3, m4, c4, a4, m5, c5, a5]
  refine (e1 _).trans ?_
  simp only [u315_293, u315_294, u315_295, u315_296, u315_297, u315_298, u315_299, u315_300, u315_301, u315_302, u315_303, u315_304, u315_305, u315_306, u315_307, u315_308, u315_309, u315_310, u315_311, u315_312, u315_313, u315_314, u315_315, u315_316, u315_317, u315_318, u315_319, eq_self, q_nl0, q_nlI, q_nlR, not_false_eq_true, q_nz0, q_nz1, q_zv0, q_zv1, q_tl1, q_tl0, q_wif, q_swc, q_swn, List.cons_append, List.nil_append, if_true, if_false, e10, e01, Bool.false_eq_true, sh_195, hX, m1, c1, a1, m2, c2, a2, m3, c3, a3, m4, c4, a4, m5, c5, a5]
  refine (e2 _).trans ?_
  simp only [u315_322, eq_self, q_nl0, q_nlI, q_nlR, not_false_eq_true, q_nz0, q_nz1, q_zv0, q_zv1, q_tl1, q_tl0, q_wif, q_swc, q_swn, List.cons_append, List.nil_append, if_true, if_false, e10, e01, Bool.false_eq_true]
theorem t_1 (hX : Nat.blt X.1 4096 = true) (hi : i + 6 ≤ X.1) (C : CI h σ) (K : KI h σ) (O : OKs σ) : Nx X h i 327 := by
  have hx : X.1 < 4096 := Nat.blt_eq.mp hX
  have a1 : nI i + 1 = nI (i + 1) := nI_add i 1
  have m1 : m_in (nI (i + 1)) X.1 = true := q_in (by omega) (by omega)
  have c1 : (nI (i + 1)).toNatClampNeg = i + 1 := q_cl (by omega)
  obtain ⟨v, g, g', σ', O', C', K', e1, e2⟩ := s_end (X := X) (d := 989) C K O (X.2 (i + 1))
  refine ⟨g', σ', O', C', K', fun Q => ?_⟩
  simp only [u315_327, u315_328, u315_329, u315_330, u315_331, u315_332, u315_333, eq_self, q_nl0, q_nlI, q_nlR, not_false_eq_true, q_nz0, q_nz1, q_zv0, q_zv1, q_tl1, q_tl0, q_wif, q_swc, q_swn, List.cons_append, List.nil_append, if_true, if_false, e10, e01, Bool.false_eq_true, sh_1, hX, m1, c1, a1]
  refine (e1 _).trans ?_
  simp only [u315_336, u315_337, u315_338, u315_339, u315_340, u315_341, u315_342, eq_self, q_nl0, q_nlI, q_nlR, not_false_eq_true, q_nz0, q_nz1, q_zv0, q_zv1, q_tl1, q_tl0, q_wif, q_swc, q_swn, List.cons_append, List.nil_append, if_true, if_false, e10, e01, Bool.false_eq_true, sh_195, hX, m1, c1, a1]
  refine (e2 _).trans ?_
  simp only [u315_345, eq_self, q_nl0, q_nlI, q_nlR, not_false_eq_true, q_nz0, q_nz1, q_zv0, q_zv1, q_tl1, q_tl0, q_wif, q_swc, q_swn, List.cons_append, List.nil_append, if_true, if_false, e10, e01, Bool.false_eq_true]
theorem t_2 (hX : Nat.blt X.1 4096 = true) (hi : i + 6 ≤ X.1) (C : CI h σ) (K : KI h σ) (O : OKs σ) : Nx X h i 350 := by
  obtain ⟨v, g, g', σ', O', C', K', e1, e2⟩ := s_city (X := X) (d := 888) C K O
  refine ⟨g', σ', O', C', K', fun Q => ?_⟩
  simp only [u315_350, u315_351, eq_self, q_nl0, q_nlI, q_nlR, not_false_eq_true, q_nz0, q_nz1, q_zv0, q_zv1, q_tl1, q_tl0, q_wif, q_swc, q_swn, List.cons_append, List.nil_append, if_true, if_false, e10, e01, Bool.false_eq_true, sh_1]
  refine (e1 _).trans ?_
  simp only [u315_354, u315_355, eq_self, q_nl0, q_nlI, q_nlR, not_false_eq_true, q_nz0, q_nz1, q_zv0, q_zv1, q_tl1, q_tl0, q_wif, q_swc, q_swn, List.cons_append, List.nil_append, if_true, if_false, e10, e01, Bool.false_eq_true, sh_195]
  refine (e2 _).trans ?_
  simp only [u315_358, eq_self, q_nl0, q_nlI, q_nlR, not_false_eq_true, q_nz0, q_nz1, q_zv0, q_zv1, q_tl1, q_tl0, q_wif, q_swc, q_swn, List.cons_append, List.nil_append, if_true, if_false, e10, e01, Bool.false_eq_true]
theorem t_3 (hX : Nat.blt X.1 4096 = true) (hi : i + 6 ≤ X.1) (C : CI h σ) (K : KI h σ) (O : OKs σ) : Nx X h i 363 := by
  have hx : X.1 < 4096 := Nat.blt_eq.mp hX
  have a1 : nI i + 1 = nI (i + 1) := nI_add i 1
  have m1 : m_in (nI (i + 1)) X.1 = true := q_in (by omega) (by omega)
  have c1 : (nI (i + 1)).toNatClampNeg = i + 1 := q_cl (by omega)
  obtain ⟨v, g, g', σ', O', C', K', e1, e2⟩ := s_fault (X := X) (d := 989) C K O (X.2 (i + 1))
  refine ⟨g', σ', O', C', K', fun Q => ?_⟩
  simp only [u315_363, u315_364, u315_365, u315_366, u315_367, u315_368, u315_369, eq_self, q_nl0, q_nlI, q_nlR, not_false_eq_true, q_nz0, q_nz1, q_zv0, q_zv1, q_tl1, q_tl0, q_wif, q_swc, q_swn, List.cons_append, List.nil_append, if_true, if_false, e10, e01, Bool.false_eq_true, sh_1, hX, m1, c1, a1]
  refine (e1 _).trans ?_
  simp only [u315_372, u315_373, u315_374, u315_375, u315_376, u315_377, u315_378, eq_self, q_nl0, q_nlI, q_nlR, not_false_eq_true, q_nz0, q_nz1, q_zv0, q_zv1, q_tl1, q_tl0, q_wif, q_swc, q_swn, List.cons_append, List.nil_append, if_true, if_false, e10, e01, Bool.false_eq_true, sh_195, hX, m1, c1, a1]
  refine (e2 _).trans ?_
  simp only [u315_381, eq_self, q_nl0, q_nlI, q_nlR, not_false_eq_true, q_nz0, q_nz1, q_zv0, q_zv1, q_tl1, q_tl0, q_wif, q_swc, q_swn, List.cons_append, List.nil_append, if_true, if_false, e10, e01, Bool.false_eq_true]
theorem t_4 (hX : Nat.blt X.1 4096 = true) (hi : i + 6 ≤ X.1) (C : CI h σ) (K : KI h σ) (O : OKs σ) : Nx X h i 386 := by
  have hx : X.1 < 4096 := Nat.blt_eq.mp hX
  have a1 : nI i + 1 = nI (i + 1) := nI_add i 1
  have m1 : m_in (nI (i + 1)) X.1 = true := q_in (by omega) (by omega)
  have c1 : (nI (i + 1)).toNatClampNeg = i + 1 := q_cl (by omega)
  have a2 : nI i + 2 = nI (i + 2) := nI_add i 2
  have m2 : m_in (nI (i + 2)) X.1 = true := q_in (by omega) (by omega)
  have c2 : (nI (i + 2)).toNatClampNeg = i + 2 := q_cl (by omega)
  obtain ⟨v, g, g', σ', O', C', K', e1, e2⟩ := w_man (X := X) (d := 989) C K O (X.2 (i + 1)) (X.2 (i + 2))
  refine ⟨g', σ', O', C', K', fun Q => ?_⟩
  simp only [u315_386, u315_387, u315_388, u315_389, u315_390, u315_391, u315_392, u315_393, u315_394, u315_395, u315_396, u315_397, eq_self, q_nl0, q_nlI, q_nlR, not_false_eq_true, q_nz0, q_nz1, q_zv0, q_zv1, q_tl1, q_tl0, q_wif, q_swc, q_swn, List.cons_append, List.nil_append, if_true, if_false, e10, e01, Bool.false_eq_true, sh_1, hX, m1, c1, a1, m2, c2, a2]
  refine (e1 _).trans ?_
  simp only [u315_400, u315_401, u315_402, u315_403, u315_404, u315_405, u315_406, u315_407, u315_408, u315_409, u315_410, u315_411, eq_self, q_nl0, q_nlI, q_nlR, not_false_eq_true, q_nz0, q_nz1, q_zv0, q_zv1, q_tl1, q_tl0, q_wif, q_swc, q_swn, List.cons_append, List.nil_append, if_true, if_false, e10, e01, Bool.false_eq_true, sh_195, hX, m1, c1, a1, m2, c2, a2]
  refine (e2 _).trans ?_
  simp only [u315_414, eq_self, q_nl0, q_nlI, q_nlR, not_false_eq_true, q_nz0, q_nz1, q_zv0, q_zv1, q_tl1, q_tl0, q_wif, q_swc, q_swn, List.cons_append, List.nil_append, if_true, if_false, e10, e01, Bool.false_eq_true]
theorem t_5 (hX : Nat.blt X.1 4096 = true) (hi : i + 6 ≤ X.1) (C : CI h σ) (K : KI h σ) (O : OKs σ) : Nx X h i 419 := by
  have hx : X.1 < 4096 := Nat.blt_eq.mp hX
  have a1 : nI i + 1 = nI (i + 1) := nI_add i 1
  have m1 : m_in (nI (i + 1)) X.1 = true := q_in (by omega) (by omega)
  have c1 : (nI (i + 1)).toNatClampNeg = i + 1 := q_cl (by omega)
  have a2 : nI i + 2 = nI (i + 2) := nI_add i 2
  have m2 : m_in (nI (i + 2)) X.1 = true := q_in (by omega) (by omega)
  have c2 : (nI (i + 2)).toNatClampNeg = i + 2 := q_cl (by omega)
  obtain ⟨v, g, g', σ', O', C', K', e1, e2⟩ := w_craft (X := X) (d := 989) C K O (X.2 (i + 1)) (X.2 (i + 2))
  refine ⟨g', σ', O', C', K', fun Q => ?_⟩
  simp only [u315_419, u315_420, u315_421, u315_422, u315_423, u315_424, u315_425, u315_426, u315_427, u315_428, u315_429, u315_430, eq_self, q_nl0, q_nlI, q_nlR, not_false_eq_true, q_nz0, q_nz1, q_zv0, q_zv1, q_tl1, q_tl0, q_wif, q_swc, q_swn, List.cons_append, List.nil_append, if_true, if_false, e10, e01, Bool.false_eq_true, sh_1, hX, m1, c1, a1, m2, c2, a2]
  refine (e1 _).trans ?_
  simp only [u315_433, u315_434, u315_435, u315_436, u315_437, u315_438, u315_439, u315_440, u315_441, u315_442, u315_443, u315_444, eq_self, q_nl0, q_nlI, q_nlR, not_false_eq_true, q_nz0, q_nz1, q_zv0, q_zv1, q_tl1, q_tl0, q_wif, q_swc, q_swn, List.cons_append, List.nil_append, if_true, if_false, e10, e01, Bool.false_eq_true, sh_195, hX, m1, c1, a1, m2, c2, a2]
  refine (e2 _).trans ?_
  simp only [u315_447, eq_self, q_nl0, q_nlI, q_nlR, not_false_eq_true, q_nz0, q_nz1, q_zv0, q_zv1, q_tl1, q_tl0, q_wif, q_swc, q_swn, List.cons_append, List.nil_append, if_true, if_false, e10, e01, Bool.false_eq_true]
theorem t_6 (hX : Nat.blt X.1 4096 = true) (hi : i + 6 ≤ X.1) (C : CI h σ) (K : KI h σ) (O : OKs σ) : Nx X h i 452 := by
  have hx : X.1 < 4096 := Nat.blt_eq.mp hX
  have a1 : nI i + 1 = nI (i + 1) := nI_add i 1
  have m1 : m_in (nI (i + 1)) X.1 = true := q_in (by omega) (by omega)
  have c1 : (nI (i + 1)).toNatClampNeg = i + 1 := q_cl (by omega)
  have a2 : nI i + 2 = nI (i + 2) := nI_add i 2
  have m2 : m_in (nI (i + 2)) X.1 = true := q_in (by omega) (by omega)
  have c2 : (nI (i + 2)).toNatClampNeg = i + 2 := q_cl (by omega)
  obtain ⟨v, g, g', σ', O', C', K', e1, e2⟩ := w_demand (X := X) (d := 989) C K O (X.2 (i + 1)) (X.2 (i + 2))
  refine ⟨g', σ', O', C', K', fun Q => ?_⟩
  simp only [u315_452, u315_453, u315_454, u315_455, u315_456, u315_457, u315_458, u315_459, u315_460, u315_461, u315_462, u315_463, eq_self, q_nl0, q_nlI, q_nlR, not_false_eq_true, q_nz0, q_nz1, q_zv0, q_zv1, q_tl1, q_tl0, q_wif, q_swc, q_swn, List.cons_append, List.nil_append, if_true, if_false, e10, e01, Bool.false_eq_true, sh_1, hX, m1, c1, a1, m2, c2, a2]
  refine (e1 _).trans ?_
  simp only [u315_466, u315_467, u315_468, u315_469, u315_470, u315_471, u315_472, u315_473, u315_474, u315_475, u315_476, u315_477, eq_self, q_nl0, q_nlI, q_nlR, not_false_eq_true, q_nz0, q_nz1, q_zv0, q_zv1, q_tl1, q_tl0, q_wif, q_swc, q_swn, List.cons_append, List.nil_append, if_true, if_false, e10, e01, Bool.false_eq_true, sh_195, hX, m1, c1, a1, m2, c2, a2]
  refine (e2 _).trans ?_
  simp only [u315_480, eq_self, q_nl0, q_nlI, q_nlR, not_false_eq_true, q_nz0, q_nz1, q_zv0, q_zv1, q_tl1, q_tl0, q_wif, q_swc, q_swn, List.cons_append, List.nil_append, if_true, if_false, e10, e01, Bool.false_eq_true]
theorem t_7 (hX : Nat.blt X.1 4096 = true) (hi : i + 6 ≤ X.1) (C : CI h σ) (K : KI h σ) (O : OKs σ) : Nx X h i 485 := by
  obtain ⟨v, g, g', σ', O', C', K', e1, e2⟩ := w_out (X := X) (d := 989) C K O
  refine ⟨g', σ', O', C', K', fun Q => ?_⟩
  simp only [u315_485, u315_486, eq_self, q_nl0, q_nlI, q_nlR, not_false_eq_true, q_nz0, q_nz1, q_zv0, q_zv1, q_tl1, q_tl0, q_wif, q_swc, q_swn, List.cons_append, List.nil_append, if_true, if_false, e10, e01, Bool.false_eq_true, sh_1]
  refine (e1 _).trans ?_
  simp only [u315_489, u315_490, eq_self, q_nl0, q_nlI, q_nlR, not_false_eq_true, q_nz0, q_nz1, q_zv0, q_zv1, q_tl1, q_tl0, q_wif, q_swc, q_swn, List.cons_append, List.nil_append, if_true, if_false, e10, e01, Bool.false_eq_true, sh_195]
  refine (e2 _).trans ?_
  simp only [u315_493, eq_self, q_nl0, q_nlI, q_nlR, not_false_eq_true, q_nz0, q_nz1, q_zv0, q_zv1, q_tl1, q_tl0, q_wif, q_swc, q_swn, List.cons_append, List.nil_append, if_true, if_false, e10, e01, Bool.false_eq_true]
theorem t_8 (hX : Nat.blt X.1 4096 = true) (hi : i + 6 ≤ X.1) (C : CI h σ) (K : KI h σ) (O : OKs σ) : Nx X h i 498 := by
  have hx : X.1 < 4096 := Nat.blt_eq.mp hX
  have a1 : nI i + 1 = nI (i + 1) := nI_add i 1
  have m1 : m_in (nI (i + 1)) X.1 = true := q_in (by omega) (by omega)
  have c1 : (nI (i + 1)).toNatClampNeg = i + 1 := q_cl (by omega)
  obtain ⟨v, g, g', σ', O', C', K', e1, e2⟩ := w_loss (X := X) (d := 989) C K O (X.2 (i + 1))
  refine ⟨g', σ', O', C', K', fun Q => ?_⟩
  simp only [u315_498, u315_499, u315_500, u315_501, u315_502, u315_503, u315_504, eq_self, q_nl0, q_nlI, q_nlR, not_false_eq_true, q_nz0, q_nz1, q_zv0, q_zv1, q_tl1, q_tl0, q_wif, q_swc, q_swn, List.cons_append, List.nil_append, if_true, if_false, e10, e01, Bool.false_eq_true, sh_1, hX, m1, c1, a1]
  refine (e1 _).trans ?_
  simp only [u315_507, u315_508, u315_509, u315_510, u315_511, u315_512, u315_513, eq_self, q_nl0, q_nlI, q_nlR, not_false_eq_true, q_nz0, q_nz1, q_zv0, q_zv1, q_tl1, q_tl0, q_wif, q_swc, q_swn, List.cons_append, List.nil_append, if_true, if_false, e10, e01, Bool.false_eq_true, sh_195, hX, m1, c1, a1]
  refine (e2 _).trans ?_
  simp only [u315_516, eq_self, q_nl0, q_nlI, q_nlR, not_false_eq_true, q_nz0, q_nz1, q_zv0, q_zv1, q_tl1, q_tl0, q_wif, q_swc, q_swn, List.cons_append, List.nil_append, if_true, if_false, e10, e01, Bool.false_eq_true]
theorem t_9 (hX : Nat.blt X.1 4096 = true) (hi : i + 6 ≤ X.1) (C : CI h σ) (K : KI h σ) (O : OKs σ) : Nx X h i 521 := by
  obtain ⟨v, g, g', σ', O', C', K', e1, e2⟩ := w_broken (X := X) (d := 989) C K O
  refine ⟨g', σ', O', C', K', fun Q => ?_⟩
  simp only [u315_521, u315_522, eq_self, q_nl0, q_nlI, q_nlR, not_false_eq_true, q_nz0, q_nz1, q_zv0, q_zv1, q_tl1, q_tl0, q_wif, q_swc, q_swn, List.cons_append, List.nil_append, if_true, if_false, e10, e01, Bool.false_eq_true, sh_1]
  refine (e1 _).trans ?_
  simp only [u315_525, u315_526, eq_self, q_nl0, q_nlI, q_nlR, not_false_eq_true, q_nz0, q_nz1, q_zv0, q_zv1, q_tl1, q_tl0, q_wif, q_swc, q_swn, List.cons_append, List.nil_append, if_true, if_false, e10, e01, Bool.false_eq_true, sh_195]
  refine (e2 _).trans ?_
  simp only [u315_529, eq_self, q_nl0, q_nlI, q_nlR, not_false_eq_true, q_nz0, q_nz1, q_zv0, q_zv1, q_tl1, q_tl0, q_wif, q_swc, q_swn, List.cons_append, List.nil_append, if_true, if_false, e10, e01, Bool.false_eq_true]
theorem t_10 (hX : Nat.blt X.1 4096 = true) (hi : i + 6 ≤ X.1) (C : CI h σ) (K : KI h σ) (O : OKs σ) : Nx X h i 534 := by
  obtain ⟨v, g, g', σ', O', C', K', e1, e2⟩ := w_longest (X := X) (d := 989) C K O
  refine ⟨g', σ', O', C', K', fun Q => ?_⟩
  simp only [u315_534, u315_535, eq_self, q_nl0, q_nlI, q_nlR, not_false_eq_true, q_nz0, q_nz1, q_zv0, q_zv1, q_tl1, q_tl0, q_wif, q_swc, q_swn, List.cons_append, List.nil_append, if_true, if_false, e10, e01, Bool.false_eq_true, sh_1]
  refine (e1 _).trans ?_
  simp only [u315_538, u315_539, eq_self, q_nl0, q_nlI, q_nlR, not_false_eq_true, q_nz0, q_nz1, q_zv0, q_zv1, q_tl1, q_tl0, q_wif, q_swc, q_swn, List.cons_append, List.nil_append, if_true, if_false, e10, e01, Bool.false_eq_true, sh_195]
  refine (e2 _).trans ?_
  simp only [u315_542, eq_self, q_nl0, q_nlI, q_nlR, not_false_eq_true, q_nz0, q_nz1, q_zv0, q_zv1, q_tl1, q_tl0, q_wif, q_swc, q_swn, List.cons_append, List.nil_append, if_true, if_false, e10, e01, Bool.false_eq_true]
theorem t_11 (hX : Nat.blt X.1 4096 = true) (hi : i + 6 ≤ X.1) (C : CI h σ) (K : KI h σ) (O : OKs σ) : Nx X h i 547 := by
  have hx : X.1 < 4096 := Nat.blt_eq.mp hX
  have a1 : nI i + 1 = nI (i + 1) := nI_add i 1
  have m1 : m_in (nI (i + 1)) X.1 = true := q_in (by omega) (by omega)
  have c1 : (nI (i + 1)).toNatClampNeg = i + 1 := q_cl (by omega)
  have a2 : nI i + 2 = nI (i + 2) := nI_add i 2
  have m2 : m_in (nI (i + 2)) X.1 = true := q_in (by omega) (by omega)
  have c2 : (nI (i + 2)).toNatClampNeg = i + 2 := q_cl (by omega)
  obtain ⟨v, g, g', σ', O', C', K', e1, e2⟩ := w_hands (X := X) (d := 989) C K O (X.2 (i + 1)) (X.2 (i + 2))
  refine ⟨g', σ', O', C', K', fun Q => ?_⟩
  simp only [u315_547, u315_548, u315_549, u315_550, u315_551, u315_552, u315_553, u315_554, u315_555, u315_556, u315_557, u315_558, eq_self, q_nl0, q_nlI, q_nlR, not_false_eq_true, q_nz0, q_nz1, q_zv0, q_zv1, q_tl1, q_tl0, q_wif, q_swc, q_swn, List.cons_append, List.nil_append, if_true, if_false, e10, e01, Bool.false_eq_true, sh_1, hX, m1, c1, a1, m2, c2, a2]
  refine (e1 _).trans ?_
  simp only [u315_561, u315_562, u315_563, u315_564, u315_565, u315_566, u315_567, u315_568, u315_569, u315_570, u315_571, u315_572, eq_self, q_nl0, q_nlI, q_nlR, not_false_eq_true, q_nz0, q_nz1, q_zv0, q_zv1, q_tl1, q_tl0, q_wif, q_swc, q_swn, List.cons_append, List.nil_append, if_true, if_false, e10, e01, Bool.false_eq_true, sh_195, hX, m1, c1, a1, m2, c2, a2]
  refine (e2 _).trans ?_
  simp only [u315_575, eq_self, q_nl0, q_nlI, q_nlR, not_false_eq_true, q_nz0, q_nz1, q_zv0, q_zv1, q_tl1, q_tl0, q_wif, q_swc, q_swn, List.cons_append, List.nil_append, if_true, if_false, e10, e01, Bool.false_eq_true]
theorem t_12 (hX : Nat.blt X.1 4096 = true) (hi : i + 6 ≤ X.1) (C : CI h σ) (K : KI h σ) (O : OKs σ) : Nx X h i 580 := by
  have hx : X.1 < 4096 := Nat.blt_eq.mp hX
  have a1 : nI i + 1 = nI (i + 1) := nI_add i 1
  have m1 : m_in (nI (i + 1)) X.1 = true := q_in (by omega) (by omega)
  have c1 : (nI (i + 1)).toNatClampNeg = i + 1 := q_cl (by omega)
  obtain ⟨v, g, g', σ', O', C', K', e1, e2⟩ := s_leave (X := X) (d := 989) C K O (X.2 (i + 1))
  refine ⟨g', σ', O', C', K', fun Q => ?_⟩
  simp only [u315_580, u315_581, u315_582, u315_583, u315_584, u315_585, u315_586, eq_self, q_nl0, q_nlI, q_nlR, not_false_eq_true, q_nz0, q_nz1, q_zv0, q_zv1, q_tl1, q_tl0, q_wif, q_swc, q_swn, List.cons_append, List.nil_append, if_true, if_false, e10, e01, Bool.false_eq_true, sh_1, hX, m1, c1, a1]
  refine (e1 _).trans ?_
  simp only [u315_589, u315_590, u315_591, u315_592, u315_593, u315_594, u315_595, eq_self, q_nl0, q_nlI, q_nlR, not_false_eq_true, q_nz0, q_nz1, q_zv0, q_zv1, q_tl1, q_tl0, q_wif, q_swc, q_swn, List.cons_append, List.nil_append, if_true, if_false, e10, e01, Bool.false_eq_true, sh_195, hX, m1, c1, a1]
  refine (e2 _).trans ?_
  simp only [u315_598, eq_self, q_nl0, q_nlI, q_nlR, not_false_eq_true, q_nz0, q_nz1, q_zv0, q_zv1, q_tl1, q_tl0, q_wif, q_swc, q_swn, List.cons_append, List.nil_append, if_true, if_false, e10, e01, Bool.false_eq_true]
theorem t_13 (hX : Nat.blt X.1 4096 = true) (hi : i + 6 ≤ X.1) (C : CI h σ) (K : KI h σ) (O : OKs σ) : Nx X h i 603 := by
  have hx : X.1 < 4096 := Nat.blt_eq.mp hX
  have a1 : nI i + 1 = nI (i + 1) := nI_add i 1
  have m1 : m_in (nI (i + 1)) X.1 = true := q_in (by omega) (by omega)
  have c1 : (nI (i + 1)).toNatClampNeg = i + 1 := q_cl (by omega)
  obtain ⟨v, g, g', σ', O', C', K', e1, e2⟩ := s_home (X := X) (d := 989) C K O (X.2 (i + 1))
  refine ⟨g', σ', O', C', K', fun Q => ?_⟩
  simp only [u315_603, u315_604, u315_605, u315_606, u315_607, u315_608, u315_609, eq_self, q_nl0, q_nlI, q_nlR, not_false_eq_true, q_nz0, q_nz1, q_zv0, q_zv1, q_tl1, q_tl0, q_wif, q_swc, q_swn, List.cons_append, List.nil_append, if_true, if_false, e10, e01, Bool.false_eq_true, sh_1, hX, m1, c1, a1]
  refine (e1 _).trans ?_
  simp only [u315_612, u315_613, u315_614, u315_615, u315_616, u315_617, u315_618, eq_self, q_nl0, q_nlI, q_nlR, not_false_eq_true, q_nz0, q_nz1, q_zv0, q_zv1, q_tl1, q_tl0, q_wif, q_swc, q_swn, List.cons_append, List.nil_append, if_true, if_false, e10, e01, Bool.false_eq_true, sh_195, hX, m1, c1, a1]
  refine (e2 _).trans ?_
  simp only [u315_621, eq_self, q_nl0, q_nlI, q_nlR, not_false_eq_true, q_nz0, q_nz1, q_zv0, q_zv1, q_tl1, q_tl0, q_wif, q_swc, q_swn, List.cons_append, List.nil_append, if_true, if_false, e10, e01, Bool.false_eq_true]
theorem t_14 (hX : Nat.blt X.1 4096 = true) (hi : i + 6 ≤ X.1) (C : CI h σ) (K : KI h σ) (O : OKs σ) : Nx X h i 626 := by
  have hx : X.1 < 4096 := Nat.blt_eq.mp hX
  have a1 : nI i + 1 = nI (i + 1) := nI_add i 1
  have m1 : m_in (nI (i + 1)) X.1 = true := q_in (by omega) (by omega)
  have c1 : (nI (i + 1)).toNatClampNeg = i + 1 := q_cl (by omega)
  have a2 : nI i + 2 = nI (i + 2) := nI_add i 2
  have m2 : m_in (nI (i + 2)) X.1 = true := q_in (by omega) (by omega)
  have c2 : (nI (i + 2)).toNatClampNeg = i + 2 := q_cl (by omega)
  obtain ⟨v, g, g', σ', O', C', K', e1, e2⟩ := s_give (X := X) (d := 989) C K O (X.2 (i + 1)) (X.2 (i + 2))
  refine ⟨g', σ', O', C', K', fun Q => ?_⟩
  simp only [u315_626, u315_627, u315_628, u315_629, u315_630, u315_631, u315_632, u315_633, u315_634, u315_635, u315_636, u315_637, eq_self, q_nl0, q_nlI, q_nlR, not_false_eq_true, q_nz0, q_nz1, q_zv0, q_zv1, q_tl1, q_tl0, q_wif, q_swc, q_swn, List.cons_append, List.nil_append, if_true, if_false, e10, e01, Bool.false_eq_true, sh_1, hX, m1, c1, a1, m2, c2, a2]
  refine (e1 _).trans ?_
  simp only [u315_640, u315_641, u315_642, u315_643, u315_644, u315_645, u315_646, u315_647, u315_648, u315_649, u315_650, u315_651, eq_self, q_nl0, q_nlI, q_nlR, not_false_eq_true, q_nz0, q_nz1, q_zv0, q_zv1, q_tl1, q_tl0, q_wif, q_swc, q_swn, List.cons_append, List.nil_append, if_true, if_false, e10, e01, Bool.false_eq_true, sh_195, hX, m1, c1, a1, m2, c2, a2]
  refine (e2 _).trans ?_
  simp only [u315_654, eq_self, q_nl0, q_nlI, q_nlR, not_false_eq_true, q_nz0, q_nz1, q_zv0, q_zv1, q_tl1, q_tl0, q_wif, q_swc, q_swn, List.cons_append, List.nil_append, if_true, if_false, e10, e01, Bool.false_eq_true]
theorem t_15 (hX : Nat.blt X.1 4096 = true) (hi : i + 6 ≤ X.1) (C : CI h σ) (K : KI h σ) (O : OKs σ) : Nx X h i 659 := by
  have hx : X.1 < 4096 := Nat.blt_eq.mp hX
  have a1 : nI i + 1 = nI (i + 1) := nI_add i 1
  have m1 : m_in (nI (i + 1)) X.1 = true := q_in (by omega) (by omega)
  have c1 : (nI (i + 1)).toNatClampNeg = i + 1 := q_cl (by omega)
  obtain ⟨v, g, g', σ', O', C', K', e1, e2⟩ := s_grant (X := X) (d := 989) C K O (X.2 (i + 1))
  refine ⟨g', σ', O', C', K', fun Q => ?_⟩
  simp only [u315_659, u315_660, u315_661, u315_662, u315_663, u315_664, u315_665, eq_self, q_nl0, q_nlI, q_nlR, not_false_eq_true, q_nz0, q_nz1, q_zv0, q_zv1, q_tl1, q_tl0, q_wif, q_swc, q_swn, List.cons_append, List.nil_append, if_true, if_false, e10, e01, Bool.false_eq_true, sh_1, hX, m1, c1, a1]
  refine (e1 _).trans ?_
  simp only [u315_668, u315_669, u315_670, u315_671, u315_672, u315_673, u315_674, eq_self, q_nl0, q_nlI, q_nlR, not_false_eq_true, q_nz0, q_nz1, q_zv0, q_zv1, q_tl1, q_tl0, q_wif, q_swc, q_swn, List.cons_append, List.nil_append, if_true, if_false, e10, e01, Bool.false_eq_true, sh_195, hX, m1, c1, a1]
  refine (e2 _).trans ?_
  simp only [u315_677, eq_self, q_nl0, q_nlI, q_nlR, not_false_eq_true, q_nz0, q_nz1, q_zv0, q_zv1, q_tl1, q_tl0, q_wif, q_swc, q_swn, List.cons_append, List.nil_append, if_true, if_false, e10, e01, Bool.false_eq_true]
theorem t_16 (hX : Nat.blt X.1 4096 = true) (hi : i + 6 ≤ X.1) (C : CI h σ) (K : KI h σ) (O : OKs σ) : Nx X h i 682 := by
  obtain ⟨v, g, g', σ', O', C', K', e1, e2⟩ := s_day (X := X) (d := 989) C K O
  refine ⟨g', σ', O', C', K', fun Q => ?_⟩
  simp only [u315_682, u315_683, eq_self, q_nl0, q_nlI, q_nlR, not_false_eq_true, q_nz0, q_nz1, q_zv0, q_zv1, q_tl1, q_tl0, q_wif, q_swc, q_swn, List.cons_append, List.nil_append, if_true, if_false, e10, e01, Bool.false_eq_true, sh_1]
  refine (e1 _).trans ?_
  simp only [u315_686, u315_687, eq_self, q_nl0, q_nlI, q_nlR, not_false_eq_true, q_nz0, q_nz1, q_zv0, q_zv1, q_tl1, q_tl0, q_wif, q_swc, q_swn, List.cons_append, List.nil_append, if_true, if_false, e10, e01, Bool.false_eq_true, sh_195]
  refine (e2 _).trans ?_
  simp only [u315_690, eq_self, q_nl0, q_nlI, q_nlR, not_false_eq_true, q_nz0, q_nz1, q_zv0, q_zv1, q_tl1, q_tl0, q_wif, q_swc, q_swn, List.cons_append, List.nil_append, if_true, if_false, e10, e01, Bool.false_eq_true]
theorem t_17 (hX : Nat.blt X.1 4096 = true) (hi : i + 6 ≤ X.1) (C : CI h σ) (K : KI h σ) (O : OKs σ) : Nx X h i 695 := by
  obtain ⟨v, g, g', σ', O', C', K', e1, e2⟩ := s_undo (X := X) (d := 989) C K O
  refine ⟨g', σ', O', C', K', fun Q => ?_⟩
  simp only [u315_695, u315_696, eq_self, q_nl0, q_nlI, q_nlR, not_false_eq_true, q_nz0, q_nz1, q_zv0, q_zv1, q_tl1, q_tl0, q_wif, q_swc, q_swn, List.cons_append, List.nil_append, if_true, if_false, e10, e01, Bool.false_eq_true, sh_1]
  refine (e1 _).trans ?_
  simp only [u315_699, u315_700, eq_self, q_nl0, q_nlI, q_nlR, not_false_eq_true, q_nz0, q_nz1, q_zv0, q_zv1, q_tl1, q_tl0, q_wif, q_swc, q_swn, List.cons_append, List.nil_append, if_true, if_false, e10, e01, Bool.false_eq_true, sh_195]
  refine (e2 _).trans ?_
  simp only [u315_703, eq_self, q_nl0, q_nlI, q_nlR, not_false_eq_true, q_nz0, q_nz1, q_zv0, q_zv1, q_tl1, q_tl0, q_wif, q_swc, q_swn, List.cons_append, List.nil_append, if_true, if_false, e10, e01, Bool.false_eq_true]
theorem t_18 (hX : Nat.blt X.1 4096 = true) (hi : i + 6 ≤ X.1) (C : CI h σ) (K : KI h σ) (O : OKs σ) : Nx X h i 708 := by
  obtain ⟨v, g, g', σ', O', C', K', e1, e2⟩ := s_redo (X := X) (d := 989) C K O
  refine ⟨g', σ', O', C', K', fun Q => ?_⟩
  simp only [u315_708, u315_709, eq_self, q_nl0, q_nlI, q_nlR, not_false_eq_true, q_nz0, q_nz1, q_zv0, q_zv1, q_tl1, q_tl0, q_wif, q_swc, q_swn, List.cons_append, List.nil_append, if_true, if_false, e10, e01, Bool.false_eq_true, sh_1]
  refine (e1 _).trans ?_
  simp only [u315_712, u315_713, eq_self, q_nl0, q_nlI, q_nlR, not_false_eq_true, q_nz0, q_nz1, q_zv0, q_zv1, q_tl1, q_tl0, q_wif, q_swc, q_swn, List.cons_append, List.nil_append, if_true, if_false, e10, e01, Bool.false_eq_true, sh_195]
  refine (e2 _).trans ?_
  simp only [u315_716, eq_self, q_nl0, q_nlI, q_nlR, not_false_eq_true, q_nz0, q_nz1, q_zv0, q_zv1, q_tl1, q_tl0, q_wif, q_swc, q_swn, List.cons_append, List.nil_append, if_true, if_false, e10, e01, Bool.false_eq_true]
theorem t_19 (hX : Nat.blt X.1 4096 = true) (hi : i + 6 ≤ X.1) (C : CI h σ) (K : KI h σ) (O : OKs σ) : Nx X h i 721 := by
  have hx : X.1 < 4096 := Nat.blt_eq.mp hX
  have a1 : nI i + 1 = nI (i + 1) := nI_add i 1
  have m1 : m_in (nI (i + 1)) X.1 = true := q_in (by omega) (by omega)
  have c1 : (nI (i + 1)).toNatClampNeg = i + 1 := q_cl (by omega)
  obtain ⟨v, g, g', σ', O', C', K', e1, e2⟩ := w_spread (X := X) (d := 989) C K O (X.2 (i + 1))
  refine ⟨g', σ', O', C', K', fun Q => ?_⟩
  simp only [u315_721, u315_722, u315_723, u315_724, u315_725, u315_726, u315_727, eq_self, q_nl0, q_nlI, q_nlR, not_false_eq_true, q_nz0, q_nz1, q_zv0, q_zv1, q_tl1, q_tl0, q_wif, q_swc, q_swn, List.cons_append, List.nil_append, if_true, if_false, e10, e01, Bool.false_eq_true, sh_1, hX, m1, c1, a1]
  refine (e1 _).trans ?_
  simp only [u315_730, u315_731, u315_732, u315_733, u315_734, u315_735, u315_736, eq_self, q_nl0, q_nlI, q_nlR, not_false_eq_true, q_nz0, q_nz1, q_zv0, q_zv1, q_tl1, q_tl0, q_wif, q_swc, q_swn, List.cons_append, List.nil_append, if_true, if_false, e10, e01, Bool.false_eq_true, sh_195, hX, m1, c1, a1]
  refine (e2 _).trans ?_
  simp only [u315_739, eq_self, q_nl0, q_nlI, q_nlR, not_false_eq_true, q_nz0, q_nz1, q_zv0, q_zv1, q_tl1, q_tl0, q_wif, q_swc, q_swn, List.cons_append, List.nil_append, if_true, if_false, e10, e01, Bool.false_eq_true]
theorem t_20 (hX : Nat.blt X.1 4096 = true) (hi : i + 6 ≤ X.1) (C : CI h σ) (K : KI h σ) (O : OKs σ) : Nx X h i 744 := by
  have hx : X.1 < 4096 := Nat.blt_eq.mp hX
  have a1 : nI i + 1 = nI (i + 1) := nI_add i 1
  have m1 : m_in (nI (i + 1)) X.1 = true := q_in (by omega) (by omega)
  have c1 : (nI (i + 1)).toNatClampNeg = i + 1 := q_cl (by omega)
  obtain ⟨v, g, g', σ', O', C', K', e1, e2⟩ := w_spark (X := X) (d := 989) C K O (X.2 (i + 1))
  refine ⟨g', σ', O', C', K', fun Q => ?_⟩
  simp only [u315_744, u315_745, u315_746, u315_747, u315_748, u315_749, u315_750, eq_self, q_nl0, q_nlI, q_nlR, not_false_eq_true, q_nz0, q_nz1, q_zv0, q_zv1, q_tl1, q_tl0, q_wif, q_swc, q_swn, List.cons_append, List.nil_append, if_true, if_false, e10, e01, Bool.false_eq_true, sh_1, hX, m1, c1, a1]
  refine (e1 _).trans ?_
  simp only [u315_753, u315_754, u315_755, u315_756, u315_757, u315_758, u315_759, eq_self, q_nl0, q_nlI, q_nlR, not_false_eq_true, q_nz0, q_nz1, q_zv0, q_zv1, q_tl1, q_tl0, q_wif, q_swc, q_swn, List.cons_append, List.nil_append, if_true, if_false, e10, e01, Bool.false_eq_true, sh_195, hX, m1, c1, a1]
  refine (e2 _).trans ?_
  simp only [u315_762, eq_self, q_nl0, q_nlI, q_nlR, not_false_eq_true, q_nz0, q_nz1, q_zv0, q_zv1, q_tl1, q_tl0, q_wif, q_swc, q_swn, List.cons_append, List.nil_append, if_true, if_false, e10, e01, Bool.false_eq_true]
theorem t_21 (hX : Nat.blt X.1 4096 = true) (hi : i + 6 ≤ X.1) (C : CI h σ) (K : KI h σ) (O : OKs σ) : Nx X h i 767 := by
  have hx : X.1 < 4096 := Nat.blt_eq.mp hX
  have a1 : nI i + 1 = nI (i + 1) := nI_add i 1
  have m1 : m_in (nI (i + 1)) X.1 = true := q_in (by omega) (by omega)
  have c1 : (nI (i + 1)).toNatClampNeg = i + 1 := q_cl (by omega)
  have a2 : nI i + 2 = nI (i + 2) := nI_add i 2
  have m2 : m_in (nI (i + 2)) X.1 = true := q_in (by omega) (by omega)
  have c2 : (nI (i + 2)).toNatClampNeg = i + 2 := q_cl (by omega)
  obtain ⟨v, g, g', σ', O', C', K', e1, e2⟩ := w_stop (X := X) (d := 989) C K O (X.2 (i + 1)) (X.2 (i + 2))
  refine ⟨g', σ', O', C', K', fun Q => ?_⟩
  simp only [u315_767, u315_768, u315_769, u315_770, u315_771, u315_772, u315_773, u315_774, u315_775, u315_776, u315_777, u315_778, eq_self, q_nl0, q_nlI, q_nlR, not_false_eq_true, q_nz0, q_nz1, q_zv0, q_zv1, q_tl1, q_tl0, q_wif, q_swc, q_swn, List.cons_append, List.nil_append, if_true, if_false, e10, e01, Bool.false_eq_true, sh_1, hX, m1, c1, a1, m2, c2, a2]
  refine (e1 _).trans ?_
  simp only [u315_781, u315_782, u315_783, u315_784, u315_785, u315_786, u315_787, u315_788, u315_789, u315_790, u315_791, u315_792, eq_self, q_nl0, q_nlI, q_nlR, not_false_eq_true, q_nz0, q_nz1, q_zv0, q_zv1, q_tl1, q_tl0, q_wif, q_swc, q_swn, List.cons_append, List.nil_append, if_true, if_false, e10, e01, Bool.false_eq_true, sh_195, hX, m1, c1, a1, m2, c2, a2]
  refine (e2 _).trans ?_
  simp only [u315_795, eq_self, q_nl0, q_nlI, q_nlR, not_false_eq_true, q_nz0, q_nz1, q_zv0, q_zv1, q_tl1, q_tl0, q_wif, q_swc, q_swn, List.cons_append, List.nil_append, if_true, if_false, e10, e01, Bool.false_eq_true]
theorem t_22 (hX : Nat.blt X.1 4096 = true) (hi : i + 6 ≤ X.1) (C : CI h σ) (K : KI h σ) (O : OKs σ) : Nx X h i 800 := by
  obtain ⟨v, g, g', σ', O', C', K', e1, e2⟩ := w_pillars (X := X) (d := 989) C K O
  refine ⟨g', σ', O', C', K', fun Q => ?_⟩
  simp only [u315_800, u315_801, eq_self, q_nl0, q_nlI, q_nlR, not_false_eq_true, q_nz0, q_nz1, q_zv0, q_zv1, q_tl1, q_tl0, q_wif, q_swc, q_swn, List.cons_append, List.nil_append, if_true, if_false, e10, e01, Bool.false_eq_true, sh_1]
  refine (e1 _).trans ?_
  simp only [u315_804, u315_805, eq_self, q_nl0, q_nlI, q_nlR, not_false_eq_true, q_nz0, q_nz1, q_zv0, q_zv1, q_tl1, q_tl0, q_wif, q_swc, q_swn, List.cons_append, List.nil_append, if_true, if_false, e10, e01, Bool.false_eq_true, sh_195]
  refine (e2 _).trans ?_
  simp only [u315_808, eq_self, q_nl0, q_nlI, q_nlR, not_false_eq_true, q_nz0, q_nz1, q_zv0, q_zv1, q_tl1, q_tl0, q_wif, q_swc, q_swn, List.cons_append, List.nil_append, if_true, if_false, e10, e01, Bool.false_eq_true]
theorem t_23 (hX : Nat.blt X.1 4096 = true) (hi : i + 6 ≤ X.1) (C : CI h σ) (K : KI h σ) (O : OKs σ) : Nx X h i 813 := by
  obtain ⟨v, g, g', σ', O', C', K', e1, e2⟩ := w_idle (X := X) (d := 989) C K O
  refine ⟨g', σ', O', C', K', fun Q => ?_⟩
  simp only [u315_813, u315_814, eq_self, q_nl0, q_nlI, q_nlR, not_false_eq_true, q_nz0, q_nz1, q_zv0, q_zv1, q_tl1, q_tl0, q_wif, q_swc, q_swn, List.cons_append, List.nil_append, if_true, if_false, e10, e01, Bool.false_eq_true, sh_1]
  refine (e1 _).trans ?_
  simp only [u315_817, u315_818, eq_self, q_nl0, q_nlI, q_nlR, not_false_eq_true, q_nz0, q_nz1, q_zv0, q_zv1, q_tl1, q_tl0, q_wif, q_swc, q_swn, List.cons_append, List.nil_append, if_true, if_false, e10, e01, Bool.false_eq_true, sh_195]
  refine (e2 _).trans ?_
  simp only [u315_821, eq_self, q_nl0, q_nlI, q_nlR, not_false_eq_true, q_nz0, q_nz1, q_zv0, q_zv1, q_tl1, q_tl0, q_wif, q_swc, q_swn, List.cons_append, List.nil_append, if_true, if_false, e10, e01, Bool.false_eq_true]
theorem t_24 (hX : Nat.blt X.1 4096 = true) (hi : i + 6 ≤ X.1) (C : CI h σ) (K : KI h σ) (O : OKs σ) : Nx X h i 826 := by
  obtain ⟨v, g, g', σ', O', C', K', e1, e2⟩ := w_dearest (X := X) (d := 989) C K O
  refine ⟨g', σ', O', C', K', fun Q => ?_⟩
  simp only [u315_826, u315_827, eq_self, q_nl0, q_nlI, q_nlR, not_false_eq_true, q_nz0, q_nz1, q_zv0, q_zv1, q_tl1, q_tl0, q_wif, q_swc, q_swn, List.cons_append, List.nil_append, if_true, if_false, e10, e01, Bool.false_eq_true, sh_1]
  refine (e1 _).trans ?_
  simp only [u315_830, u315_831, eq_self, q_nl0, q_nlI, q_nlR, not_false_eq_true, q_nz0, q_nz1, q_zv0, q_zv1, q_tl1, q_tl0, q_wif, q_swc, q_swn, List.cons_append, List.nil_append, if_true, if_false, e10, e01, Bool.false_eq_true, sh_195]
  refine (e2 _).trans ?_
  simp only [u315_834, eq_self, q_nl0, q_nlI, q_nlR, not_false_eq_true, q_nz0, q_nz1, q_zv0, q_zv1, q_tl1, q_tl0, q_wif, q_swc, q_swn, List.cons_append, List.nil_append, if_true, if_false, e10, e01, Bool.false_eq_true]
theorem t_25 (hX : Nat.blt X.1 4096 = true) (hi : i + 6 ≤ X.1) (C : CI h σ) (K : KI h σ) (O : OKs σ) : Nx X h i 839 := by
  obtain ⟨v, g, g', σ', O', C', K', e1, e2⟩ := w_twins (X := X) (d := 989) C K O
  refine ⟨g', σ', O', C', K', fun Q => ?_⟩
  simp only [u315_839, u315_840, eq_self, q_nl0, q_nlI, q_nlR, not_false_eq_true, q_nz0, q_nz1, q_zv0, q_zv1, q_tl1, q_tl0, q_wif, q_swc, q_swn, List.cons_append, List.nil_append, if_true, if_false, e10, e01, Bool.false_eq_true, sh_1]
  refine (e1 _).trans ?_
  simp only [u315_843, u315_844, eq_self, q_nl0, q_nlI, q_nlR, not_false_eq_true, q_nz0, q_nz1, q_zv0, q_zv1, q_tl1, q_tl0, q_wif, q_swc, q_swn, List.cons_append, List.nil_append, if_true, if_false, e10, e01, Bool.false_eq_true, sh_195]
  refine (e2 _).trans ?_
  simp only [u315_847, eq_self, q_nl0, q_nlI, q_nlR, not_false_eq_true, q_nz0, q_nz1, q_zv0, q_zv1, q_tl1, q_tl0, q_wif, q_swc, q_swn, List.cons_append, List.nil_append, if_true, if_false, e10, e01, Bool.false_eq_true]
theorem t_26 (hX : Nat.blt X.1 4096 = true) (hi : i + 6 ≤ X.1) (C : CI h σ) (K : KI h σ) (O : OKs σ) : Nx X h i 852 := by
  obtain ⟨v, g, g', σ', O', C', K', e1, e2⟩ := w_stock (X := X) (d := 989) C K O
  refine ⟨g', σ', O', C', K', fun Q => ?_⟩
  simp only [u315_852, u315_853, eq_self, q_nl0, q_nlI, q_nlR, not_false_eq_true, q_nz0, q_nz1, q_zv0, q_zv1, q_tl1, q_tl0, q_wif, q_swc, q_swn, List.cons_append, List.nil_append, if_true, if_false, e10, e01, Bool.false_eq_true, sh_1]
  refine (e1 _).trans ?_
  simp only [u315_856, u315_857, eq_self, q_nl0, q_nlI, q_nlR, not_false_eq_true, q_nz0, q_nz1, q_zv0, q_zv1, q_tl1, q_tl0, q_wif, q_swc, q_swn, List.cons_append, List.nil_append, if_true, if_false, e10, e01, Bool.false_eq_true, sh_195]
  refine (e2 _).trans ?_
  simp only [u315_860, eq_self, q_nl0, q_nlI, q_nlR, not_false_eq_true, q_nz0, q_nz1, q_zv0, q_zv1, q_tl1, q_tl0, q_wif, q_swc, q_swn, List.cons_append, List.nil_append, if_true, if_false, e10, e01, Bool.false_eq_true]
theorem t_27 (hX : Nat.blt X.1 4096 = true) (hi : i + 6 ≤ X.1) (C : CI h σ) (K : KI h σ) (O : OKs σ) : Nx X h i 865 := by
  have hx : X.1 < 4096 := Nat.blt_eq.mp hX
  have a1 : nI i + 1 = nI (i + 1) := nI_add i 1
  have m1 : m_in (nI (i + 1)) X.1 = true := q_in (by omega) (by omega)
  have c1 : (nI (i + 1)).toNatClampNeg = i + 1 := q_cl (by omega)
  obtain ⟨v, g, g', σ', O', C', K', e1, e2⟩ := w_hungry (X := X) (d := 989) C K O (X.2 (i + 1))
  refine ⟨g', σ', O', C', K', fun Q => ?_⟩
  simp only [u315_865, u315_866, u315_867, u315_868, u315_869, u315_870, u315_871, eq_self, q_nl0, q_nlI, q_nlR, not_false_eq_true, q_nz0, q_nz1, q_zv0, q_zv1, q_tl1, q_tl0, q_wif, q_swc, q_swn, List.cons_append, List.nil_append, if_true, if_false, e10, e01, Bool.false_eq_true, sh_1, hX, m1, c1, a1]
  refine (e1 _).trans ?_
  simp only [u315_874, u315_875, u315_876, u315_877, u315_878, u315_879, u315_880, eq_self, q_nl0, q_nlI, q_nlR, not_false_eq_true, q_nz0, q_nz1, q_zv0, q_zv1, q_tl1, q_tl0, q_wif, q_swc, q_swn, List.cons_append, List.nil_append, if_true, if_false, e10, e01, Bool.false_eq_true, sh_195, hX, m1, c1, a1]
  refine (e2 _).trans ?_
  simp only [u315_883, eq_self, q_nl0, q_nlI, q_nlR, not_false_eq_true, q_nz0, q_nz1, q_zv0, q_zv1, q_tl1, q_tl0, q_wif, q_swc, q_swn, List.cons_append, List.nil_append, if_true, if_false, e10, e01, Bool.false_eq_true]
theorem t_28 (hX : Nat.blt X.1 4096 = true) (hi : i + 6 ≤ X.1) (C : CI h σ) (K : KI h σ) (O : OKs σ) : Nx X h i 888 := by
  have hx : X.1 < 4096 := Nat.blt_eq.mp hX
  have a1 : nI i + 1 = nI (i + 1) := nI_add i 1
  have m1 : m_in (nI (i + 1)) X.1 = true := q_in (by omega) (by omega)
  have c1 : (nI (i + 1)).toNatClampNeg = i + 1 := q_cl (by omega)
  obtain ⟨v, g, g', σ', O', C', K', e1, e2⟩ := w_returns (X := X) (d := 989) C K O (X.2 (i + 1))
  refine ⟨g', σ', O', C', K', fun Q => ?_⟩
  simp only [u315_888, u315_889, u315_890, u315_891, u315_892, u315_893, u315_894, eq_self, q_nl0, q_nlI, q_nlR, not_false_eq_true, q_nz0, q_nz1, q_zv0, q_zv1, q_tl1, q_tl0, q_wif, q_swc, q_swn, List.cons_append, List.nil_append, if_true, if_false, e10, e01, Bool.false_eq_true, sh_1, hX, m1, c1, a1]
  refine (e1 _).trans ?_
  simp only [u315_897, u315_898, u315_899, u315_900, u315_901, u315_902, u315_903, eq_self, q_nl0, q_nlI, q_nlR, not_false_eq_true, q_nz0, q_nz1, q_zv0, q_zv1, q_tl1, q_tl0, q_wif, q_swc, q_swn, List.cons_append, List.nil_append, if_true, if_false, e10, e01, Bool.false_eq_true, sh_195, hX, m1, c1, a1]
  refine (e2 _).trans ?_
  simp only [u315_906, eq_self, q_nl0, q_nlI, q_nlR, not_false_eq_true, q_nz0, q_nz1, q_zv0, q_zv1, q_tl1, q_tl0, q_wif, q_swc, q_swn, List.cons_append, List.nil_append, if_true, if_false, e10, e01, Bool.false_eq_true]
theorem t_29 (hX : Nat.blt X.1 4096 = true) (hi : i + 6 ≤ X.1) (C : CI h σ) (K : KI h σ) (O : OKs σ) : Nx X h i 911 := by
  have hx : X.1 < 4096 := Nat.blt_eq.mp hX
  have a1 : nI i + 1 = nI (i + 1) := nI_add i 1
  have m1 : m_in (nI (i + 1)) X.1 = true := q_in (by omega) (by omega)
  have c1 : (nI (i + 1)).toNatClampNeg = i + 1 := q_cl (by omega)
  have a2 : nI i + 2 = nI (i + 2) := nI_add i 2
  have m2 : m_in (nI (i + 2)) X.1 = true := q_in (by omega) (by omega)
  have c2 : (nI (i + 2)).toNatClampNeg = i + 2 := q_cl (by omega)
  obtain ⟨v, g, g', σ', O', C', K', e1, e2⟩ := w_plan (X := X) (d := 989) C K O (X.2 (i + 1)) (X.2 (i + 2))
  refine ⟨g', σ', O', C', K', fun Q => ?_⟩
  simp only [u315_911, u315_912, u315_913, u315_914, u315_915, u315_916, u315_917, u315_918, u315_919, u315_920, u315_921, u315_922, eq_self, q_nl0, q_nlI, q_nlR, not_false_eq_true, q_nz0, q_nz1, q_zv0, q_zv1, q_tl1, q_tl0, q_wif, q_swc, q_swn, List.cons_append, List.nil_append, if_true, if_false, e10, e01, Bool.false_eq_true, sh_1, hX, m1, c1, a1, m2, c2, a2]
  refine (e1 _).trans ?_
  simp only [u315_925, u315_926, u315_927, u315_928, u315_929, u315_930, u315_931, u315_932, u315_933, u315_934, u315_935, u315_936, eq_self, q_nl0, q_nlI, q_nlR, not_false_eq_true, q_nz0, q_nz1, q_zv0, q_zv1, q_tl1, q_tl0, q_wif, q_swc, q_swn, List.cons_append, List.nil_append, if_true, if_false, e10, e01, Bool.false_eq_true, sh_195, hX, m1, c1, a1, m2, c2, a2]
  refine (e2 _).trans ?_
  simp only [u315_939, eq_self, q_nl0, q_nlI, q_nlR, not_false_eq_true, q_nz0, q_nz1, q_zv0, q_zv1, q_tl1, q_tl0, q_wif, q_swc, q_swn, List.cons_append, List.nil_append, if_true, if_false, e10, e01, Bool.false_eq_true]
theorem t_30 (hX : Nat.blt X.1 4096 = true) (hi : i + 6 ≤ X.1) (C : CI h σ) (K : KI h σ) (O : OKs σ) : Nx X h i 944 := by
  have hx : X.1 < 4096 := Nat.blt_eq.mp hX
  have a1 : nI i + 1 = nI (i + 1) := nI_add i 1
  have m1 : m_in (nI (i + 1)) X.1 = true := q_in (by omega) (by omega)
  have c1 : (nI (i + 1)).toNatClampNeg = i + 1 := q_cl (by omega)
  have a2 : nI i + 2 = nI (i + 2) := nI_add i 2
  have m2 : m_in (nI (i + 2)) X.1 = true := q_in (by omega) (by omega)
  have c2 : (nI (i + 2)).toNatClampNeg = i + 2 := q_cl (by omega)
  obtain ⟨v, g, g', σ', O', C', K', e1, e2⟩ := w_bribe (X := X) (d := 989) C K O (X.2 (i + 1)) (X.2 (i + 2))
  refine ⟨g', σ', O', C', K', fun Q => ?_⟩
  simp only [u315_944, u315_945, u315_946, u315_947, u315_948, u315_949, u315_950, u315_951, u315_952, u315_953, u315_954, u315_955, eq_self, q_nl0, q_nlI, q_nlR, not_false_eq_true, q_nz0, q_nz1, q_zv0, q_zv1, q_tl1, q_tl0, q_wif, q_swc, q_swn, List.cons_append, List.nil_append, if_true, if_false, e10, e01, Bool.false_eq_true, sh_1, hX, m1, c1, a1, m2, c2, a2]
  refine (e1 _).trans ?_
  simp only [u315_958, u315_959, u315_960, u315_961, u315_962, u315_963, u315_964, u315_965, u315_966, u315_967, u315_968, u315_969, eq_self, q_nl0, q_nlI, q_nlR, not_false_eq_true, q_nz0, q_nz1, q_zv0, q_zv1, q_tl1, q_tl0, q_wif, q_swc, q_swn, List.cons_append, List.nil_append, if_true, if_false, e10, e01, Bool.false_eq_true, sh_195, hX, m1, c1, a1, m2, c2, a2]
  refine (e2 _).trans ?_
  simp only [u315_972, eq_self, q_nl0, q_nlI, q_nlR, not_false_eq_true, q_nz0, q_nz1, q_zv0, q_zv1, q_tl1, q_tl0, q_wif, q_swc, q_swn, List.cons_append, List.nil_append, if_true, if_false, e10, e01, Bool.false_eq_true]
theorem t_31 (hX : Nat.blt X.1 4096 = true) (hi : i + 6 ≤ X.1) (C : CI h σ) (K : KI h σ) (O : OKs σ) : Nx X h i 977 := by
  have hx : X.1 < 4096 := Nat.blt_eq.mp hX
  have a1 : nI i + 1 = nI (i + 1) := nI_add i 1
  have m1 : m_in (nI (i + 1)) X.1 = true := q_in (by omega) (by omega)
  have c1 : (nI (i + 1)).toNatClampNeg = i + 1 := q_cl (by omega)
  obtain ⟨v, g, g', σ', O', C', K', e1, e2⟩ := w_ever (X := X) (d := 989) C K O (X.2 (i + 1))
  refine ⟨g', σ', O', C', K', fun Q => ?_⟩
  simp only [u315_977, u315_978, u315_979, u315_980, u315_981, u315_982, u315_983, eq_self, q_nl0, q_nlI, q_nlR, not_false_eq_true, q_nz0, q_nz1, q_zv0, q_zv1, q_tl1, q_tl0, q_wif, q_swc, q_swn, List.cons_append, List.nil_append, if_true, if_false, e10, e01, Bool.false_eq_true, sh_1, hX, m1, c1, a1]
  refine (e1 _).trans ?_
  simp only [u315_986, u315_987, u315_988, u315_989, u315_990, u315_991, u315_992, eq_self, q_nl0, q_nlI, q_nlR, not_false_eq_true, q_nz0, q_nz1, q_zv0, q_zv1, q_tl1, q_tl0, q_wif, q_swc, q_swn, List.cons_append, List.nil_append, if_true, if_false, e10, e01, Bool.false_eq_true, sh_195, hX, m1, c1, a1]
  refine (e2 _).trans ?_
  simp only [u315_995, eq_self, q_nl0, q_nlI, q_nlR, not_false_eq_true, q_nz0, q_nz1, q_zv0, q_zv1, q_tl1, q_tl0, q_wif, q_swc, q_swn, List.cons_append, List.nil_append, if_true, if_false, e10, e01, Bool.false_eq_true]
theorem t_32 (hX : Nat.blt X.1 4096 = true) (hi : i + 6 ≤ X.1) (C : CI h σ) (K : KI h σ) (O : OKs σ) : Nx X h i 1000 := by
  have hx : X.1 < 4096 := Nat.blt_eq.mp hX
  have a1 : nI i + 1 = nI (i + 1) := nI_add i 1
  have m1 : m_in (nI (i + 1)) X.1 = true := q_in (by omega) (by omega)
  have c1 : (nI (i + 1)).toNatClampNeg = i + 1 := q_cl (by omega)
  have a2 : nI i + 2 = nI (i + 2) := nI_add i 2
  have m2 : m_in (nI (i + 2)) X.1 = true := q_in (by omega) (by omega)
  have c2 : (nI (i + 2)).toNatClampNeg = i + 2 := q_cl (by omega)
  obtain ⟨v, g, g', σ', O', C', K', e1, e2⟩ := w_press (X := X) (d := 989) C K O (X.2 (i + 1)) (X.2 (i + 2))
  refine ⟨g', σ', O', C', K', fun Q => ?_⟩
  simp only [u315_1000, u315_1001, u315_1002, u315_1003, u315_1004, u315_1005, u315_1006, u315_1007, u315_1008, u315_1009, u315_1010, u315_1011, eq_self, q_nl0, q_nlI, q_nlR, not_false_eq_true, q_nz0, q_nz1, q_zv0, q_zv1, q_tl1, q_tl0, q_wif, q_swc, q_swn, List.cons_append, List.nil_append, if_true, if_false, e10, e01, Bool.false_eq_true, sh_1, hX, m1, c1, a1, m2, c2, a2]
  refine (e1 _).trans ?_
  simp only [u315_1014, u315_1015, u315_1016, u315_1017, u315_1018, u315_1019, u315_1020, u315_1021, u315_1022, u315_1023, u315_1024, u315_1025, eq_self, q_nl0, q_nlI, q_nlR, not_false_eq_true, q_nz0, q_nz1, q_zv0, q_zv1, q_tl1, q_tl0, q_wif, q_swc, q_swn, List.cons_append, List.nil_append, if_true, if_false, e10, e01, Bool.false_eq_true, sh_195, hX, m1, c1, a1, m2, c2, a2]
  refine (e2 _).trans ?_
  simp only [u315_1028, eq_self, q_nl0, q_nlI, q_nlR, not_false_eq_true, q_nz0, q_nz1, q_zv0, q_zv1, q_tl1, q_tl0, q_wif, q_swc, q_swn, List.cons_append, List.nil_append, if_true, if_false, e10, e01, Bool.false_eq_true]
theorem t_33 (hX : Nat.blt X.1 4096 = true) (hi : i + 6 ≤ X.1) (C : CI h σ) (K : KI h σ) (O : OKs σ) : Nx X h i 1033 := by
  have hx : X.1 < 4096 := Nat.blt_eq.mp hX
  have a1 : nI i + 1 = nI (i + 1) := nI_add i 1
  have m1 : m_in (nI (i + 1)) X.1 = true := q_in (by omega) (by omega)
  have c1 : (nI (i + 1)).toNatClampNeg = i + 1 := q_cl (by omega)
  obtain ⟨v, g, g', σ', O', C', K', e1, e2⟩ := w_pays (X := X) (d := 989) C K O (X.2 (i + 1))
  refine ⟨g', σ', O', C', K', fun Q => ?_⟩
  simp only [u315_1033, u315_1034, u315_1035, u315_1036, u315_1037, u315_1038, u315_1039, eq_self, q_nl0, q_nlI, q_nlR, not_false_eq_true, q_nz0, q_nz1, q_zv0, q_zv1, q_tl1, q_tl0, q_wif, q_swc, q_swn, List.cons_append, List.nil_append, if_true, if_false, e10, e01, Bool.false_eq_true, sh_1, hX, m1, c1, a1]
  refine (e1 _).trans ?_
  simp only [u315_1042, u315_1043, u315_1044, u315_1045, u315_1046, u315_1047, u315_1048, eq_self, q_nl0, q_nlI, q_nlR, not_false_eq_true, q_nz0, q_nz1, q_zv0, q_zv1, q_tl1, q_tl0, q_wif, q_swc, q_swn, List.cons_append, List.nil_append, if_true, if_false, e10, e01, Bool.false_eq_true, sh_195, hX, m1, c1, a1]
  refine (e2 _).trans ?_
  simp only [u315_1051, eq_self, q_nl0, q_nlI, q_nlR, not_false_eq_true, q_nz0, q_nz1, q_zv0, q_zv1, q_tl1, q_tl0, q_wif, q_swc, q_swn, List.cons_append, List.nil_append, if_true, if_false, e10, e01, Bool.false_eq_true]
theorem t_34 (hX : Nat.blt X.1 4096 = true) (hi : i + 6 ≤ X.1) (C : CI h σ) (K : KI h σ) (O : OKs σ) : Nx X h i 1056 := by
  have hx : X.1 < 4096 := Nat.blt_eq.mp hX
  have a1 : nI i + 1 = nI (i + 1) := nI_add i 1
  have m1 : m_in (nI (i + 1)) X.1 = true := q_in (by omega) (by omega)
  have c1 : (nI (i + 1)).toNatClampNeg = i + 1 := q_cl (by omega)
  have a2 : nI i + 2 = nI (i + 2) := nI_add i 2
  have m2 : m_in (nI (i + 2)) X.1 = true := q_in (by omega) (by omega)
  have c2 : (nI (i + 2)).toNatClampNeg = i + 2 := q_cl (by omega)
  obtain ⟨v, g, g', σ', O', C', K', e1, e2⟩ := w_weight (X := X) (d := 989) C K O (X.2 (i + 1)) (X.2 (i + 2))
  refine ⟨g', σ', O', C', K', fun Q => ?_⟩
  simp only [u315_1056, u315_1057, u315_1058, u315_1059, u315_1060, u315_1061, u315_1062, u315_1063, u315_1064, u315_1065, u315_1066, u315_1067, eq_self, q_nl0, q_nlI, q_nlR, not_false_eq_true, q_nz0, q_nz1, q_zv0, q_zv1, q_tl1, q_tl0, q_wif, q_swc, q_swn, List.cons_append, List.nil_append, if_true, if_false, e10, e01, Bool.false_eq_true, sh_1, hX, m1, c1, a1, m2, c2, a2]
  refine (e1 _).trans ?_
  simp only [u315_1070, u315_1071, u315_1072, u315_1073, u315_1074, u315_1075, u315_1076, u315_1077, u315_1078, u315_1079, u315_1080, u315_1081, eq_self, q_nl0, q_nlI, q_nlR, not_false_eq_true, q_nz0, q_nz1, q_zv0, q_zv1, q_tl1, q_tl0, q_wif, q_swc, q_swn, List.cons_append, List.nil_append, if_true, if_false, e10, e01, Bool.false_eq_true, sh_195, hX, m1, c1, a1, m2, c2, a2]
  refine (e2 _).trans ?_
  simp only [u315_1084, eq_self, q_nl0, q_nlI, q_nlR, not_false_eq_true, q_nz0, q_nz1, q_zv0, q_zv1, q_tl1, q_tl0, q_wif, q_swc, q_swn, List.cons_append, List.nil_append, if_true, if_false, e10, e01, Bool.false_eq_true]
theorem t_35 (hX : Nat.blt X.1 4096 = true) (hi : i + 6 ≤ X.1) (C : CI h σ) (K : KI h σ) (O : OKs σ) : Nx X h i 1089 := by
  have hx : X.1 < 4096 := Nat.blt_eq.mp hX
  have a1 : nI i + 1 = nI (i + 1) := nI_add i 1
  have m1 : m_in (nI (i + 1)) X.1 = true := q_in (by omega) (by omega)
  have c1 : (nI (i + 1)).toNatClampNeg = i + 1 := q_cl (by omega)
  obtain ⟨v, g, g', σ', O', C', K', e1, e2⟩ := w_will (X := X) (d := 989) C K O (X.2 (i + 1))
  refine ⟨g', σ', O', C', K', fun Q => ?_⟩
  simp only [u315_1089, u315_1090, u315_1091, u315_1092, u315_1093, u315_1094, u315_1095, eq_self, q_nl0, q_nlI, q_nlR, not_false_eq_true, q_nz0, q_nz1, q_zv0, q_zv1, q_tl1, q_tl0, q_wif, q_swc, q_swn, List.cons_append, List.nil_append, if_true, if_false, e10, e01, Bool.false_eq_true, sh_1, hX, m1, c1, a1]
  refine (e1 _).trans ?_
  simp only [u315_1098, u315_1099, u315_1100, u315_1101, u315_1102, u315_1103, u315_1104, eq_self, q_nl0, q_nlI, q_nlR, not_false_eq_true, q_nz0, q_nz1, q_zv0, q_zv1, q_tl1, q_tl0, q_wif, q_swc, q_swn, List.cons_append, List.nil_append, if_true, if_false, e10, e01, Bool.false_eq_true, sh_195, hX, m1, c1, a1]
  refine (e2 _).trans ?_
  simp only [u315_1107, eq_self, q_nl0, q_nlI, q_nlR, not_false_eq_true, q_nz0, q_nz1, q_zv0, q_zv1, q_tl1, q_tl0, q_wif, q_swc, q_swn, List.cons_append, List.nil_append, if_true, if_false, e10, e01, Bool.false_eq_true]
theorem t_36 (hX : Nat.blt X.1 4096 = true) (hi : i + 6 ≤ X.1) (C : CI h σ) (K : KI h σ) (O : OKs σ) : Nx X h i 1112 := by
  obtain ⟨v, g, g', σ', O', C', K', e1, e2⟩ := w_lasts (X := X) (d := 989) C K O
  refine ⟨g', σ', O', C', K', fun Q => ?_⟩
  simp only [u315_1112, u315_1113, eq_self, q_nl0, q_nlI, q_nlR, not_false_eq_true, q_nz0, q_nz1, q_zv0, q_zv1, q_tl1, q_tl0, q_wif, q_swc, q_swn, List.cons_append, List.nil_append, if_true, if_false, e10, e01, Bool.false_eq_true, sh_1]
  refine (e1 _).trans ?_
  simp only [u315_1116, u315_1117, eq_self, q_nl0, q_nlI, q_nlR, not_false_eq_true, q_nz0, q_nz1, q_zv0, q_zv1, q_tl1, q_tl0, q_wif, q_swc, q_swn, List.cons_append, List.nil_append, if_true, if_false, e10, e01, Bool.false_eq_true, sh_195]
  refine (e2 _).trans ?_
  simp only [u315_1120, eq_self, q_nl0, q_nlI, q_nlR, not_false_eq_true, q_nz0, q_nz1, q_zv0, q_zv1, q_tl1, q_tl0, q_wif, q_swc, q_swn, List.cons_append, List.nil_append, if_true, if_false, e10, e01, Bool.false_eq_true]
theorem t_37 (hX : Nat.blt X.1 4096 = true) (hi : i + 6 ≤ X.1) (C : CI h σ) (K : KI h σ) (O : OKs σ) : Nx X h i 1125 := by
  have hx : X.1 < 4096 := Nat.blt_eq.mp hX
  have a1 : nI i + 1 = nI (i + 1) := nI_add i 1
  have m1 : m_in (nI (i + 1)) X.1 = true := q_in (by omega) (by omega)
  have c1 : (nI (i + 1)).toNatClampNeg = i + 1 := q_cl (by omega)
  obtain ⟨v, g, g', σ', O', C', K', e1, e2⟩ := w_costs (X := X) (d := 989) C K O (X.2 (i + 1))
  refine ⟨g', σ', O', C', K', fun Q => ?_⟩
  simp only [u315_1125, u315_1126, u315_1127, u315_1128, u315_1129, u315_1130, u315_1131, eq_self, q_nl0, q_nlI, q_nlR, not_false_eq_true, q_nz0, q_nz1, q_zv0, q_zv1, q_tl1, q_tl0, q_wif, q_swc, q_swn, List.cons_append, List.nil_append, if_true, if_false, e10, e01, Bool.false_eq_true, sh_1, hX, m1, c1, a1]
  refine (e1 _).trans ?_
  simp only [u315_1134, u315_1135, u315_1136, u315_1137, u315_1138, u315_1139, u315_1140, eq_self, q_nl0, q_nlI, q_nlR, not_false_eq_true, q_nz0, q_nz1, q_zv0, q_zv1, q_tl1, q_tl0, q_wif, q_swc, q_swn, List.cons_append, List.nil_append, if_true, if_false, e10, e01, Bool.false_eq_true, sh_195, hX, m1, c1, a1]
  refine (e2 _).trans ?_
  simp only [u315_1143, eq_self, q_nl0, q_nlI, q_nlR, not_false_eq_true, q_nz0, q_nz1, q_zv0, q_zv1, q_tl1, q_tl0, q_wif, q_swc, q_swn, List.cons_append, List.nil_append, if_true, if_false, e10, e01, Bool.false_eq_true]
theorem t_38 (hX : Nat.blt X.1 4096 = true) (hi : i + 6 ≤ X.1) (C : CI h σ) (K : KI h σ) (O : OKs σ) : Nx X h i 1148 := by
  obtain ⟨v, g, g', σ', O', C', K', e1, e2⟩ := w_weakest (X := X) (d := 989) C K O
  refine ⟨g', σ', O', C', K', fun Q => ?_⟩
  simp only [u315_1148, u315_1149, eq_self, q_nl0, q_nlI, q_nlR, not_false_eq_true, q_nz0, q_nz1, q_zv0, q_zv1, q_tl1, q_tl0, q_wif, q_swc, q_swn, List.cons_append, List.nil_append, if_true, if_false, e10, e01, Bool.false_eq_true, sh_1]
  refine (e1 _).trans ?_
  simp only [u315_1152, u315_1153, eq_self, q_nl0, q_nlI, q_nlR, not_false_eq_true, q_nz0, q_nz1, q_zv0, q_zv1, q_tl1, q_tl0, q_wif, q_swc, q_swn, List.cons_append, List.nil_append, if_true, if_false, e10, e01, Bool.false_eq_true, sh_195]
  refine (e2 _).trans ?_
  simp only [u315_1156, eq_self, q_nl0, q_nlI, q_nlR, not_false_eq_true, q_nz0, q_nz1, q_zv0, q_zv1, q_tl1, q_tl0, q_wif, q_swc, q_swn, List.cons_append, List.nil_append, if_true, if_false, e10, e01, Bool.false_eq_true]
theorem t_39 (hX : Nat.blt X.1 4096 = true) (hi : i + 6 ≤ X.1) (C : CI h σ) (K : KI h σ) (O : OKs σ) : Nx X h i 1161 := by
  have hx : X.1 < 4096 := Nat.blt_eq.mp hX
  have a1 : nI i + 1 = nI (i + 1) := nI_add i 1
  have m1 : m_in (nI (i + 1)) X.1 = true := q_in (by omega) (by omega)
  have c1 : (nI (i + 1)).toNatClampNeg = i + 1 := q_cl (by omega)
  have a2 : nI i + 2 = nI (i + 2) := nI_add i 2
  have m2 : m_in (nI (i + 2)) X.1 = true := q_in (by omega) (by omega)
  have c2 : (nI (i + 2)).toNatClampNeg = i + 2 := q_cl (by omega)
  obtain ⟨v, g, g', σ', O', C', K', e1, e2⟩ := w_offer (X := X) (d := 989) C K O (X.2 (i + 1)) (X.2 (i + 2))
  refine ⟨g', σ', O', C', K', fun Q => ?_⟩
  simp only [u315_1161, u315_1162, u315_1163, u315_1164, u315_1165, u315_1166, u315_1167, u315_1168, u315_1169, u315_1170, u315_1171, u315_1172, eq_self, q_nl0, q_nlI, q_nlR, not_false_eq_true, q_nz0, q_nz1, q_zv0, q_zv1, q_tl1, q_tl0, q_wif, q_swc, q_swn, List.cons_append, List.nil_append, if_true, if_false, e10, e01, Bool.false_eq_true, sh_1, hX, m1, c1, a1, m2, c2, a2]
  refine (e1 _).trans ?_
  simp only [u315_1175, u315_1176, u315_1177, u315_1178, u315_1179, u315_1180, u315_1181, u315_1182, u315_1183, u315_1184, u315_1185, u315_1186, eq_self, q_nl0, q_nlI, q_nlR, not_false_eq_true, q_nz0, q_nz1, q_zv0, q_zv1, q_tl1, q_tl0, q_wif, q_swc, q_swn, List.cons_append, List.nil_append, if_true, if_false, e10, e01, Bool.false_eq_true, sh_195, hX, m1, c1, a1, m2, c2, a2]
  refine (e2 _).trans ?_
  simp only [u315_1189, eq_self, q_nl0, q_nlI, q_nlR, not_false_eq_true, q_nz0, q_nz1, q_zv0, q_zv1, q_tl1, q_tl0, q_wif, q_swc, q_swn, List.cons_append, List.nil_append, if_true, if_false, e10, e01, Bool.false_eq_true]
theorem t_40 (hX : Nat.blt X.1 4096 = true) (hi : i + 6 ≤ X.1) (C : CI h σ) (K : KI h σ) (O : OKs σ) : Nx X h i 1194 := by
  have hx : X.1 < 4096 := Nat.blt_eq.mp hX
  have a1 : nI i + 1 = nI (i + 1) := nI_add i 1
  have m1 : m_in (nI (i + 1)) X.1 = true := q_in (by omega) (by omega)
  have c1 : (nI (i + 1)).toNatClampNeg = i + 1 := q_cl (by omega)
  obtain ⟨v, g, g', σ', O', C', K', e1, e2⟩ := w_until (X := X) (d := 989) C K O (X.2 (i + 1))
  refine ⟨g', σ', O', C', K', fun Q => ?_⟩
  simp only [u315_1194, u315_1195, u315_1196, u315_1197, u315_1198, u315_1199, u315_1200, eq_self, q_nl0, q_nlI, q_nlR, not_false_eq_true, q_nz0, q_nz1, q_zv0, q_zv1, q_tl1, q_tl0, q_wif, q_swc, q_swn, List.cons_append, List.nil_append, if_true, if_false, e10, e01, Bool.false_eq_true, sh_1, hX, m1, c1, a1]
  refine (e1 _).trans ?_
  simp only [u315_1203, u315_1204, u315_1205, u315_1206, u315_1207, u315_1208, u315_1209, eq_self, q_nl0, q_nlI, q_nlR, not_false_eq_true, q_nz0, q_nz1, q_zv0, q_zv1, q_tl1, q_tl0, q_wif, q_swc, q_swn, List.cons_append, List.nil_append, if_true, if_false, e10, e01, Bool.false_eq_true, sh_195, hX, m1, c1, a1]
  refine (e2 _).trans ?_
  simp only [u315_1212, eq_self, q_nl0, q_nlI, q_nlR, not_false_eq_true, q_nz0, q_nz1, q_zv0, q_zv1, q_tl1, q_tl0, q_wif, q_swc, q_swn, List.cons_append, List.nil_append, if_true, if_false, e10, e01, Bool.false_eq_true]
theorem t_41 (hX : Nat.blt X.1 4096 = true) (hi : i + 6 ≤ X.1) (C : CI h σ) (K : KI h σ) (O : OKs σ) : Nx X h i 1217 := by
  have hx : X.1 < 4096 := Nat.blt_eq.mp hX
  have a1 : nI i + 1 = nI (i + 1) := nI_add i 1
  have m1 : m_in (nI (i + 1)) X.1 = true := q_in (by omega) (by omega)
  have c1 : (nI (i + 1)).toNatClampNeg = i + 1 := q_cl (by omega)
  have a2 : nI i + 2 = nI (i + 2) := nI_add i 2
  have m2 : m_in (nI (i + 2)) X.1 = true := q_in (by omega) (by omega)
  have c2 : (nI (i + 2)).toNatClampNeg = i + 2 := q_cl (by omega)
  obtain ⟨v, g, g', σ', O', C', K', e1, e2⟩ := w_feeds (X := X) (d := 989) C K O (X.2 (i + 1)) (X.2 (i + 2))
  refine ⟨g', σ', O', C', K', fun Q => ?_⟩
  simp only [u315_1217, u315_1218, u315_1219, u315_1220, u315_1221, u315_1222, u315_1223, u315_1224, u315_1225, u315_1226, u315_1227, u315_1228, eq_self, q_nl0, q_nlI, q_nlR, not_false_eq_true, q_nz0, q_nz1, q_zv0, q_zv1, q_tl1, q_tl0, q_wif, q_swc, q_swn, List.cons_append, List.nil_append, if_true, if_false, e10, e01, Bool.false_eq_true, sh_1, hX, m1, c1, a1, m2, c2, a2]
  refine (e1 _).trans ?_
  simp only [u315_1231, u315_1232, u315_1233, u315_1234, u315_1235, u315_1236, u315_1237, u315_1238, u315_1239, u315_1240, u315_1241, u315_1242, eq_self, q_nl0, q_nlI, q_nlR, not_false_eq_true, q_nz0, q_nz1, q_zv0, q_zv1, q_tl1, q_tl0, q_wif, q_swc, q_swn, List.cons_append, List.nil_append, if_true, if_false, e10, e01, Bool.false_eq_true, sh_195, hX, m1, c1, a1, m2, c2, a2]
  refine (e2 _).trans ?_
  simp only [u315_1245, eq_self, q_nl0, q_nlI, q_nlR, not_false_eq_true, q_nz0, q_nz1, q_zv0, q_zv1, q_tl1, q_tl0, q_wif, q_swc, q_swn, List.cons_append, List.nil_append, if_true, if_false, e10, e01, Bool.false_eq_true]
theorem t_42 (hX : Nat.blt X.1 4096 = true) (hi : i + 6 ≤ X.1) (C : CI h σ) (K : KI h σ) (O : OKs σ) : Nx X h i 1250 := by
  have hx : X.1 < 4096 := Nat.blt_eq.mp hX
  have a1 : nI i + 1 = nI (i + 1) := nI_add i 1
  have m1 : m_in (nI (i + 1)) X.1 = true := q_in (by omega) (by omega)
  have c1 : (nI (i + 1)).toNatClampNeg = i + 1 := q_cl (by omega)
  have a2 : nI i + 2 = nI (i + 2) := nI_add i 2
  have m2 : m_in (nI (i + 2)) X.1 = true := q_in (by omega) (by omega)
  have c2 : (nI (i + 2)).toNatClampNeg = i + 2 := q_cl (by omega)
  obtain ⟨v, g, g', σ', O', C', K', e1, e2⟩ := w_odds (X := X) (d := 989) C K O (X.2 (i + 1)) (X.2 (i + 2))
  refine ⟨g', σ', O', C', K', fun Q => ?_⟩
  simp only [u315_1250, u315_1251, u315_1252, u315_1253, u315_1254, u315_1255, u315_1256, u315_1257, u315_1258, u315_1259, u315_1260, u315_1261, eq_self, q_nl0, q_nlI, q_nlR, not_false_eq_true, q_nz0, q_nz1, q_zv0, q_zv1, q_tl1, q_tl0, q_wif, q_swc, q_swn, List.cons_append, List.nil_append, if_true, if_false, e10, e01, Bool.false_eq_true, sh_1, hX, m1, c1, a1, m2, c2, a2]
  refine (e1 _).trans ?_
  simp only [u315_1264, u315_1265, u315_1266, u315_1267, u315_1268, u315_1269, u315_1270, u315_1271, u315_1272, u315_1273, u315_1274, u315_1275, eq_self, q_nl0, q_nlI, q_nlR, not_false_eq_true, q_nz0, q_nz1, q_zv0, q_zv1, q_tl1, q_tl0, q_wif, q_swc, q_swn, List.cons_append, List.nil_append, if_true, if_false, e10, e01, Bool.false_eq_true, sh_195, hX, m1, c1, a1, m2, c2, a2]
  refine (e2 _).trans ?_
  simp only [u315_1278, eq_self, q_nl0, q_nlI, q_nlR, not_false_eq_true, q_nz0, q_nz1, q_zv0, q_zv1, q_tl1, q_tl0, q_wif, q_swc, q_swn, List.cons_append, List.nil_append, if_true, if_false, e10, e01, Bool.false_eq_true]
theorem t_43 (hX : Nat.blt X.1 4096 = true) (hi : i + 6 ≤ X.1) (C : CI h σ) (K : KI h σ) (O : OKs σ) : Nx X h i 1283 := by
  have hx : X.1 < 4096 := Nat.blt_eq.mp hX
  have a1 : nI i + 1 = nI (i + 1) := nI_add i 1
  have m1 : m_in (nI (i + 1)) X.1 = true := q_in (by omega) (by omega)
  have c1 : (nI (i + 1)).toNatClampNeg = i + 1 := q_cl (by omega)
  have a2 : nI i + 2 = nI (i + 2) := nI_add i 2
  have m2 : m_in (nI (i + 2)) X.1 = true := q_in (by omega) (by omega)
  have c2 : (nI (i + 2)).toNatClampNeg = i + 2 := q_cl (by omega)
  by_cases z : X.2 (i + 2) = 0
  · obtain ⟨v, g, g', σ', O', C', K', e1, e2⟩ := s_seen (X := X) (d := 989) C K O (X.2 (i + 1)) 0 (Or.inl rfl)
    refine ⟨g', σ', O', C', K', fun Q => ?_⟩
    simp only [u315_1283, u315_1284, u315_1285, u315_1286, u315_1287, u315_1288, u315_1289, u315_1290, u315_1291, u315_1292, u315_1293, u315_1294, u315_1297, u315_1298, u315_1301, u315_1302, eq_self, q_nl0, q_nlI, q_nlR, not_false_eq_true, q_nz0, q_nz1, q_zv0, q_zv1, q_tl1, q_tl0, q_wif, q_swc, q_swn, List.cons_append, List.nil_append, if_true, if_false, e10, e01, Bool.false_eq_true, sh_1, hX, m1, c1, a1, m2, c2, a2, z]
    refine (e1 _).trans ?_
    simp only [u315_1305, u315_1306, u315_1307, u315_1308, u315_1309, u315_1310, u315_1311, u315_1312, u315_1313, u315_1314, u315_1315, u315_1316, u315_1319, u315_1320, u315_1323, u315_1324, eq_self, q_nl0, q_nlI, q_nlR, not_false_eq_true, q_nz0, q_nz1, q_zv0, q_zv1, q_tl1, q_tl0, q_wif, q_swc, q_swn, List.cons_append, List.nil_append, if_true, if_false, e10, e01, Bool.false_eq_true, sh_195, hX, m1, c1, a1, m2, c2, a2, z]
    refine (e2 _).trans ?_
    simp only [u315_1327, eq_self, q_nl0, q_nlI, q_nlR, not_false_eq_true, q_nz0, q_nz1, q_zv0, q_zv1, q_tl1, q_tl0, q_wif, q_swc, q_swn, List.cons_append, List.nil_append, if_true, if_false, e10, e01, Bool.false_eq_true]
  · obtain ⟨v, g, g', σ', O', C', K', e1, e2⟩ := s_seen (X := X) (d := 989) C K O (X.2 (i + 1)) 1 (Or.inr rfl)
    refine ⟨g', σ', O', C', K', fun Q => ?_⟩
    simp only [u315_1283, u315_1284, u315_1285, u315_1286, u315_1287, u315_1288, u315_1289, u315_1290, u315_1291, u315_1292, u315_1293, u315_1294, u315_1297, u315_1298, u315_1301, u315_1302, eq_self, q_nl0, q_nlI, q_nlR, not_false_eq_true, q_nz0, q_nz1, q_zv0, q_zv1, q_tl1, q_tl0, q_wif, q_swc, q_swn, List.cons_append, List.nil_append, if_true, if_false, e10, e01, Bool.false_eq_true, sh_1, hX, m1, c1, a1, m2, c2, a2, z]
    refine (e1 _).trans ?_
    simp only [u315_1305, u315_1306, u315_1307, u315_1308, u315_1309, u315_1310, u315_1311, u315_1312, u315_1313, u315_1314, u315_1315, u315_1316, u315_1319, u315_1320, u315_1323, u315_1324, eq_self, q_nl0, q_nlI, q_nlR, not_false_eq_true, q_nz0, q_nz1, q_zv0, q_zv1, q_tl1, q_tl0, q_wif, q_swc, q_swn, List.cons_append, List.nil_append, if_true, if_false, e10, e01, Bool.false_eq_true, sh_195, hX, m1, c1, a1, m2, c2, a2, z]
    refine (e2 _).trans ?_
    simp only [u315_1327, eq_self, q_nl0, q_nlI, q_nlR, not_false_eq_true, q_nz0, q_nz1, q_zv0, q_zv1, q_tl1, q_tl0, q_wif, q_swc, q_swn, List.cons_append, List.nil_append, if_true, if_false, e10, e01, Bool.false_eq_true]
theorem t_44 (hX : Nat.blt X.1 4096 = true) (hi : i + 6 ≤ X.1) (C : CI h σ) (K : KI h σ) (O : OKs σ) : Nx X h i 1332 := by
  have hx : X.1 < 4096 := Nat.blt_eq.mp hX
  have a1 : nI i + 1 = nI (i + 1) := nI_add i 1
  have m1 : m_in (nI (i + 1)) X.1 = true := q_in (by omega) (by omega)
  have c1 : (nI (i + 1)).toNatClampNeg = i + 1 := q_cl (by omega)
  have a2 : nI i + 2 = nI (i + 2) := nI_add i 2
  have m2 : m_in (nI (i + 2)) X.1 = true := q_in (by omega) (by omega)
  have c2 : (nI (i + 2)).toNatClampNeg = i + 2 := q_cl (by omega)
  by_cases z : X.2 (i + 2) = 0
  · obtain ⟨v, g, g', σ', O', C', K', e1, e2⟩ := s_lacked (X := X) (d := 989) C K O (X.2 (i + 1)) 0 (Or.inl rfl)
    refine ⟨g', σ', O', C', K', fun Q => ?_⟩
    simp only [u315_1332, u315_1333, u315_1334, u315_1335, u315_1336, u315_1337, u315_1338, u315_1339, u315_1340, u315_1341, u315_1342, u315_1343, u315_1346, u315_1347, u315_1350, u315_1351, eq_self, q_nl0, q_nlI, q_nlR, not_false_eq_true, q_nz0, q_nz1, q_zv0, q_zv1, q_tl1, q_tl0, q_wif, q_swc, q_swn, List.cons_append, List.nil_append, if_true, if_false, e10, e01, Bool.false_eq_true, sh_1, hX, m1, c1, a1, m2, c2, a2, z]
    refine (e1 _).trans ?_
    simp only [u315_1354, u315_1355, u315_1356, u315_1357, u315_1358, u315_1359, u315_1360, u315_1361, u315_1362, u315_1363, u315_1364, u315_1365, u315_1368, u315_1369, u315_1372, u315_1373, eq_self, q_nl0, q_nlI, q_nlR, not_false_eq_true, q_nz0, q_nz1, q_zv0, q_zv1, q_tl1, q_tl0, q_wif, q_swc, q_swn, List.cons_append, List.nil_append, if_true, if_false, e10, e01, Bool.false_eq_true, sh_195, hX, m1, c1, a1, m2, c2, a2, z]
    refine (e2 _).trans ?_
    simp only [u315_1376, eq_self, q_nl0, q_nlI, q_nlR, not_false_eq_true, q_nz0, q_nz1, q_zv0, q_zv1, q_tl1, q_tl0, q_wif, q_swc, q_swn, List.cons_append, List.nil_append, if_true, if_false, e10, e01, Bool.false_eq_true]
  · obtain ⟨v, g, g', σ', O', C', K', e1, e2⟩ := s_lacked (X := X) (d := 989) C K O (X.2 (i + 1)) 1 (Or.inr rfl)
    refine ⟨g', σ', O', C', K', fun Q => ?_⟩
    simp only [u315_1332, u315_1333, u315_1334, u315_1335, u315_1336, u315_1337, u315_1338, u315_1339, u315_1340, u315_1341, u315_1342, u315_1343, u315_1346, u315_1347, u315_1350, u315_1351, eq_self, q_nl0, q_nlI, q_nlR, not_false_eq_true, q_nz0, q_nz1, q_zv0, q_zv1, q_tl1, q_tl0, q_wif, q_swc, q_swn, List.cons_append, List.nil_append, if_true, if_false, e10, e01, Bool.false_eq_true, sh_1, hX, m1, c1, a1, m2, c2, a2, z]
    refine (e1 _).trans ?_
    simp only [u315_1354, u315_1355, u315_1356, u315_1357, u315_1358, u315_1359, u315_1360, u315_1361, u315_1362, u315_1363, u315_1364, u315_1365, u315_1368, u315_1369, u315_1372, u315_1373, eq_self, q_nl0, q_nlI, q_nlR, not_false_eq_true, q_nz0, q_nz1, q_zv0, q_zv1, q_tl1, q_tl0, q_wif, q_swc, q_swn, List.cons_append, List.nil_append, if_true, if_false, e10, e01, Bool.false_eq_true, sh_195, hX, m1, c1, a1, m2, c2, a2, z]
    refine (e2 _).trans ?_
    simp only [u315_1376, eq_self, q_nl0, q_nlI, q_nlR, not_false_eq_true, q_nz0, q_nz1, q_zv0, q_zv1, q_tl1, q_tl0, q_wif, q_swc, q_swn, List.cons_append, List.nil_append, if_true, if_false, e10, e01, Bool.false_eq_true]
theorem t_45 (hX : Nat.blt X.1 4096 = true) (hi : i + 6 ≤ X.1) (C : CI h σ) (K : KI h σ) (O : OKs σ) : Nx X h i 1381 := by
  have hx : X.1 < 4096 := Nat.blt_eq.mp hX
  have a1 : nI i + 1 = nI (i + 1) := nI_add i 1
  have m1 : m_in (nI (i + 1)) X.1 = true := q_in (by omega) (by omega)
  have c1 : (nI (i + 1)).toNatClampNeg = i + 1 := q_cl (by omega)
  have a2 : nI i + 2 = nI (i + 2) := nI_add i 2
  have m2 : m_in (nI (i + 2)) X.1 = true := q_in (by omega) (by omega)
  have c2 : (nI (i + 2)).toNatClampNeg = i + 2 := q_cl (by omega)
  by_cases z : X.2 (i + 2) = 0
  · obtain ⟨v, g, g', σ', O', C', K', e1, e2⟩ := s_counted (X := X) (d := 989) C K O (X.2 (i + 1)) 0 (Or.inl rfl)
    refine ⟨g', σ', O', C', K', fun Q => ?_⟩
    simp only [u315_1381, u315_1382, u315_1383, u315_1384, u315_1385, u315_1386, u315_1387, u315_1388, u315_1389, u315_1390, u315_1391, u315_1392, u315_1395, u315_1396, u315_1399, u315_1400, eq_self, q_nl0, q_nlI, q_nlR, not_false_eq_true, q_nz0, q_nz1, q_zv0, q_zv1, q_tl1, q_tl0, q_wif, q_swc, q_swn, List.cons_append, List.nil_append, if_true, if_false, e10, e01, Bool.false_eq_true, sh_1, hX, m1, c1, a1, m2, c2, a2, z]
    refine (e1 _).trans ?_
    simp only [u315_1403, u315_1404, u315_1405, u315_1406, u315_1407, u315_1408, u315_1409, u315_1410, u315_1411, u315_1412, u315_1413, u315_1414, u315_1417, u315_1418, u315_1421, u315_1422, eq_self, q_nl0, q_nlI, q_nlR, not_false_eq_true, q_nz0, q_nz1, q_zv0, q_zv1, q_tl1, q_tl0, q_wif, q_swc, q_swn, List.cons_append, List.nil_append, if_true, if_false, e10, e01, Bool.false_eq_true, sh_195, hX, m1, c1, a1, m2, c2, a2, z]
    refine (e2 _).trans ?_
    simp only [u315_1425, eq_self, q_nl0, q_nlI, q_nlR, not_false_eq_true, q_nz0, q_nz1, q_zv0, q_zv1, q_tl1, q_tl0, q_wif, q_swc, q_swn, List.cons_append, List.nil_append, if_true, if_false, e10, e01, Bool.false_eq_true]
  · obtain ⟨v, g, g', σ', O', C', K', e1, e2⟩ := s_counted (X := X) (d := 989) C K O (X.2 (i + 1)) 1 (Or.inr rfl)
    refine ⟨g', σ', O', C', K', fun Q => ?_⟩
    simp only [u315_1381, u315_1382, u315_1383, u315_1384, u315_1385, u315_1386, u315_1387, u315_1388, u315_1389, u315_1390, u315_1391, u315_1392, u315_1395, u315_1396, u315_1399, u315_1400, eq_self, q_nl0, q_nlI, q_nlR, not_false_eq_true, q_nz0, q_nz1, q_zv0, q_zv1, q_tl1, q_tl0, q_wif, q_swc, q_swn, List.cons_append, List.nil_append, if_true, if_false, e10, e01, Bool.false_eq_true, sh_1, hX, m1, c1, a1, m2, c2, a2, z]
    refine (e1 _).trans ?_
    simp only [u315_1403, u315_1404, u315_1405, u315_1406, u315_1407, u315_1408, u315_1409, u315_1410, u315_1411, u315_1412, u315_1413, u315_1414, u315_1417, u315_1418, u315_1421, u315_1422, eq_self, q_nl0, q_nlI, q_nlR, not_false_eq_true, q_nz0, q_nz1, q_zv0, q_zv1, q_tl1, q_tl0, q_wif, q_swc, q_swn, List.cons_append, List.nil_append, if_true, if_false, e10, e01, Bool.false_eq_true, sh_195, hX, m1, c1, a1, m2, c2, a2, z]
    refine (e2 _).trans ?_
    simp only [u315_1425, eq_self, q_nl0, q_nlI, q_nlR, not_false_eq_true, q_nz0, q_nz1, q_zv0, q_zv1, q_tl1, q_tl0, q_wif, q_swc, q_swn, List.cons_append, List.nil_append, if_true, if_false, e10, e01, Bool.false_eq_true]
theorem t_46 (hX : Nat.blt X.1 4096 = true) (hi : i + 6 ≤ X.1) (C : CI h σ) (K : KI h σ) (O : OKs σ) : Nx X h i 1430 := by
  have hx : X.1 < 4096 := Nat.blt_eq.mp hX
  have a1 : nI i + 1 = nI (i + 1) := nI_add i 1
  have m1 : m_in (nI (i + 1)) X.1 = true := q_in (by omega) (by omega)
  have c1 : (nI (i + 1)).toNatClampNeg = i + 1 := q_cl (by omega)
  obtain ⟨v, g, g', σ', O', C', K', e1, e2⟩ := s_untell (X := X) (d := 989) C K O (X.2 (i + 1))
  refine ⟨g', σ', O', C', K', fun Q => ?_⟩
  simp only [u315_1430, u315_1431, u315_1432, u315_1433, u315_1434, u315_1435, u315_1436, eq_self, q_nl0, q_nlI, q_nlR, not_false_eq_true, q_nz0, q_nz1, q_zv0, q_zv1, q_tl1, q_tl0, q_wif, q_swc, q_swn, List.cons_append, List.nil_append, if_true, if_false, e10, e01, Bool.false_eq_true, sh_1, hX, m1, c1, a1]
  refine (e1 _).trans ?_
  simp only [u315_1439, u315_1440, u315_1441, u315_1442, u315_1443, u315_1444, u315_1445, eq_self, q_nl0, q_nlI, q_nlR, not_false_eq_true, q_nz0, q_nz1, q_zv0, q_zv1, q_tl1, q_tl0, q_wif, q_swc, q_swn, List.cons_append, List.nil_append, if_true, if_false, e10, e01, Bool.false_eq_true, sh_195, hX, m1, c1, a1]
  refine (e2 _).trans ?_
  simp only [u315_1448, eq_self, q_nl0, q_nlI, q_nlR, not_false_eq_true, q_nz0, q_nz1, q_zv0, q_zv1, q_tl1, q_tl0, q_wif, q_swc, q_swn, List.cons_append, List.nil_append, if_true, if_false, e10, e01, Bool.false_eq_true]
theorem t_47 (hX : Nat.blt X.1 4096 = true) (hi : i + 6 ≤ X.1) (C : CI h σ) (K : KI h σ) (O : OKs σ) : Nx X h i 1453 := by
  have hx : X.1 < 4096 := Nat.blt_eq.mp hX
  have a1 : nI i + 1 = nI (i + 1) := nI_add i 1
  have m1 : m_in (nI (i + 1)) X.1 = true := q_in (by omega) (by omega)
  have c1 : (nI (i + 1)).toNatClampNeg = i + 1 := q_cl (by omega)
  obtain ⟨v, g, g', σ', O', C', K', e1, e2⟩ := s_later (X := X) (d := 989) C K O (X.2 (i + 1))
  refine ⟨g', σ', O', C', K', fun Q => ?_⟩
  simp only [u315_1453, u315_1454, u315_1455, u315_1456, u315_1457, u315_1458, u315_1459, eq_self, q_nl0, q_nlI, q_nlR, not_false_eq_true, q_nz0, q_nz1, q_zv0, q_zv1, q_tl1, q_tl0, q_wif, q_swc, q_swn, List.cons_append, List.nil_append, if_true, if_false, e10, e01, Bool.false_eq_true, sh_1, hX, m1, c1, a1]
  refine (e1 _).trans ?_
  simp only [u315_1462, u315_1463, u315_1464, u315_1465, u315_1466, u315_1467, u315_1468, eq_self, q_nl0, q_nlI, q_nlR, not_false_eq_true, q_nz0, q_nz1, q_zv0, q_zv1, q_tl1, q_tl0, q_wif, q_swc, q_swn, List.cons_append, List.nil_append, if_true, if_false, e10, e01, Bool.false_eq_true, sh_195, hX, m1, c1, a1]
  refine (e2 _).trans ?_
  simp only [u315_1471, eq_self, q_nl0, q_nlI, q_nlR, not_false_eq_true, q_nz0, q_nz1, q_zv0, q_zv1, q_tl1, q_tl0, q_wif, q_swc, q_swn, List.cons_append, List.nil_append, if_true, if_false, e10, e01, Bool.false_eq_true]
theorem t_48 (hX : Nat.blt X.1 4096 = true) (hi : i + 6 ≤ X.1) (C : CI h σ) (K : KI h σ) (O : OKs σ) : Nx X h i 1476 := by
  have hx : X.1 < 4096 := Nat.blt_eq.mp hX
  have a1 : nI i + 1 = nI (i + 1) := nI_add i 1
  have m1 : m_in (nI (i + 1)) X.1 = true := q_in (by omega) (by omega)
  have c1 : (nI (i + 1)).toNatClampNeg = i + 1 := q_cl (by omega)
  obtain ⟨v, g, g', σ', O', C', K', e1, e2⟩ := w_fits (X := X) (d := 989) C K O (X.2 (i + 1))
  refine ⟨g', σ', O', C', K', fun Q => ?_⟩
  simp only [u315_1476, u315_1477, u315_1478, u315_1479, u315_1480, u315_1481, u315_1482, eq_self, q_nl0, q_nlI, q_nlR, not_false_eq_true, q_nz0, q_nz1, q_zv0, q_zv1, q_tl1, q_tl0, q_wif, q_swc, q_swn, List.cons_append, List.nil_append, if_true, if_false, e10, e01, Bool.false_eq_true, sh_1, hX, m1, c1, a1]
  refine (e1 _).trans ?_
  simp only [u315_1485, u315_1486, u315_1487, u315_1488, u315_1489, u315_1490, u315_1491, eq_self, q_nl0, q_nlI, q_nlR, not_false_eq_true, q_nz0, q_nz1, q_zv0, q_zv1, q_tl1, q_tl0, q_wif, q_swc, q_swn, List.cons_append, List.nil_append, if_true, if_false, e10, e01, Bool.false_eq_true, sh_195, hX, m1, c1, a1]
  refine (e2 _).trans ?_
  simp only [u315_1494, eq_self, q_nl0, q_nlI, q_nlR, not_false_eq_true, q_nz0, q_nz1, q_zv0, q_zv1, q_tl1, q_tl0, q_wif, q_swc, q_swn, List.cons_append, List.nil_append, if_true, if_false, e10, e01, Bool.false_eq_true]
theorem t_49 (hX : Nat.blt X.1 4096 = true) (hi : i + 6 ≤ X.1) (C : CI h σ) (K : KI h σ) (O : OKs σ) : Nx X h i 1499 := by
  have hx : X.1 < 4096 := Nat.blt_eq.mp hX
  have a1 : nI i + 1 = nI (i + 1) := nI_add i 1
  have m1 : m_in (nI (i + 1)) X.1 = true := q_in (by omega) (by omega)
  have c1 : (nI (i + 1)).toNatClampNeg = i + 1 := q_cl (by omega)
  have a2 : nI i + 2 = nI (i + 2) := nI_add i 2
  have m2 : m_in (nI (i + 2)) X.1 = true := q_in (by omega) (by omega)
  have c2 : (nI (i + 2)).toNatClampNeg = i + 2 := q_cl (by omega)
  obtain ⟨v, g, g', σ', O', C', K', e1, e2⟩ := w_sure (X := X) (d := 989) C K O (X.2 (i + 1)) (X.2 (i + 2))
  refine ⟨g', σ', O', C', K', fun Q => ?_⟩
  simp only [u315_1499, u315_1500, u315_1501, u315_1502, u315_1503, u315_1504, u315_1505, u315_1506, u315_1507, u315_1508, u315_1509, u315_1510, eq_self, q_nl0, q_nlI, q_nlR, not_false_eq_true, q_nz0, q_nz1, q_zv0, q_zv1, q_tl1, q_tl0, q_wif, q_swc, q_swn, List.cons_append, List.nil_append, if_true, if_false, e10, e01, Bool.false_eq_true, sh_1, hX, m1, c1, a1, m2, c2, a2]
  refine (e1 _).trans ?_
  simp only [u315_1513, u315_1514, u315_1515, u315_1516, u315_1517, u315_1518, u315_1519, u315_1520, u315_1521, u315_1522, u315_1523, u315_1524, eq_self, q_nl0, q_nlI, q_nlR, not_false_eq_true, q_nz0, q_nz1, q_zv0, q_zv1, q_tl1, q_tl0, q_wif, q_swc, q_swn, List.cons_append, List.nil_append, if_true, if_false, e10, e01, Bool.false_eq_true, sh_195, hX, m1, c1, a1, m2, c2, a2]
  refine (e2 _).trans ?_
  simp only [u315_1527, eq_self, q_nl0, q_nlI, q_nlR, not_false_eq_true, q_nz0, q_nz1, q_zv0, q_zv1, q_tl1, q_tl0, q_wif, q_swc, q_swn, List.cons_append, List.nil_append, if_true, if_false, e10, e01, Bool.false_eq_true]
theorem t_50 (hX : Nat.blt X.1 4096 = true) (hi : i + 6 ≤ X.1) (C : CI h σ) (K : KI h σ) (O : OKs σ) : Nx X h i 1532 := by
  have hx : X.1 < 4096 := Nat.blt_eq.mp hX
  have a1 : nI i + 1 = nI (i + 1) := nI_add i 1
  have m1 : m_in (nI (i + 1)) X.1 = true := q_in (by omega) (by omega)
  have c1 : (nI (i + 1)).toNatClampNeg = i + 1 := q_cl (by omega)
  have a2 : nI i + 2 = nI (i + 2) := nI_add i 2
  have m2 : m_in (nI (i + 2)) X.1 = true := q_in (by omega) (by omega)
  have c2 : (nI (i + 2)).toNatClampNeg = i + 2 := q_cl (by omega)
  obtain ⟨v, g, g', σ', O', C', K', e1, e2⟩ := w_ask (X := X) (d := 989) C K O (X.2 (i + 1)) (X.2 (i + 2))
  refine ⟨g', σ', O', C', K', fun Q => ?_⟩
  simp only [u315_1532, u315_1533, u315_1534, u315_1535, u315_1536, u315_1537, u315_1538, u315_1539, u315_1540, u315_1541, u315_1542, u315_1543, eq_self, q_nl0, q_nlI, q_nlR, not_false_eq_true, q_nz0, q_nz1, q_zv0, q_zv1, q_tl1, q_tl0, q_wif, q_swc, q_swn, List.cons_append, List.nil_append, if_true, if_false, e10, e01, Bool.false_eq_true, sh_1, hX, m1, c1, a1, m2, c2, a2]
  refine (e1 _).trans ?_
  simp only [u315_1546, u315_1547, u315_1548, u315_1549, u315_1550, u315_1551, u315_1552, u315_1553, u315_1554, u315_1555, u315_1556, u315_1557, eq_self, q_nl0, q_nlI, q_nlR, not_false_eq_true, q_nz0, q_nz1, q_zv0, q_zv1, q_tl1, q_tl0, q_wif, q_swc, q_swn, List.cons_append, List.nil_append, if_true, if_false, e10, e01, Bool.false_eq_true, sh_195, hX, m1, c1, a1, m2, c2, a2]
  refine (e2 _).trans ?_
  simp only [u315_1560, eq_self, q_nl0, q_nlI, q_nlR, not_false_eq_true, q_nz0, q_nz1, q_zv0, q_zv1, q_tl1, q_tl0, q_wif, q_swc, q_swn, List.cons_append, List.nil_append, if_true, if_false, e10, e01, Bool.false_eq_true]
theorem t_51 (hX : Nat.blt X.1 4096 = true) (hi : i + 6 ≤ X.1) (C : CI h σ) (K : KI h σ) (O : OKs σ) : Nx X h i 1565 := by
  have hx : X.1 < 4096 := Nat.blt_eq.mp hX
  have a1 : nI i + 1 = nI (i + 1) := nI_add i 1
  have m1 : m_in (nI (i + 1)) X.1 = true := q_in (by omega) (by omega)
  have c1 : (nI (i + 1)).toNatClampNeg = i + 1 := q_cl (by omega)
  obtain ⟨v, g, g', σ', O', C', K', e1, e2⟩ := s_image (X := X) (d := 989) C K O (X.2 (i + 1))
  refine ⟨g', σ', O', C', K', fun Q => ?_⟩
  simp only [u315_1565, u315_1566, u315_1567, u315_1568, u315_1569, u315_1570, u315_1571, eq_self, q_nl0, q_nlI, q_nlR, not_false_eq_true, q_nz0, q_nz1, q_zv0, q_zv1, q_tl1, q_tl0, q_wif, q_swc, q_swn, List.cons_append, List.nil_append, if_true, if_false, e10, e01, Bool.false_eq_true, sh_1, hX, m1, c1, a1]
  refine (e1 _).trans ?_
  simp only [u315_1574, u315_1575, u315_1576, u315_1577, u315_1578, u315_1579, u315_1580, eq_self, q_nl0, q_nlI, q_nlR, not_false_eq_true, q_nz0, q_nz1, q_zv0, q_zv1, q_tl1, q_tl0, q_wif, q_swc, q_swn, List.cons_append, List.nil_append, if_true, if_false, e10, e01, Bool.false_eq_true, sh_195, hX, m1, c1, a1]
  refine (e2 _).trans ?_
  simp only [u315_1583, eq_self, q_nl0, q_nlI, q_nlR, not_false_eq_true, q_nz0, q_nz1, q_zv0, q_zv1, q_tl1, q_tl0, q_wif, q_swc, q_swn, List.cons_append, List.nil_append, if_true, if_false, e10, e01, Bool.false_eq_true]
theorem t_52 (hX : Nat.blt X.1 4096 = true) (hi : i + 6 ≤ X.1) (C : CI h σ) (K : KI h σ) (O : OKs σ) : Nx X h i 1588 := by
  have hx : X.1 < 4096 := Nat.blt_eq.mp hX
  have a1 : nI i + 1 = nI (i + 1) := nI_add i 1
  have m1 : m_in (nI (i + 1)) X.1 = true := q_in (by omega) (by omega)
  have c1 : (nI (i + 1)).toNatClampNeg = i + 1 := q_cl (by omega)
  obtain ⟨v, g, g', σ', O', C', K', e1, e2⟩ := s_back (X := X) (d := 989) C K O (X.2 (i + 1))
  refine ⟨g', σ', O', C', K', fun Q => ?_⟩
  simp only [u315_1588, u315_1589, u315_1590, u315_1591, u315_1592, u315_1593, u315_1594, eq_self, q_nl0, q_nlI, q_nlR, not_false_eq_true, q_nz0, q_nz1, q_zv0, q_zv1, q_tl1, q_tl0, q_wif, q_swc, q_swn, List.cons_append, List.nil_append, if_true, if_false, e10, e01, Bool.false_eq_true, sh_1, hX, m1, c1, a1]
  refine (e1 _).trans ?_
  simp only [u315_1597, u315_1598, u315_1599, u315_1600, u315_1601, u315_1602, u315_1603, eq_self, q_nl0, q_nlI, q_nlR, not_false_eq_true, q_nz0, q_nz1, q_zv0, q_zv1, q_tl1, q_tl0, q_wif, q_swc, q_swn, List.cons_append, List.nil_append, if_true, if_false, e10, e01, Bool.false_eq_true, sh_195, hX, m1, c1, a1]
  refine (e2 _).trans ?_
  simp only [u315_1606, eq_self, q_nl0, q_nlI, q_nlR, not_false_eq_true, q_nz0, q_nz1, q_zv0, q_zv1, q_tl1, q_tl0, q_wif, q_swc, q_swn, List.cons_append, List.nil_append, if_true, if_false, e10, e01, Bool.false_eq_true]
theorem t_53 (hX : Nat.blt X.1 4096 = true) (hi : i + 6 ≤ X.1) (C : CI h σ) (K : KI h σ) (O : OKs σ) : Nx X h i 1611 := by
  have hx : X.1 < 4096 := Nat.blt_eq.mp hX
  have a1 : nI i + 1 = nI (i + 1) := nI_add i 1
  have m1 : m_in (nI (i + 1)) X.1 = true := q_in (by omega) (by omega)
  have c1 : (nI (i + 1)).toNatClampNeg = i + 1 := q_cl (by omega)
  obtain ⟨v, g, g', σ', O', C', K', e1, e2⟩ := s_about (X := X) (d := 989) C K O (X.2 (i + 1))
  refine ⟨g', σ', O', C', K', fun Q => ?_⟩
  simp only [u315_1611, u315_1612, u315_1613, u315_1614, u315_1615, u315_1616, u315_1617, eq_self, q_nl0, q_nlI, q_nlR, not_false_eq_true, q_nz0, q_nz1, q_zv0, q_zv1, q_tl1, q_tl0, q_wif, q_swc, q_swn, List.cons_append, List.nil_append, if_true, if_false, e10, e01, Bool.false_eq_true, sh_1, hX, m1, c1, a1]
  refine (e1 _).trans ?_
  simp only [u315_1620, u315_1621, u315_1622, u315_1623, u315_1624, u315_1625, u315_1626, eq_self, q_nl0, q_nlI, q_nlR, not_false_eq_true, q_nz0, q_nz1, q_zv0, q_zv1, q_tl1, q_tl0, q_wif, q_swc, q_swn, List.cons_append, List.nil_append, if_true, if_false, e10, e01, Bool.false_eq_true, sh_195, hX, m1, c1, a1]
  refine (e2 _).trans ?_
  simp only [u315_1629, eq_self, q_nl0, q_nlI, q_nlR, not_false_eq_true, q_nz0, q_nz1, q_zv0, q_zv1, q_tl1, q_tl0, q_wif, q_swc, q_swn, List.cons_append, List.nil_append, if_true, if_false, e10, e01, Bool.false_eq_true]
end CASES
