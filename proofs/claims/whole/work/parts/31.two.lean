/-! the model's sums of two -/
theorem k_two {X : XT} {d k : Nat} {h : HT} {Q : QT} {x y : Int32} (hk : k ∈ fBins) : wq X d 235 0 [some (.int (nI k)), some (.int x), some (.int y)] [] h Q = Q (some (.int (fJoin k x y))) h := by
  simp only [u235_0, u235_1, q_swc, q_swn]
  have hk' : k = 124 ∨ k = 38 ∨ k = 60 ∨ k = 62 ∨ k = 61 ∨ k = 43 ∨ k = 45 ∨ k = 42 ∨ k = 47 ∨ k = 37 := by
    simpa [fBins] using hk
  rcases hk' with z | z | z | z | z | z | z | z | z | z <;> subst z
  · rw [show (nI 124).toInt = 124 from rfl]
    simp only [u235_203, u235_204, u235_207, u235_208, u235_211, u235_212, u235_215, u235_216, eq_self, q_nl0, q_nlI, q_nlR, not_false_eq_true, q_nz0, q_nz1, q_zv0, q_zv1, q_tl1, q_tl0, q_wif, q_swc, q_swn, List.cons_append, List.nil_append, Int.reduceEq, if_false, if_true]
    rw [show fJoin 124 x y = if x = 0 then if y = 0 then 0 else 1 else 1 from rfl]
    split
    · split <;> rfl
    · rfl
  · rw [show (nI 38).toInt = 38 from rfl]
    simp only [u235_189, u235_190, u235_193, u235_194, u235_197, u235_198, u235_201, u235_202, eq_self, q_nl0, q_nlI, q_nlR, not_false_eq_true, q_nz0, q_nz1, q_zv0, q_zv1, q_tl1, q_tl0, q_wif, q_swc, q_swn, List.cons_append, List.nil_append, Int.reduceEq, if_false, if_true]
    rw [show fJoin 38 x y = if x = 0 then 0 else if y = 0 then 0 else 1 from rfl]
    split
    · rfl
    · split <;> rfl
  · rw [show (nI 60).toInt = 60 from rfl]
    simp only [u235_156, u235_157, u235_158, u235_161, u235_162, u235_165, u235_166, eq_self, q_nl0, q_nlI, q_nlR, not_false_eq_true, q_nz0, q_nz1, q_zv0, q_zv1, q_tl1, q_tl0, q_wif, q_swc, q_swn, List.cons_append, List.nil_append, Int.reduceEq, if_false, if_true]
    rw [show fJoin 60 x y = if x < y then 1 else 0 from rfl]
    split <;> rfl
  · rw [show (nI 62).toInt = 62 from rfl]
    simp only [u235_167, u235_168, u235_169, u235_172, u235_173, u235_176, u235_177, eq_self, q_nl0, q_nlI, q_nlR, not_false_eq_true, q_nz0, q_nz1, q_zv0, q_zv1, q_tl1, q_tl0, q_wif, q_swc, q_swn, List.cons_append, List.nil_append, Int.reduceEq, if_false, if_true]
    rw [show fJoin 62 x y = if y < x then 1 else 0 from rfl]
    split <;> rfl
  · rw [show (nI 61).toInt = 61 from rfl]
    simp only [u235_178, u235_179, u235_180, u235_183, u235_184, u235_187, u235_188, eq_self, q_nl0, q_nlI, q_nlR, not_false_eq_true, q_nz0, q_nz1, q_zv0, q_zv1, q_tl1, q_tl0, q_wif, q_swc, q_swn, List.cons_append, List.nil_append, Int.reduceEq, if_false, if_true]
    rw [show fJoin 61 x y = if x = y then 1 else 0 from rfl]
    split <;> rfl
  · rw [show (nI 43).toInt = 43 from rfl]
    simp only [u235_120, u235_121, u235_122, u235_123, eq_self, q_nl0, q_nlI, q_nlR, not_false_eq_true, q_nz0, q_nz1, q_zv0, q_zv1, q_tl1, q_tl0, q_wif, q_swc, q_swn, List.cons_append, List.nil_append, Int.reduceEq, if_false, if_true]
    rfl
  · rw [show (nI 45).toInt = 45 from rfl]
    simp only [u235_124, u235_125, u235_126, u235_127, eq_self, q_nl0, q_nlI, q_nlR, not_false_eq_true, q_nz0, q_nz1, q_zv0, q_zv1, q_tl1, q_tl0, q_wif, q_swc, q_swn, List.cons_append, List.nil_append, Int.reduceEq, if_false, if_true]
    rfl
  · rw [show (nI 42).toInt = 42 from rfl]
    simp only [u235_128, u235_129, u235_130, u235_131, eq_self, q_nl0, q_nlI, q_nlR, not_false_eq_true, q_nz0, q_nz1, q_zv0, q_zv1, q_tl1, q_tl0, q_wif, q_swc, q_swn, List.cons_append, List.nil_append, Int.reduceEq, if_false, if_true]
    rfl
  · rw [show (nI 47).toInt = 47 from rfl]
    rw [show fJoin 47 x y = if y = 0 then 0 else x / y from rfl]
    by_cases hy : y = 0
    · simp only [u235_132, u235_133, u235_136, u235_137, u235_143, eq_self, q_nl0, q_nlI, q_nlR, not_false_eq_true, q_nz0, q_nz1, q_zv0, q_zv1, q_tl1, q_tl0, q_wif, q_swc, q_swn, List.cons_append, List.nil_append, Int.reduceEq, if_false, if_true, hy]
    · simp only [u235_132, u235_133, u235_136, u235_137, u235_140, u235_141, u235_142, u235_143, eq_self, q_nl0, q_nlI, q_nlR, not_false_eq_true, q_nz0, q_nz1, q_zv0, q_zv1, q_tl1, q_tl0, q_wif, q_swc, q_swn, List.cons_append, List.nil_append, Int.reduceEq, if_false, if_true, hy]
  · rw [show (nI 37).toInt = 37 from rfl]
    rw [show fJoin 37 x y = if y = 0 then 0 else x - x / y * y from rfl]
    by_cases hy : y = 0
    · simp only [u235_144, u235_145, u235_148, u235_149, u235_155, eq_self, q_nl0, q_nlI, q_nlR, not_false_eq_true, q_nz0, q_nz1, q_zv0, q_zv1, q_tl1, q_tl0, q_wif, q_swc, q_swn, List.cons_append, List.nil_append, Int.reduceEq, if_false, if_true, hy]
    · simp only [u235_144, u235_145, u235_148, u235_149, u235_152, u235_153, u235_154, u235_155, eq_self, q_nl0, q_nlI, q_nlR, not_false_eq_true, q_nz0, q_nz1, q_zv0, q_zv1, q_tl1, q_tl0, q_wif, q_swc, q_swn, List.cons_append, List.nil_append, Int.reduceEq, if_false, if_true, hy]
theorem k_isLetter {X : XT} {d k : Nat} {h : HT} {Q : QT} (hk : k ∈ fOps ∨ k ∈ fBins) : wq X d 193 0 [some (.int (nI k))] [] h Q = Q (some (.int (if k ∈ fOps then 1 else 0))) h := by
  simp only [u193_0, u193_1, u193_3, u193_6, u193_7, u193_9, u193_12, u193_13, u193_16, u193_17, eq_self, q_nl0, q_nlI, q_nlR, not_false_eq_true, q_nz0, q_nz1, q_zv0, q_zv1, q_tl1, q_tl0, q_wif, q_swc, q_swn, List.cons_append, List.nil_append]
  rcases hk with z | z
  · have : ∀ k ∈ fOps, ¬ nI k < 97 ∧ ¬ 122 < nI k := by decide
    rw [if_neg (this k z).1, if_neg (this k z).2, if_pos z]
  · have : ∀ k ∈ fBins, (nI k < 97 ∨ 122 < nI k) ∧ k ∉ fOps := by decide
    rw [if_neg (this k z).2]
    rcases (this k z).1 with w | w
    · rw [if_pos w]
    · split
      · rfl
      · rfl
theorem k_everybody {X : XT} {d b : Nat} {h : HT} {Q : QT} {τ : CT} (H : MTown h b τ) : wq X (d + 1) 241 0 [some (.ref 195)] [] h Q = Q (some (.int (nI (sAll τ)))) h := by
  have h7 := o_mn (mt_ok H)
  simp only [u241_0, u241_1, u241_2, u241_5, u241_6, u241_7, u241_8, eq_self, q_nl0, q_nlI, q_nlR, not_false_eq_true, q_nz0, q_nz1, q_zv0, q_zv1, q_tl1, q_tl0, q_wif, q_swc, q_swn, List.cons_append, List.nil_append, sh_195, k_many H, nI_all (τ 0 1) (by omega)]
  rfl
