/-! THE LAW'S DAY, walked -/
/-- days of those who are out go on, one by one; those who go are set to 0 -/
def muL (v : Nat → Int32) (s i : Nat) : Nat → Int32 := fun k => if 7 ≤ k ∧ k < 7 + i then (if s.testBit (k - 7) = true then v k else 0) else v k
theorem aAgeL_up {A : Nat → Int32} {g i : Nat} : aAgeL A g (i + 1) = up (aAgeL A g i) (7 + i) (A (7 + i) + if g.testBit i = true then 1 else 0) := by
  funext k
  show (if 7 ≤ k ∧ k < 7 + (i + 1) ∧ g.testBit (k - 7) = true then A k + 1 else A k) = if k = 7 + i then _ else (if 7 ≤ k ∧ k < 7 + i ∧ g.testBit (k - 7) = true then A k + 1 else A k)
  by_cases y : k = 7 + i
  · rw [if_pos y, y, show 7 + i - 7 = i by omega]
    by_cases z : g.testBit i = true
    · rw [if_pos ⟨by omega, by omega, z⟩, if_pos z]
    · rw [if_neg (fun w => z w.2.2), if_neg z, Int32.add_zero]
  · rw [if_neg y]
    by_cases x : 7 ≤ k ∧ k < 7 + i ∧ g.testBit (k - 7) = true
    · rw [if_pos x, if_pos ⟨x.1, by omega, x.2.2⟩]
    · rw [if_neg x, if_neg (fun w => x ⟨w.1, by omega, w.2.2⟩)]
theorem muL_up {v : Nat → Int32} {s i : Nat} : muL v s (i + 1) = up (muL v s i) (7 + i) (v (7 + i) * if s.testBit i = true then 1 else 0) := by
  funext k
  show (if 7 ≤ k ∧ k < 7 + (i + 1) then (if s.testBit (k - 7) = true then v k else 0) else v k) = if k = 7 + i then _ else (if 7 ≤ k ∧ k < 7 + i then (if s.testBit (k - 7) = true then v k else 0) else v k)
  by_cases y : k = 7 + i
  · rw [if_pos y, y, show 7 + i - 7 = i by omega, if_pos ⟨by omega, by omega⟩]
    by_cases z : s.testBit i = true
    · rw [if_pos z, if_pos z, Int32.mul_one]
    · rw [if_neg z, if_neg z, Int32.mul_zero]
  · rw [if_neg y]
    by_cases x : 7 ≤ k ∧ k < 7 + i
    · rw [if_pos x, if_pos ⟨x.1, by omega⟩]
    · rw [if_neg x, if_neg (fun w => x ⟨w.1, by omega⟩)]
section LDAY
variable {X : XT} {d b N : Nat} {h : HT} {τ : CT} {A : Nat → Int32}
theorem ld_eat (hX : X.2 100000 ≠ 0) (T : TR h τ b) (L : LB τ b) {g : Nat} {was : Int32} (hg : g < 128) (h14 : A 14 = nI g) (lv : LV τ A) (Q : QT) : wq X (d + 5) 188 19 [some (.ref 195), some (.ref 196), some (.int was), some (.int (nI 0)), none] [] (hC h 196 A) Q = wq X (d + 5) 188 56 [some (.ref 195), some (.ref 196), some (.int was), some (.int (nI (τ 0 1))), none] [] (hC h 196 (aEatL A g (τ 0 1))) Q := by
  have h5 := L.2.2.1
  have s6 : m_sh (KS X) 196 = (20, 21) := sh_196 hX
  have hm : ∀ v, m_gI (hC h 196 v) 195 1 = nI (τ 0 1) := fun v => (TR_hC (v := v) T).1.2.1
  refine Eq.trans (b := wq X (d + 5) 188 19 [some (.ref 195), some (.ref 196), some (.int was), some (.int (nI 0)), none] [] (hC h 196 (aEatL A g 0)) Q) (by rw [aEatL_0]) ?_
  refine (q_loop (fun i => wq X (d + 5) 188 19 [some (.ref 195), some (.ref 196), some (.int was), some (.int (nI i)), none] [] (hC h 196 (aEatL A g i)) Q) (τ 0 1) ?_).trans ?_
  · intro i hi
    have f1 : (nI i < nI (τ 0 1)) = True := eq_true (nI_lt hi (by omega))
    have c1 : m_in (nI i) 21 = true := c_in (by omega)
    have c2 : (nI i).toNatClampNeg = i := c_cl (by omega)
    have g14 : m_gI (hC h 196 (aEatL A g i)) 196 14 = nI g := by
      rw [gI_hC, aEatL_ge (by omega), h14]
    have gi : m_gI (hC h 196 (aEatL A g i)) 196 i = A i := by
      rw [gI_hC, aEatL_ge (Nat.le_refl i)]
    have hb := bit_i hg (show i < 8 by omega)
    obtain ⟨l, hl, el⟩ := lv i hi
    have em := max_1 hl
    rw [← el] at em
    show wq X (d + 5) 188 19 _ _ _ _ = _
    rw [u188_19, aEatL_up]
    by_cases z : g.testBit i = true
    · simp only [u188_20, u188_21, u188_22, u188_23, u188_26, u188_27, u188_29, u188_30, u188_31, u188_32, u188_33, u188_34, u188_35, u188_38, u188_39, u188_40, u188_41, u188_42, u188_43, u188_44, u188_45, u188_46, u188_49, u188_50, u188_53, eq_self, q_nl0, q_nlI, q_nlR, not_false_eq_true, q_nz0, q_nz1, q_zv0, q_zv1, q_tl1, q_tl0, q_wif, q_swc, q_swn, List.cons_append, List.nil_append, if_true, if_false, e10, e01, Bool.false_eq_true, sh_195, s6, t_in1, t_cl1, hm, f1, c_in14, cl14, g14, hb, z, c1, c2, gi, em, sI_hC, nI_1, true_and]
      by_cases y : 0 < A i
      · simp only [y, if_true]
      · simp only [y, if_false]
        rw [up_same (aEatL_ge (Nat.le_refl i))]
    · simp only [u188_20, u188_21, u188_22, u188_23, u188_26, u188_27, u188_29, u188_30, u188_31, u188_32, u188_33, u188_34, u188_35, u188_38, u188_39, u188_40, u188_41, u188_42, u188_43, u188_44, u188_45, u188_46, u188_49, u188_50, u188_53, eq_self, q_nl0, q_nlI, q_nlR, not_false_eq_true, q_nz0, q_nz1, q_zv0, q_zv1, q_tl1, q_tl0, q_wif, q_swc, q_swn, List.cons_append, List.nil_append, if_true, if_false, e10, e01, Bool.false_eq_true, sh_195, s6, t_in1, t_cl1, hm, f1, c_in14, cl14, g14, hb, z, nI_1, false_and]
  · rw [u188_19]
    simp only [u188_20, u188_21, u188_22, u188_23, eq_self, q_nl0, q_nlI, q_nlR, not_false_eq_true, q_nz0, q_nz1, q_zv0, q_zv1, q_tl1, q_tl0, q_wif, q_swc, q_swn, List.cons_append, List.nil_append, if_true, if_false, e10, e01, Bool.false_eq_true, sh_195, t_in1, t_cl1, hm, eq_false (nI_nlt (Nat.le_refl (τ 0 1)) (show τ 0 1 < 2 ^ 31 by omega))]
theorem ld_age (hX : X.2 100000 ≠ 0) (T : TR h τ b) (L : LB τ b) {g : Nat} {was : Int32} {s : Int32} (hg : g < 128) (h14 : A 14 = nI g) (Q : QT) : wq X (d + 5) 188 151 [some (.ref 195), some (.ref 196), some (.int was), some (.int s), some (.int (nI 0))] [] (hC h 196 A) Q = wq X (d + 5) 188 184 [some (.ref 195), some (.ref 196), some (.int was), some (.int s), some (.int (nI (τ 0 1)))] [] (hC h 196 (aAgeL A g (τ 0 1))) Q := by
  have h5 := L.2.2.1
  have s6 : m_sh (KS X) 196 = (20, 21) := sh_196 hX
  have hm : ∀ v, m_gI (hC h 196 v) 195 1 = nI (τ 0 1) := fun v => (TR_hC (v := v) T).1.2.1
  have z0 : aAgeL A g 0 = A := funext fun k => if_neg (by omega)
  refine Eq.trans (b := wq X (d + 5) 188 151 [some (.ref 195), some (.ref 196), some (.int was), some (.int s), some (.int (nI 0))] [] (hC h 196 (aAgeL A g 0)) Q) (by rw [z0]) ?_
  refine (q_loop (fun i => wq X (d + 5) 188 151 [some (.ref 195), some (.ref 196), some (.int was), some (.int s), some (.int (nI i))] [] (hC h 196 (aAgeL A g i)) Q) (τ 0 1) ?_).trans ?_
  · intro i hi
    have f1 : (nI i < nI (τ 0 1)) = True := eq_true (nI_lt hi (by omega))
    have c1 : m_in (nI (7 + i)) 21 = true := c_in (by omega)
    have c2 : (nI (7 + i)).toNatClampNeg = 7 + i := c_cl (by omega)
    have g14 : m_gI (hC h 196 (aAgeL A g i)) 196 14 = nI g := by
      rw [gI_hC, show aAgeL A g i 14 = A 14 from if_neg (by omega), h14]
    have gi : m_gI (hC h 196 (aAgeL A g i)) 196 (7 + i) = A (7 + i) := by
      rw [gI_hC]
      exact if_neg (by omega)
    have hb := bit_i hg (show i < 8 by omega)
    show wq X (d + 5) 188 151 _ _ _ _ = _
    rw [u188_151, aAgeL_up]
    simp only [u188_153, u188_154, u188_155, u188_156, u188_159, u188_160, u188_162, u188_164, u188_165, u188_166, u188_167, u188_168, u188_170, u188_171, u188_173, u188_174, u188_175, u188_176, u188_177, u188_178, u188_181, eq_self, q_nl0, q_nlI, q_nlR, not_false_eq_true, q_nz0, q_nz1, q_zv0, q_zv1, q_tl1, q_tl0, q_wif, q_swc, q_swn, List.cons_append, List.nil_append, if_true, if_false, e10, e01, Bool.false_eq_true, sh_195, s6, t_in1, t_cl1, hm, f1, l_a7, c_in14, cl14, g14, hb, c1, c2, gi, sI_hC, nI_1]
  · rw [u188_151]
    simp only [u188_153, u188_154, u188_155, u188_156, eq_self, q_nl0, q_nlI, q_nlR, not_false_eq_true, q_nz0, q_nz1, q_zv0, q_zv1, q_tl1, q_tl0, q_wif, q_swc, q_swn, List.cons_append, List.nil_append, if_true, if_false, e10, e01, Bool.false_eq_true, sh_195, t_in1, t_cl1, hm, eq_false (nI_nlt (Nat.le_refl (τ 0 1)) (show τ 0 1 < 2 ^ 31 by omega))]
theorem ld_stay (hX : X.2 100000 ≠ 0) (T : TR h τ b) (L : LB τ b) {g : Nat} {was : Int32} (hg : g < 128) (h14 : A 14 = nI g) (Q : QT) : wq X (d + 5) 188 187 [some (.ref 195), some (.ref 196), some (.int was), some (.int (nI 0)), some (.int (nI 0))] [] (hC h 196 A) Q = wq X (d + 5) 188 235 [some (.ref 195), some (.ref 196), some (.int was), some (.int (nI (stL τ A g (τ 0 1)))), some (.int (nI (τ 0 1)))] [] (hC h 196 A) Q := by
  have h5 := L.2.2.1
  have s6 : m_sh (KS X) 196 = (20, 21) := sh_196 hX
  have hm : ∀ v, m_gI (hC h 196 v) 195 1 = nI (τ 0 1) := fun v => (TR_hC (v := v) T).1.2.1
  refine (q_loop (fun i => wq X (d + 5) 188 187 [some (.ref 195), some (.ref 196), some (.int was), some (.int (nI (stL τ A g i))), some (.int (nI i))] [] (hC h 196 A) Q) (τ 0 1) ?_).trans ?_
  · intro i hi
    have f1 : (nI i < nI (τ 0 1)) = True := eq_true (nI_lt hi (by omega))
    have g14 : m_gI (hC h 196 A) 196 14 = nI g := gI_hC.trans h14
    have hb := bit_i hg (show i < 8 by omega)
    have es : stL τ A g (i + 1) = if g.testBit i = true ∧ sGoes τ g (A i) (A (7 + i)) i = false then stL τ A g i ||| 2 ^ i else stL τ A g i := rfl
    show wq X (d + 5) 188 187 _ _ _ _ = _
    rw [u188_187, es]
    by_cases z : g.testBit i = true
    · have hbk := fun (Q : QT) => l_back (X := X) (d := d + 1) (h := hC h 196 A) (v := A) hX (TR_hC T) L (funext fun k => gI_hC) h14 hg hi z Q
      have hl := L.2.2.2.2.2 g hg (A i) (A (7 + i)) i hi z
      rw [← hl] at hbk
      simp only [u188_189, u188_190, u188_191, u188_192, u188_195, u188_196, u188_197, u188_199, u188_200, u188_202, u188_203, u188_204, u188_205, u188_206, u188_209, u188_210, u188_211, u188_213, u188_216, u188_219, u188_220, u188_222, u188_223, u188_226, u188_227, u188_228, u188_229, u188_232, eq_self, q_nl0, q_nlI, q_nlR, not_false_eq_true, q_nz0, q_nz1, q_zv0, q_zv1, q_tl1, q_tl0, q_wif, q_swc, q_swn, List.cons_append, List.nil_append, if_true, if_false, e10, e01, Bool.false_eq_true, sh_195, s6, t_in1, t_cl1, hm, f1, c_in14, cl14, g14, hb, z, hbk, true_and]
      by_cases y : sGoes τ g (A i) (A (7 + i)) i = true
      · simp only [y, if_true, e10, if_false, Bool.true_eq_false, Int32.or_zero, nI_1]
      · have y' : sGoes τ g (A i) (A (7 + i)) i = false := by simpa using y
        simp only [y', if_true, if_false, Bool.false_eq_true, nI_sh i (show i < 8 by omega), nI_or, nI_1]
    · simp only [u188_189, u188_190, u188_191, u188_192, u188_195, u188_196, u188_197, u188_199, u188_200, u188_202, u188_203, u188_204, u188_205, u188_206, u188_209, u188_210, u188_211, u188_213, u188_216, u188_219, u188_220, u188_222, u188_223, u188_226, u188_227, u188_228, u188_229, u188_232, eq_self, q_nl0, q_nlI, q_nlR, not_false_eq_true, q_nz0, q_nz1, q_zv0, q_zv1, q_tl1, q_tl0, q_wif, q_swc, q_swn, List.cons_append, List.nil_append, if_true, if_false, e10, e01, Bool.false_eq_true, sh_195, s6, t_in1, t_cl1, hm, f1, c_in14, cl14, g14, hb, z, Int32.or_zero, nI_1, false_and]
  · rw [u188_187]
    simp only [u188_189, u188_190, u188_191, u188_192, eq_self, q_nl0, q_nlI, q_nlR, not_false_eq_true, q_nz0, q_nz1, q_zv0, q_zv1, q_tl1, q_tl0, q_wif, q_swc, q_swn, List.cons_append, List.nil_append, if_true, if_false, e10, e01, Bool.false_eq_true, sh_195, t_in1, t_cl1, hm, eq_false (nI_nlt (Nat.le_refl (τ 0 1)) (show τ 0 1 < 2 ^ 31 by omega))]
theorem ld_mul (hX : X.2 100000 ≠ 0) (T : TR h τ b) (L : LB τ b) {s : Nat} {was : Int32} (hs : s < 128) (Q : QT) : wq X (d + 5) 188 243 [some (.ref 195), some (.ref 196), some (.int was), some (.int (nI s)), some (.int (nI 0))] [] (hC h 196 A) Q = wq X (d + 5) 188 273 [some (.ref 195), some (.ref 196), some (.int was), some (.int (nI s)), some (.int (nI (τ 0 1)))] [] (hC h 196 (muL A s (τ 0 1))) Q := by
  have h5 := L.2.2.1
  have s6 : m_sh (KS X) 196 = (20, 21) := sh_196 hX
  have hm : ∀ v, m_gI (hC h 196 v) 195 1 = nI (τ 0 1) := fun v => (TR_hC (v := v) T).1.2.1
  have z0 : muL A s 0 = A := funext fun k => if_neg (by omega)
  refine Eq.trans (b := wq X (d + 5) 188 243 [some (.ref 195), some (.ref 196), some (.int was), some (.int (nI s)), some (.int (nI 0))] [] (hC h 196 (muL A s 0)) Q) (by rw [z0]) ?_
  refine (q_loop (fun i => wq X (d + 5) 188 243 [some (.ref 195), some (.ref 196), some (.int was), some (.int (nI s)), some (.int (nI i))] [] (hC h 196 (muL A s i)) Q) (τ 0 1) ?_).trans ?_
  · intro i hi
    have f1 : (nI i < nI (τ 0 1)) = True := eq_true (nI_lt hi (by omega))
    have c1 : m_in (nI (7 + i)) 21 = true := c_in (by omega)
    have c2 : (nI (7 + i)).toNatClampNeg = 7 + i := c_cl (by omega)
    have gi : m_gI (hC h 196 (muL A s i)) 196 (7 + i) = A (7 + i) := by
      rw [gI_hC]
      exact if_neg (by omega)
    have hb := bit_i hs (show i < 8 by omega)
    show wq X (d + 5) 188 243 _ _ _ _ = _
    rw [u188_243, muL_up]
    simp only [u188_245, u188_246, u188_247, u188_248, u188_251, u188_252, u188_254, u188_256, u188_257, u188_258, u188_259, u188_260, u188_262, u188_263, u188_264, u188_265, u188_266, u188_267, u188_270, eq_self, q_nl0, q_nlI, q_nlR, not_false_eq_true, q_nz0, q_nz1, q_zv0, q_zv1, q_tl1, q_tl0, q_wif, q_swc, q_swn, List.cons_append, List.nil_append, if_true, if_false, e10, e01, Bool.false_eq_true, sh_195, s6, t_in1, t_cl1, hm, f1, l_a7, hb, c1, c2, gi, sI_hC, nI_1]
  · rw [u188_243]
    simp only [u188_245, u188_246, u188_247, u188_248, eq_self, q_nl0, q_nlI, q_nlR, not_false_eq_true, q_nz0, q_nz1, q_zv0, q_zv1, q_tl1, q_tl0, q_wif, q_swc, q_swn, List.cons_append, List.nil_append, if_true, if_false, e10, e01, Bool.false_eq_true, sh_195, t_in1, t_cl1, hm, eq_false (nI_nlt (Nat.le_refl (τ 0 1)) (show τ 0 1 < 2 ^ 31 by omega))]
theorem up_swap {f : Nat → Int32} {j k : Nat} {v w : Int32} (n : j ≠ k) : up (up f j v) k w = up (up f k w) j v := by
  funext i
  show (if i = k then w else if i = j then v else f i) = if i = j then v else if i = k then w else f i
  by_cases y : i = k
  · rw [if_pos y, if_neg (fun e => n (e.symm.trans y)), if_pos y]
  · rw [if_neg y, if_neg y]
/-- the row behind its foe -/
def w20 (τ : CT) (A : Nat → Int32) (g : Nat) : Nat → Int32 := up (aFoe τ A g) 20 (nI (nOd τ g))
theorem w20_o {τ : CT} {A : Nat → Int32} {g k : Nat} (h : k ≠ 20) : w20 τ A g k = aFoe τ A g k := if_neg h
theorem ld_mid (hX : X.2 100000 ≠ 0) (T : TR h τ b) (L : LB τ b) {g : Nat} {was : Int32} {s : Int32} (hg : g < 128) (Q : QT) : wq X (d + 5) 188 56 [some (.ref 195), some (.ref 196), some (.int was), some (.int s), none] [] (hC h 196 (aEatL (aWalk A g) g (τ 0 1))) Q = wq X (d + 5) 188 151 [some (.ref 195), some (.ref 196), some (.int was), some (.int (nI 0)), some (.int (nI 0))] [] (hC h 196 (w20 τ A g)) Q := by
  have h5 := L.2.2.1
  have s6 : m_sh (KS X) 196 = (20, 21) := sh_196 hX
  have hT : ∀ v, TR (hC h 196 v) τ b := fun v => TR_hC T
  have n1 : (¬ (1000 : Int32) = 0) := by decide
  have n2 : (¬ (100 : Int32) = 0) := by decide
  obtain ⟨E, hE⟩ : ∃ E, E = aEatL (aWalk A g) g (τ 0 1) := ⟨_, rfl⟩
  have a14 : E 14 = nI g := by rw [hE]; exact (aEatL_ge (by omega)).trans up_s
  have a16 : E 16 = A 16 := by rw [hE]; exact (aEatL_ge (by omega)).trans (aWalk_v (by decide))
  have a17 : E 17 = A 17 := by rw [hE]; exact (aEatL_ge (by omega)).trans (aWalk_v (by decide))
  have a19 : E 19 = A 19 := by rw [hE]; exact (aEatL_ge (by omega)).trans (aWalk_v (by decide))
  have eM : aMid τ A g = up (up E 16 (A 16 + nI (sLoss τ g))) 19 (aSeed A) := by rw [hE]; rfl
  have es : A 19 * 137 + 71 - (A 19 * 137 + 71) / 1000 * 1000 = aSeed A := by
    unfold aSeed
    rw [Int32.mul_comm (A 19) 137]
  have ll := fun (v : Nat → Int32) (Q : QT) => l_loss (X := X) (d := d + 1) (h := hC h 196 v) (hT v) L hg Q
  have lb := fun (v : Nat → Int32) (Q : QT) => l_brief (X := X) (d := d + 2) (h := hC h 196 v) (hT v) L hg Q
  have hs := s128 L.1 g
  have mo := min_odd L.1 g
  have t4 : ∀ v, m_gI (hC h 196 v) 195 4 = nI (τ 0 3) := fun v => (hT v).1.2.2.2.2.1
  have t5 : ∀ v, m_gI (hC h 196 v) 195 5 = nI (τ 0 4) := fun v => (hT v).1.2.2.2.2.2.1
  have u19 : ∀ x, up E 16 x 19 = A 19 := fun x => (up_o (by decide)).trans a19
  have m14 : aMid τ A g 14 = nI g := by rw [eM, up_o (by decide), up_o (by decide), a14]
  have m16 : aMid τ A g 16 = A 16 + nI (sLoss τ g) := by rw [eM, up_o (by decide), up_s]
  have m17 : aMid τ A g 17 = A 17 := by rw [eM, up_o (by decide), up_o (by decide), a17]
  have m19 : aMid τ A g 19 = aSeed A := by rw [eM, up_s]
  have v19 : ∀ x, up (aMid τ A g) 20 x 19 = aSeed A := fun x => (up_o (by decide)).trans m19
  have v16 : ∀ x, up (aMid τ A g) 20 x 16 = A 16 + nI (sLoss τ g) := fun x => (up_o (by decide)).trans m16
  have v17 : ∀ x y, up (up (aMid τ A g) 20 x) 16 y 17 = A 17 := fun x y => (up_o (by decide)).trans ((up_o (by decide)).trans m17)
  rw [← hE]
  have st1 : wq X (d + 5) 188 56 [some (.ref 195), some (.ref 196), some (.int was), some (.int s), none] [] (hC h 196 E) Q = wq X (d + 5) 188 90 [some (.ref 195), some (.ref 196), some (.int was), some (.int s), none] [] (hC h 196 (aMid τ A g)) Q := by
    rw [eM]
    simp only [u188_56, u188_57, u188_59, u188_60, u188_61, u188_62, u188_63, u188_65, u188_66, u188_69, u188_70, u188_71, u188_72, u188_74, u188_75, u188_77, u188_78, u188_81, u188_82, u188_84, u188_85, u188_88, u188_89, eq_self, q_nl0, q_nlI, q_nlR, not_false_eq_true, q_nz0, q_nz1, q_zv0, q_zv1, q_tl1, q_tl0, q_wif, q_swc, q_swn, List.cons_append, List.nil_append, if_true, if_false, e10, e01, Bool.false_eq_true, sh_195, s6, c_in16, cl16, c_in14, cl14, c_in19, cl19, gI_hC, sI_hC, a16, a14, u19, ll, es, n1, not_false_eq_true]
  rw [st1]
  simp only [u188_90, u188_91, u188_93, u188_95, u188_96, u188_97, u188_98, u188_99, u188_100, u188_102, u188_103, u188_106, u188_109, u188_110, u188_113, u188_114, u188_115, u188_117, u188_118, u188_120, u188_121, u188_122, u188_124, u188_125, eq_self, q_nl0, q_nlI, q_nlR, not_false_eq_true, q_nz0, q_nz1, q_zv0, q_zv1, q_tl1, q_tl0, q_wif, q_swc, q_swn, List.cons_append, List.nil_append, if_true, if_false, e10, e01, Bool.false_eq_true, sh_195, s6, c_in14, cl14, c_in19, cl19, c_in20, cl20, gI_hC, sI_hC, m14, v19, up_s, n2, not_false_eq_true, t_in4, t_cl4, t4, lb, c_bitCount hs, pk_mul, mo]
  unfold w20 aFoe
  rw [sOdd_n L.1 g]
  by_cases z : aSeed A - aSeed A / 100 * 100 < nI (nOd τ g)
  · rw [if_pos z, if_pos z]
    simp only [u188_128, u188_129, u188_131, u188_132, u188_133, u188_134, u188_135, u188_136, u188_137, u188_138, u188_139, u188_141, u188_142, u188_143, u188_144, u188_145, u188_146, u188_147, u188_148, u188_149, eq_self, q_nl0, q_nlI, q_nlR, not_false_eq_true, q_nz0, q_nz1, q_zv0, q_zv1, q_tl1, q_tl0, q_wif, q_swc, q_swn, List.cons_append, List.nil_append, if_true, if_false, e10, e01, Bool.false_eq_true, sh_195, s6, c_in16, cl16, c_in17, cl17, gI_hC, sI_hC, v16, v17, t_in5, t_cl5, t5]
    rw [up_swap (j := 20) (k := 16) (by decide), up_swap (j := 20) (k := 17) (by decide)]
    rfl
  · rw [if_neg z, if_neg z]
    simp only [u188_146, u188_147, u188_148, u188_149, eq_self, q_nl0, q_nlI, q_nlR, not_false_eq_true, q_nz0, q_nz1, q_zv0, q_zv1, q_tl1, q_tl0, q_wif, q_swc, q_swn, List.cons_append, List.nil_append, if_true, if_false, e10, e01, Bool.false_eq_true]
    rfl
/-- day(t, c): what it costs, and the row is that of the next day -/
theorem l_day (hX : X.2 100000 ≠ 0) (T : TR h τ b) (L : LB τ b) (K : aOk τ N A) (lv : LV τ A) (hA : m_gI h 196 = A) : ∃ A', (∀ k, k < 20 → A' k = aD τ A k) ∧ ∀ Q : QT, wq X (d + 5) 188 0 [some (.ref 195), some (.ref 196), none, none, none] [] h Q = Q (some (.int (nI (aC τ A)))) (hC h 196 A') := by
  have h5 := L.2.2.1
  have hk := L.1
  have h7 := o_mn hk
  have s6 : m_sh (KS X) 196 = (20, 21) := sh_196 hX
  have hn := aN_lt hk K
  have h14 := K.1.1
  have hg := aG_128 hk K
  have hgm := aG_lt K
  have eh := hC_as hA
  have fo := fun (Q : QT) => l_follow (X := X) (d := d + 3) (h := hC h 196 A) (TR_hC T) L hn Q
  have w14 : aWalk A (aG τ A) 14 = nI (aG τ A) := up_s
  have lv2 : LV τ (aWalk A (aG τ A)) := fun m hm => by
    rw [aWalk_v (show m ≠ 14 by omega)]
    exact lv m hm
  have x14 : w20 τ A (aG τ A) 14 = nI (aG τ A) := (w20_o (by decide)).trans (aFoe_14 (by omega))
  have y14 : aAgeL (w20 τ A (aG τ A)) (aG τ A) (τ 0 1) 14 = nI (aG τ A) := (if_neg (by omega)).trans x14
  obtain ⟨s, hs⟩ : ∃ s, s = stL τ (aAgeL (w20 τ A (aG τ A)) (aG τ A) (τ 0 1)) (aG τ A) (τ 0 1) := ⟨_, rfl⟩
  have hs7 : s < 128 := by
    rw [hs]
    exact Nat.lt_of_lt_of_le (stL_lt _) (p2_7 h7)
  -- the rows are the next day's
  have eage : ∀ k, k ≠ 20 → aAgeL (w20 τ A (aG τ A)) (aG τ A) (τ 0 1) k = aAge τ A (aG τ A) k := fun k hk2 => by
    show (if 7 ≤ k ∧ k < 7 + τ 0 1 ∧ (aG τ A).testBit (k - 7) = true then w20 τ A (aG τ A) k + 1 else w20 τ A (aG τ A) k) = if 7 ≤ k ∧ k < 7 + τ 0 1 ∧ (aG τ A).testBit (k - 7) = true then aFoe τ A (aG τ A) k + 1 else aFoe τ A (aG τ A) k
    rw [w20_o hk2]
  have ebk : ∀ i, i ≤ τ 0 1 → sBackM τ (aAgeL (w20 τ A (aG τ A)) (aG τ A) (τ 0 1)) (aG τ A) i = sBackM τ (aAge τ A (aG τ A)) (aG τ A) i := by
    intro i
    induction i with
    | zero => intro _; rfl
    | succ i ih =>
      intro hi
      show (if _ ∧ sGoes τ _ (aAgeL (w20 τ A (aG τ A)) (aG τ A) (τ 0 1) i) (aAgeL (w20 τ A (aG τ A)) (aG τ A) (τ 0 1) (7 + i)) i = true then _ else _) = if _ ∧ sGoes τ _ (aAge τ A (aG τ A) i) (aAge τ A (aG τ A) (7 + i)) i = true then _ else _
      rw [eage i (by omega), eage (7 + i) (by omega), ih (by omega)]
  have es : s = aG τ A &&& (127 ^^^ aB τ A) := by
    rw [hs, stL_e h7 hgm, ebk _ (Nat.le_refl _)]
    rfl
  have m14 : ∀ v x, muL (up v 14 x) s (τ 0 1) 14 = x := fun v x => (if_neg (by omega)).trans up_s
  have mo : ∀ v x k, 14 ≤ k → k ≠ 14 → muL (up v 14 x) s (τ 0 1) k = v k := fun v x k h1 h2 => (if_neg (by omega)).trans (up_o h2)
  have e18 : muL (up (aAgeL (w20 τ A (aG τ A)) (aG τ A) (τ 0 1)) 14 (nI s)) s (τ 0 1) 18 = A 18 := by
    rw [mo _ _ 18 (by decide) (by decide), eage 18 (by decide), aAge_ge hk (by decide), aFoe_v (by decide) (by decide), aMid_v (by decide) (by decide), aEatL_ge (by omega), aWalk_v (by decide)]
  have e16 : muL (up (aAgeL (w20 τ A (aG τ A)) (aG τ A) (τ 0 1)) 14 (nI s)) s (τ 0 1) 16 = A 16 + nI (aC τ A) := by
    rw [mo _ _ 16 (by decide) (by decide), eage 16 (by decide), aAge_ge hk (by decide), ← aD_16 hk K, aD_v (by decide), aHome_ge hk (Or.inl (by decide)), aAge_ge hk (by decide)]
  refine ⟨up (muL (up (aAgeL (w20 τ A (aG τ A)) (aG τ A) (τ 0 1)) 14 (nI s)) s (τ 0 1)) 18 (A 18 + 1), fun k hk2 => ?_, ?_⟩
  · by_cases k18 : k = 18
    · rw [k18, up_s, aD_18 hk]
    · rw [up_o k18, aD_v k18]
      show (if 7 ≤ k ∧ k < 7 + τ 0 1 then (if s.testBit (k - 7) = true then up _ 14 (nI s) k else 0) else up _ 14 (nI s) k) = if k = 14 then nI (aG τ A &&& (127 ^^^ aB τ A)) else if 7 ≤ k ∧ k < 7 + τ 0 1 ∧ (aB τ A).testBit (k - 7) = true then 0 else aAge τ A (aG τ A) k
      by_cases k14 : k = 14
      · rw [k14, if_neg (by omega), up_s, if_pos rfl, es]
      · rw [if_neg k14, up_o k14, eage k (by omega)]
        by_cases y : 7 ≤ k ∧ k < 7 + τ 0 1
        · rw [if_pos y]
          obtain ⟨j, rfl⟩ : ∃ j, k = 7 + j := ⟨k - 7, by omega⟩
          rw [show 7 + j - 7 = j by omega]
          have sb : s.testBit j = ((aG τ A).testBit j && !(aB τ A).testBit j) := by rw [es, and_bit (by omega)]
          by_cases gb : (aG τ A).testBit j = true
          · cases q : (aB τ A).testBit j with
            | true =>
              rw [if_neg (by rw [sb, q]; simp), if_pos ⟨y.1, y.2, rfl⟩]
            | false =>
              rw [if_pos (by rw [sb, q, gb]; rfl), if_neg (fun w => nomatch w.2.2)]
          · have gf : (aG τ A).testBit j = false := by simpa using gb
            have an : (aN A).testBit j = false := by
              cases p : (aN A).testBit j with
              | false => rfl
              | true =>
                have : (aG τ A).testBit j = true := by
                  unfold aG
                  rw [Nat.testBit_or, p]
                  rfl
                rw [gf] at this
                cases this
            obtain ⟨yy, _, _, hd⟩ := K.2.2.2
            obtain ⟨z, _, ez, e0⟩ := hd j (by omega)
            have a0 : A (7 + j) = 0 := by rw [ez, e0 an]; rfl
            have ea : aAge τ A (aG τ A) (7 + j) = 0 := by rw [aAge_day hk (by omega), if_neg (by rw [gf]; simp), a0]
            rw [if_neg (by rw [sb, gf]; simp), ea]
            split <;> rfl
        · rw [if_neg y, if_neg (fun w => y ⟨w.1, w.2.1⟩)]
  · intro Q
    refine Eq.trans (b := wq X (d + 5) 188 0 [some (.ref 195), some (.ref 196), none, none, none] [] (hC h 196 A) Q) (by rw [← eh]) ?_
    simp only [u188_0, u188_1, u188_3, u188_4, u188_5, u188_6, u188_8, u188_9, u188_10, u188_12, u188_13, u188_16, u188_17, u188_18, eq_self, q_nl0, q_nlI, q_nlR, not_false_eq_true, q_nz0, q_nz1, q_zv0, q_zv1, q_tl1, q_tl0, q_wif, q_swc, q_swn, List.cons_append, List.nil_append, if_true, if_false, e10, e01, Bool.false_eq_true, sh_195, s6, c_in16, cl16, c_in14, cl14, gI_hC, sI_hC, h14, fo]
    have l1 := ld_eat (X := X) (d := d) (h := h) (A := aWalk A (aG τ A)) (was := A 16) hX T L hg w14 lv2 Q
    have l2 := ld_mid (X := X) (d := d) (h := h) (A := A) (g := aG τ A) (was := A 16) (s := nI (τ 0 1)) hX T L hg Q
    have l3 := ld_age (X := X) (d := d) (h := h) (A := w20 τ A (aG τ A)) (was := A 16) (s := nI 0) hX T L hg x14 Q
    have l4 := ld_stay (X := X) (d := d) (h := h) (A := aAgeL (w20 τ A (aG τ A)) (aG τ A) (τ 0 1)) (was := A 16) hX T L hg y14 Q
    have l5 := ld_mul (X := X) (d := d) (h := h) (A := up (aAgeL (w20 τ A (aG τ A)) (aG τ A) (τ 0 1)) 14 (nI s)) (was := A 16) hX T L hs7 Q
    rw [← hs] at l4
    refine l1.trans (l2.trans (l3.trans ?_))
    simp only [u188_184, u188_185, eq_self, q_nl0, q_nlI, q_nlR, not_false_eq_true, q_nz0, q_nz1, q_zv0, q_zv1, q_tl1, q_tl0, q_wif, q_swc, q_swn, List.cons_append, List.nil_append, if_true, if_false, e10, e01, Bool.false_eq_true]
    refine l4.trans ?_
    simp only [u188_235, u188_236, u188_238, u188_239, u188_240, u188_241, eq_self, q_nl0, q_nlI, q_nlR, not_false_eq_true, q_nz0, q_nz1, q_zv0, q_zv1, q_tl1, q_tl0, q_wif, q_swc, q_swn, List.cons_append, List.nil_append, if_true, if_false, e10, e01, Bool.false_eq_true, s6, c_in14, cl14, sI_hC]
    refine l5.trans ?_
    simp only [u188_273, u188_274, u188_276, u188_277, u188_278, u188_279, u188_280, u188_281, u188_282, u188_284, u188_285, u188_286, u188_287, eq_self, q_nl0, q_nlI, q_nlR, not_false_eq_true, q_nz0, q_nz1, q_zv0, q_zv1, q_tl1, q_tl0, q_wif, q_swc, q_swn, List.cons_append, List.nil_append, if_true, if_false, e10, e01, Bool.false_eq_true, s6, c_in18, cl18, c_in16, cl16, gI_hC, sI_hC, e18, up_o (show (16 : Nat) ≠ 18 by decide), e16, add_sub_l]
end LDAY
