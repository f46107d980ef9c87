/-! THE LAW'S OWN DAY: who goes back, and its row c (cell 196) behind a day -/
theorem gone_m : ∀ n, n < 128 → ∀ m, m < 7 → n.testBit m = true → nI (pcN (n &&& (127 ^^^ 2 ^ m))) = nI (pcN n) - 1 := by decide +kernel
theorem c_in {k : Nat} (h : k < 21) : m_in (nI k) 21 = true := q_in h (by decide)
theorem c_cl {k : Nat} (h : k < 21) : (nI k).toNatClampNeg = k := q_cl (by omega)
theorem c_in14 : m_in 14 21 = true := by decide
theorem c_in15 : m_in 15 21 = true := by decide
theorem c_in16 : m_in 16 21 = true := by decide
theorem c_in17 : m_in 17 21 = true := by decide
theorem c_in18 : m_in 18 21 = true := by decide
theorem c_in19 : m_in 19 21 = true := by decide
theorem c_in20 : m_in 20 21 = true := by decide
theorem cl20 : (20 : Int32).toNatClampNeg = 20 := by decide
theorem b_is {b c : Nat} (hb : b ≤ 3) (hc : c ≤ 3) : (nI b = nI c) = (b = c) := nI_eqB (by omega) (by omega)
theorem l_back {X : XT} {d n m b : Nat} {h : HT} {τ : CT} {v : Nat → Int32} (hX : X.2 100000 ≠ 0) (T : TR h τ b) (L : LB τ b) (hv : m_gI h 196 = v) (h14 : v 14 = nI n) (hn : n < 128) (hm : m < τ 0 1) (hb : n.testBit m = true) (Q : QT) : wq X (d + 3) 190 0 [some (.ref 195), some (.ref 196), some (.int (nI m)), none, none, none] [] h Q = Q (some (.int (if lwB τ b n (v m) (v (7 + m)) m = true then 1 else 0))) h := by
  have h5 := L.2.2.1
  have s6 : m_sh (KS X) 196 = (20, 21) := sh_196 hX
  have e1 : m_in (nI (23 + 4 * m)) 70 = true := t_in (by omega)
  have e2 : (nI (23 + 4 * m)).toNatClampNeg = 23 + 4 * m := t_cl (by omega)
  have e3 := (T.2.2.1 m hm).2.2.2
  have e4 : m_in (nI (22 + 4 * m)) 70 = true := t_in (by omega)
  have e5 : (nI (22 + 4 * m)).toNatClampNeg = 22 + 4 * m := t_cl (by omega)
  have e6 := (T.2.2.1 m hm).2.2.1
  have c1 : m_in (nI m) 21 = true := c_in (by omega)
  have c2 : (nI m).toNatClampNeg = m := c_cl (by omega)
  have c3 : m_in (nI (7 + m)) 21 = true := c_in (by omega)
  have c4 : (nI (7 + m)).toNatClampNeg = 7 + m := c_cl (by omega)
  have v1 : m_gI h 196 m = v m := congrFun hv m
  have v2 : m_gI h 196 (7 + m) = v (7 + m) := congrFun hv _
  have v3 : m_gI h 196 14 = nI n := (congrFun hv 14).trans h14
  have g1 := nI_not n hn (2 ^ m) (p2_lt (show m < 7 by omega))
  have g2 := gone_m n hn m (by omega) hb
  have g3 : n &&& (127 ^^^ 2 ^ m) < 128 := and_128 hn
  have hs := s128 L.1 n
  have t3 : m_gI h 195 3 = nI b := T.1.2.2.2.1
  have b0 : (nI b = 0) = (b = 0) := b_is (c := 0) L.2.2.2.2.1 (by decide)
  have b1 : (nI b = 1) = (b = 1) := b_is (c := 1) L.2.2.2.2.1 (by decide)
  have b2 : (nI b = 2) = (b = 2) := b_is (c := 2) L.2.2.2.2.1 (by decide)
  have n4 : (¬ (4 : Int32) = 0) := by decide
  unfold lwB
  simp only [u190_0, u190_1, u190_3, u190_4, u190_5, u190_6, u190_7, u190_8, u190_9, u190_10, u190_13, u190_14, u190_15, u190_17, u190_18, u190_19, u190_20, u190_21, u190_22, u190_24, u190_25, u190_26, u190_28, u190_29, u190_32, u190_35, u190_37, u190_38, u190_39, u190_40, eq_self, q_nl0, q_nlI, q_nlR, not_false_eq_true, q_nz0, q_nz1, q_zv0, q_zv1, q_tl1, q_tl0, q_wif, q_swc, q_swn, List.cons_append, List.nil_append, if_true, if_false, e10, e01, Bool.false_eq_true, sh_195, s6, c_in14, cl14, v3, nI_sh m (show m < 8 by omega), g1, c_bitCount g3, g2, l_m4, l_a23, e1, e2, e3, l_brief T L hn, c_bitCount hs, t_in3, t_cl3, t3, b0]
  by_cases z0 : b = 0
  · simp only [z0, if_true, u190_43, u190_44, u190_45, u190_46, u190_49, u190_50, u190_52, u190_55, u190_56, u190_59, u190_60, u190_149, eq_self, q_nl0, q_nlI, q_nlR, not_false_eq_true, q_nz0, q_nz1, q_zv0, q_zv1, q_tl1, q_tl0, q_wif, q_swc, q_swn, List.cons_append, List.nil_append, if_true, if_false, e10, e01, Bool.false_eq_true, s6, c1, c2, v1]
    by_cases y : v m = 0
    · simp only [y, if_true, decide_true, Bool.true_or]
    · simp only [y, if_false, decide_false, Bool.false_or, decide_eq_true_eq]
      split <;> rfl
  · simp only [z0, if_false, u190_63, u190_64, u190_65, u190_66, u190_67, eq_self, q_nl0, q_nlI, q_nlR, not_false_eq_true, q_nz0, q_nz1, q_zv0, q_zv1, q_tl1, q_tl0, q_wif, q_swc, q_swn, List.cons_append, List.nil_append, if_true, if_false, e10, e01, Bool.false_eq_true, sh_195, t_in3, t_cl3, t3, b1]
    by_cases z1 : b = 1
    · simp only [z1, if_true, u190_70, u190_71, u190_72, u190_73, u190_76, u190_77, u190_79, u190_80, u190_81, u190_82, u190_84, u190_85, u190_86, u190_89, u190_90, u190_93, u190_94, u190_149, eq_self, q_nl0, q_nlI, q_nlR, not_false_eq_true, q_nz0, q_nz1, q_zv0, q_zv1, q_tl1, q_tl0, q_wif, q_swc, q_swn, List.cons_append, List.nil_append, if_true, if_false, e10, e01, Bool.false_eq_true, s6, c1, c2, v1, l_a7, c3, c4, v2]
      by_cases y : v m = 0
      · simp only [y, if_true, decide_true, Bool.true_or]
      · simp only [y, if_false, decide_false, Bool.false_or, decide_eq_true_eq]
        split <;> rfl
    · simp only [z1, if_false, u190_97, u190_98, u190_99, u190_100, u190_101, eq_self, q_nl0, q_nlI, q_nlR, not_false_eq_true, q_nz0, q_nz1, q_zv0, q_zv1, q_tl1, q_tl0, q_wif, q_swc, q_swn, List.cons_append, List.nil_append, if_true, if_false, e10, e01, Bool.false_eq_true, sh_195, t_in3, t_cl3, t3, b2]
      by_cases z2 : b = 2
      · simp only [z2, if_true, u190_104, u190_105, u190_106, u190_108, u190_109, u190_112, u190_113, u190_116, u190_117, u190_149, eq_self, q_nl0, q_nlI, q_nlR, not_false_eq_true, q_nz0, q_nz1, q_zv0, q_zv1, q_tl1, q_tl0, q_wif, q_swc, q_swn, List.cons_append, List.nil_append, if_true, if_false, e10, e01, Bool.false_eq_true, decide_eq_true_eq]
        split <;> rfl
      · simp only [z2, if_false, u190_120, u190_121, u190_122, u190_123, u190_124, u190_125, u190_126, u190_128, u190_129, u190_130, u190_131, u190_132, u190_133, u190_134, u190_135, u190_138, u190_140, u190_141, u190_144, u190_145, u190_148, u190_149, eq_self, q_nl0, q_nlI, q_nlR, not_false_eq_true, q_nz0, q_nz1, q_zv0, q_zv1, q_tl1, q_tl0, q_wif, q_swc, q_swn, List.cons_append, List.nil_append, if_true, if_false, e10, e01, Bool.false_eq_true, sh_195, s6, c1, c2, v1, l_m4, l_a22, e4, e5, e6, n4, not_false_eq_true, Bool.and_eq_true, Bool.not_eq_true', decide_eq_true_eq, decide_eq_false_iff_not]
        by_cases y : v m + (nI (pcN n) - 1) < nI (τ 5 m) / 4
        · by_cases x : nI (pcN (sShort τ n)) = 3
          · simp only [y, x, if_true, not_true_eq_false, and_false, if_false]
          · simp only [y, x, if_true, not_false_eq_true, and_self, if_false]
        · simp only [y, if_false, false_and]
/-- loaves are never below 0 -/
def LV (τ : CT) (A : Nat → Int32) : Prop := ∀ m, m < τ 0 1 → ∃ l, l ≤ 99 ∧ A m = nI l
theorem max_1 {l : Nat} (h : l ≤ 99) : (if (0 : Int32) < nI l - 1 then nI l - 1 else 0) = if 0 < nI l then nI l - 1 else nI l := by
  have : ∀ l, l < 100 → (if (0 : Int32) < nI l - 1 then nI l - 1 else 0) = if 0 < nI l then nI l - 1 else nI l := by decide +kernel
  exact this l (by omega)
theorem aEatL_up {A : Nat → Int32} {g i : Nat} : aEatL A g (i + 1) = if g.testBit i = true ∧ 0 < A i then up (aEatL A g i) i (A i - 1) else aEatL A g i := by
  funext k
  show (if k < i + 1 ∧ g.testBit k = true ∧ 0 < A k then A k - 1 else A k) = _
  by_cases z : g.testBit i = true ∧ 0 < A i
  · rw [if_pos z]
    show _ = if k = i then A i - 1 else if k < i ∧ g.testBit k = true ∧ 0 < A k then A k - 1 else A k
    by_cases y : k = i
    · rw [if_pos y, y, if_pos ⟨by omega, z⟩]
    · rw [if_neg y]
      by_cases x : k < i ∧ g.testBit k = true ∧ 0 < A k
      · rw [if_pos x, if_pos ⟨by omega, x.2⟩]
      · rw [if_neg x, if_neg (fun w => x ⟨by omega, w.2⟩)]
  · rw [if_neg z]
    show _ = if k < i ∧ g.testBit k = true ∧ 0 < A k then A k - 1 else A k
    by_cases x : k < i ∧ g.testBit k = true ∧ 0 < A k
    · rw [if_pos x, if_pos ⟨by omega, x.2⟩]
    · rw [if_neg x, if_neg (fun w => by
        by_cases y : k = i
        · rw [y] at w
          exact z w.2
        · exact x ⟨by omega, w.2⟩)]
theorem up_same {f : Nat → Int32} {k : Nat} {v : Int32} (h : f k = v) : up f k v = f := by
  funext j
  show (if j = k then v else f j) = f j
  by_cases z : j = k
  · rw [if_pos z, z, h]
  · rw [if_neg z]
theorem hC_as {h : HT} {v : Nat → Int32} (e : m_gI h 196 = v) : h = hC h 196 v := by
  rw [← e, hC_id]
theorem TR_hC {h : HT} {τ : CT} {b : Nat} {v : Nat → Int32} (T : TR h τ b) : TR (hC h 196 v) τ b := TR_eq (fun k => gI_hCo (by decide)) T
/-- who stays -/
def stL (τ : CT) (A : Nat → Int32) (g : Nat) : Nat → Nat
  | 0 => 0
  | m + 1 => if g.testBit m = true ∧ sGoes τ g (A m) (A (7 + m)) m = false then stL τ A g m ||| 2 ^ m else stL τ A g m
theorem stL_lt {τ : CT} {A : Nat → Int32} {g : Nat} : ∀ k, stL τ A g k < 2 ^ k
  | 0 => by simp [stL]
  | k + 1 => by
    unfold stL
    have := stL_lt (τ := τ) (A := A) (g := g) k
    have h2 : stL τ A g k < 2 ^ (k + 1) := Nat.lt_of_lt_of_le this (Nat.pow_le_pow_right (by decide) (by omega))
    split
    · exact orb h2 (by omega)
    · exact h2
theorem stL_bit {τ : CT} {A : Nat → Int32} {g : Nat} : ∀ k i, (stL τ A g k).testBit i = (decide (i < k) && (g.testBit i && !sGoes τ g (A i) (A (7 + i)) i))
  | 0, i => by simp [stL]
  | k + 1, i => by
    unfold stL
    by_cases z : g.testBit k = true ∧ sGoes τ g (A k) (A (7 + k)) k = false
    · rw [if_pos z, Nat.testBit_or, stL_bit k i, Nat.testBit_two_pow]
      by_cases y : k = i
      · subst y
        rw [z.1, z.2]
        simp
      · rw [decide_eq_false y, Bool.or_false]
        by_cases x : i < k
        · rw [decide_eq_true x, decide_eq_true (show i < k + 1 by omega)]
        · rw [decide_eq_false x, decide_eq_false (show ¬ i < k + 1 by omega)]
    · rw [if_neg z, stL_bit k i]
      by_cases y : k = i
      · subst y
        rw [decide_eq_false (Nat.lt_irrefl k), Bool.false_and]
        cases p : g.testBit k with
        | false => simp
        | true =>
          cases q : sGoes τ g (A k) (A (7 + k)) k with
          | true => simp
          | false => exact absurd ⟨p, q⟩ z
      · by_cases x : i < k
        · rw [decide_eq_true x, decide_eq_true (show i < k + 1 by omega)]
        · rw [decide_eq_false x, decide_eq_false (show ¬ i < k + 1 by omega)]
theorem sBackM_bit {τ : CT} {A : Nat → Int32} {g : Nat} : ∀ k i, (sBackM τ A g k).testBit i = (decide (i < k) && (g.testBit i && sGoes τ g (A i) (A (7 + i)) i))
  | 0, i => by simp [sBackM]
  | k + 1, i => by
    unfold sBackM
    by_cases z : g.testBit k = true ∧ sGoes τ g (A k) (A (7 + k)) k = true
    · rw [if_pos z, Nat.testBit_or, sBackM_bit k i, Nat.testBit_two_pow]
      by_cases y : k = i
      · subst y
        rw [z.1, z.2]
        simp
      · rw [decide_eq_false y, Bool.or_false]
        by_cases x : i < k
        · rw [decide_eq_true x, decide_eq_true (show i < k + 1 by omega)]
        · rw [decide_eq_false x, decide_eq_false (show ¬ i < k + 1 by omega)]
    · rw [if_neg z, sBackM_bit k i]
      by_cases y : k = i
      · subst y
        rw [decide_eq_false (Nat.lt_irrefl k), Bool.false_and]
        cases p : g.testBit k with
        | false => simp
        | true =>
          cases q : sGoes τ g (A k) (A (7 + k)) k with
          | false => simp
          | true => exact absurd ⟨p, q⟩ z
      · by_cases x : i < k
        · rw [decide_eq_true x, decide_eq_true (show i < k + 1 by omega)]
        · rw [decide_eq_false x, decide_eq_false (show ¬ i < k + 1 by omega)]
theorem stL_e {τ : CT} {A : Nat → Int32} {g k : Nat} (hk : k ≤ 7) (hg : g < 2 ^ k) : stL τ A g k = g &&& (127 ^^^ sBackM τ A g k) := by
  apply Nat.eq_of_testBit_eq
  intro i
  by_cases hi : i < 7
  · rw [and_bit hi, stL_bit, sBackM_bit]
    by_cases z : i < k
    · rw [decide_eq_true z]
      cases g.testBit i <;> cases sGoes τ g (A i) (A (7 + i)) i <;> rfl
    · rw [bit_ge hg (by omega)]
      simp
  · rw [bit_ge (stL_lt (τ := τ) (A := A) (g := g) k) (by omega), Nat.testBit_and, bit_ge hg (by omega), Bool.false_and]
