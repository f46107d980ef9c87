/-! THE LAW'S OWN NUMBERS: its row t (cell 195) holds the city, and what it counts from it -/
def TR (h : HT) (τ : CT) (b : Nat) : Prop :=
  (m_gI h 195 0 = nI (τ 0 0) ∧ m_gI h 195 1 = nI (τ 0 1) ∧ m_gI h 195 2 = nI (τ 0 2) ∧ m_gI h 195 3 = nI b ∧ m_gI h 195 4 = nI (τ 0 3) ∧ m_gI h 195 5 = nI (τ 0 4) ∧ m_gI h 195 6 = nI (τ 0 5) ∧ m_gI h 195 7 = nI (τ 0 6)) ∧
  (∀ c, c < τ 0 0 → m_gI h 195 (10 + 2 * c) = nI (τ 1 c) ∧ m_gI h 195 (11 + 2 * c) = nI (τ 2 c)) ∧
  (∀ m, m < τ 0 1 → m_gI h 195 (20 + 4 * m) = nI (τ 3 m) ∧ m_gI h 195 (21 + 4 * m) = nI (τ 4 m) ∧ m_gI h 195 (22 + 4 * m) = nI (τ 5 m) ∧ m_gI h 195 (23 + 4 * m) = nI (τ 6 m)) ∧
  ∀ q, q < τ 0 2 → m_gI h 195 (50 + 2 * q) = nI (τ 7 q) ∧ m_gI h 195 (51 + 2 * q) = nI (τ 8 q)
/-- how the law says who goes back -/
def lwB (τ : CT) (b n : Nat) (l y : Int32) (m : Nat) : Bool :=
  if b = 0 then decide (l = 0) || decide (nI (pcN n) - 1 < nI (τ 6 m))
  else if b = 1 then decide (l = 0) || decide (nI (τ 6 m) + 3 < y)
  else if b = 2 then decide (nI (pcN n) - 1 < 2 - nI (pcN (sShort τ n)))
  else decide (l + (nI (pcN n) - 1) < nI (τ 5 m) / 4) && !decide (nI (pcN (sShort τ n)) = 3)
/-- what a drawn city keeps to -/
def LB (τ : CT) (b : Nat) : Prop := cOk τ ∧ τ 0 0 ≤ 3 ∧ τ 0 1 ≤ 5 ∧ τ 0 2 ≤ 3 ∧ b ≤ 3 ∧ ∀ n, n < 128 → ∀ l y m, m < τ 0 1 → n.testBit m = true → sGoes τ n l y m = lwB τ b n l y m
theorem TR_eq {h g : HT} {τ : CT} {b : Nat} (e : ∀ k, m_gI g 195 k = m_gI h 195 k) (H : TR h τ b) : TR g τ b := by
  unfold TR at *
  simp only [e]
  exact H
theorem l_m4 (m : Nat) : (4 : Int32) * nI m = nI (4 * m) := pk_mul 4 m
theorem l_m2 (m : Nat) : (2 : Int32) * nI m = nI (2 * m) := pk_mul 2 m
theorem l_a7 (m : Nat) : (7 : Int32) + nI m = nI (7 + m) := nI_add 7 m
theorem l_a10 (m : Nat) : (10 : Int32) + nI m = nI (10 + m) := nI_add 10 m
theorem l_a11 (m : Nat) : (11 : Int32) + nI m = nI (11 + m) := nI_add 11 m
theorem l_a20 (m : Nat) : (20 : Int32) + nI m = nI (20 + m) := nI_add 20 m
theorem l_a21 (m : Nat) : (21 : Int32) + nI m = nI (21 + m) := nI_add 21 m
theorem l_a22 (m : Nat) : (22 : Int32) + nI m = nI (22 + m) := nI_add 22 m
theorem l_a23 (m : Nat) : (23 : Int32) + nI m = nI (23 + m) := nI_add 23 m
theorem l_a50 (m : Nat) : (50 : Int32) + nI m = nI (50 + m) := nI_add 50 m
theorem l_a51 (m : Nat) : (51 : Int32) + nI m = nI (51 + m) := nI_add 51 m
theorem t_in {k : Nat} (h : k < 70) : m_in (nI k) 70 = true := q_in h (by decide)
theorem t_cl {k : Nat} (h : k < 70) : (nI k).toNatClampNeg = k := q_cl (by omega)
theorem t_in0 : m_in 0 70 = true := by decide
theorem t_cl0 : (0 : Int32).toNatClampNeg = 0 := by decide
theorem t_in1 : m_in 1 70 = true := by decide
theorem t_cl1 : (1 : Int32).toNatClampNeg = 1 := by decide
theorem t_in2 : m_in 2 70 = true := by decide
theorem t_cl2 : (2 : Int32).toNatClampNeg = 2 := by decide
theorem t_in3 : m_in 3 70 = true := by decide
theorem t_cl3 : (3 : Int32).toNatClampNeg = 3 := by decide
theorem t_in4 : m_in 4 70 = true := by decide
theorem t_cl4 : (4 : Int32).toNatClampNeg = 4 := by decide
theorem t_in5 : m_in 5 70 = true := by decide
theorem t_cl5 : (5 : Int32).toNatClampNeg = 5 := by decide
theorem t_in6 : m_in 6 70 = true := by decide
theorem t_cl6 : (6 : Int32).toNatClampNeg = 6 := by decide
theorem t_in7 : m_in 7 70 = true := by decide
theorem t_cl7 : (7 : Int32).toNatClampNeg = 7 := by decide
theorem bit_i {n i : Nat} (hn : n < 128) (hi : i < 8) : nI n >>> (nI i &&& 31) &&& 1 = if n.testBit i = true then 1 else 0 := bit01 hn hi
theorem cap_k : ∀ k, k < 7 → ∀ a, a < 2 ^ k → ∀ n, n < 128 → pcN ((a ||| 2 ^ k) &&& (127 ^^^ n)) = if n.testBit k = true then pcN (a &&& (127 ^^^ n)) else pcN (a &&& (127 ^^^ n)) + 1 := by decide +kernel
/-- in(t, out, craft): who of a craft is in the city -/
theorem l_in {X : XT} {d n c b : Nat} {h : HT} {τ : CT} (T : TR h τ b) (L : LB τ b) (hn : n < 128) (hc : c < τ 0 0) (Q : QT) : wq X (d + 1) 182 0 [some (.ref 195), some (.int (nI n)), some (.int (nI c)), none, none] [] h Q = Q (some (.int (nI (pcN (sMen τ c &&& (127 ^^^ n)))))) h := by
  have h5 := L.2.2.1
  have h3 := L.2.1
  have hm : m_gI h 195 1 = nI (τ 0 1) := T.1.2.1
  have hz : pcN (sMenL τ c 0 &&& (127 ^^^ n)) = 0 := by
    show pcN (0 &&& (127 ^^^ n)) = 0
    rw [Nat.zero_and]
    decide
  simp only [u182_0, u182_1, u182_2, u182_3, eq_self, q_nl0, q_nlI, q_nlR, not_false_eq_true, q_nz0, q_nz1, q_zv0, q_zv1, q_tl1, q_tl0, q_wif, q_swc, q_swn, List.cons_append, List.nil_append, if_true, if_false, e10, e01, Bool.false_eq_true]
  refine Eq.trans (b := wq X (d + 1) 182 5 [some (.ref 195), some (.int (nI n)), some (.int (nI c)), some (.int (nI (pcN (sMenL τ c 0 &&& (127 ^^^ n))))), some (.int (nI 0))] [] h Q) (by rw [hz]; rfl) ?_
  refine (q_loop (fun i => wq X (d + 1) 182 5 [some (.ref 195), some (.int (nI n)), some (.int (nI c)), some (.int (nI (pcN (sMenL τ c i &&& (127 ^^^ n))))), some (.int (nI i))] [] h Q) (τ 0 1) ?_).trans ?_
  · intro i hi
    have f1 : (nI i < nI (τ 0 1)) = True := eq_true (nI_lt hi (by omega))
    have e1 : m_in (nI (20 + 4 * i)) 70 = true := t_in (by omega)
    have e2 : (nI (20 + 4 * i)).toNatClampNeg = 20 + 4 * i := t_cl (by omega)
    have e3 := (T.2.2.1 i hi).1
    have e4 := bit_i hn (show i < 8 by omega)
    have hs := o_sk L.1 i
    have e5 := bit_i (show τ 3 i < 128 by omega) (show c < 8 by omega)
    have hk := sMenL_lt (τ := τ) (c := c) i
    have hc := cap_k i (by omega) _ hk n hn
    show wq X (d + 1) 182 5 _ _ _ _ = _
    rw [u182_5]
    simp only [u182_7, u182_8, u182_9, u182_10, u182_13, u182_14, u182_15, u182_17, u182_18, u182_19, u182_20, u182_23, u182_24, u182_26, u182_27, u182_29, u182_30, u182_31, u182_32, u182_33, u182_34, u182_35, u182_36, u182_37, u182_40, u182_41, u182_44, u182_45, u182_46, u182_47, u182_50, eq_self, q_nl0, q_nlI, q_nlR, not_false_eq_true, q_nz0, q_nz1, q_zv0, q_zv1, q_tl1, q_tl0, q_wif, q_swc, q_swn, List.cons_append, List.nil_append, if_true, if_false, e10, e01, Bool.false_eq_true, sh_195, t_in1, t_cl1, hm, f1, e4, l_m4, l_a20, e1, e2, e3, e5, if_b0, if_b1]
    rw [show sMenL τ c (i + 1) = if (τ 3 i).testBit c = true then sMenL τ c i ||| 2 ^ i else sMenL τ c i from rfl]
    by_cases z : n.testBit i = true
    · rw [if_pos z] at hc
      by_cases y : (τ 3 i).testBit c = true
      · simp only [z, y, not_true_eq_false, if_false, if_true, Int32.add_zero, nI_1, hc]
      · simp only [z, y, not_true_eq_false, if_false, if_true, Int32.add_zero, nI_1, Bool.false_eq_true]
    · rw [if_neg z] at hc
      by_cases y : (τ 3 i).testBit c = true
      · simp only [z, y, not_false_eq_true, if_true, if_false, nI_1, hc, Bool.false_eq_true]
      · simp only [z, y, not_false_eq_true, if_true, if_false, Bool.false_eq_true, Int32.add_zero, nI_1]
  · rw [u182_5]
    simp only [u182_7, u182_8, u182_9, u182_10, u182_53, u182_54, eq_self, q_nl0, q_nlI, q_nlR, not_false_eq_true, q_nz0, q_nz1, q_zv0, q_zv1, q_tl1, q_tl0, q_wif, q_swc, q_swn, List.cons_append, List.nil_append, if_true, if_false, e10, e01, Bool.false_eq_true, sh_195, t_in1, t_cl1, hm, eq_false (nI_nlt (Nat.le_refl (τ 0 1)) (by omega))]
    rfl
theorem zero_or_ (a : Int32) : a ||| 0 = a := Int32.or_zero
/-- brief(t, out): which crafts are short -/
theorem l_brief {X : XT} {d n b : Nat} {h : HT} {τ : CT} (T : TR h τ b) (L : LB τ b) (hn : n < 128) (Q : QT) : wq X (d + 2) 173 0 [some (.ref 195), some (.int (nI n)), none, none] [] h Q = Q (some (.int (nI (sShort τ n)))) h := by
  have h3 := L.2.1
  have h0 : m_gI h 195 0 = nI (τ 0 0) := T.1.1
  simp only [u173_0, u173_1, u173_2, u173_3, eq_self, q_nl0, q_nlI, q_nlR, not_false_eq_true, q_nz0, q_nz1, q_zv0, q_zv1, q_tl1, q_tl0, q_wif, q_swc, q_swn, List.cons_append, List.nil_append, if_true, if_false, e10, e01, Bool.false_eq_true]
  refine (q_loop (fun i => wq X (d + 2) 173 4 [some (.ref 195), some (.int (nI n)), some (.int (nI (sShortL τ n i))), some (.int (nI i))] [] h Q) (τ 0 0) ?_).trans ?_
  · intro i hi
    have f1 : (nI i < nI (τ 0 0)) = True := eq_true (nI_lt hi (by omega))
    have e1 : m_in (nI (10 + 2 * i)) 70 = true := t_in (by omega)
    have e2 : (nI (10 + 2 * i)).toNatClampNeg = 10 + 2 * i := t_cl (by omega)
    have e3 := (T.2.1 i hi).1
    have hp : pcN (sMen τ i &&& (127 ^^^ n)) ≤ 7 := pcN_le _ (and_128 (sMen_lt L.1 i))
    have hw := o_ne L.1 i
    have e4 : (nI (pcN (sMen τ i &&& (127 ^^^ n))) < nI (τ 1 i)) = (pcN (sMen τ i &&& (127 ^^^ n)) < τ 1 i) := nI_ltB (by omega) (by omega)
    show wq X (d + 2) 173 4 _ _ _ _ = _
    rw [u173_4]
    simp only [u173_5, u173_6, u173_7, u173_8, u173_11, u173_12, u173_13, u173_14, u173_15, u173_18, u173_19, u173_21, u173_22, u173_23, u173_24, u173_25, u173_26, u173_29, u173_30, u173_31, u173_32, u173_35, u173_36, u173_37, u173_38, u173_41, eq_self, q_nl0, q_nlI, q_nlR, not_false_eq_true, q_nz0, q_nz1, q_zv0, q_zv1, q_tl1, q_tl0, q_wif, q_swc, q_swn, List.cons_append, List.nil_append, if_true, if_false, e10, e01, Bool.false_eq_true, sh_195, t_in0, t_cl0, h0, f1, l_in T L hn hi, l_m2, l_a10, e1, e2, e3, e4, nI_sh i (by omega)]
    rw [show sShortL τ n (i + 1) = if pcN (sMen τ i &&& (127 ^^^ n)) < τ 1 i then sShortL τ n i ||| 2 ^ i else sShortL τ n i from rfl]
    by_cases z : pcN (sMen τ i &&& (127 ^^^ n)) < τ 1 i
    · simp only [z, if_true, nI_or, nI_1]
    · simp only [z, if_false, Int32.or_zero, nI_1]
  · rw [u173_4]
    simp only [u173_5, u173_6, u173_7, u173_8, u173_44, u173_45, eq_self, q_nl0, q_nlI, q_nlR, not_false_eq_true, q_nz0, q_nz1, q_zv0, q_zv1, q_tl1, q_tl0, q_wif, q_swc, q_swn, List.cons_append, List.nil_append, if_true, if_false, e10, e01, Bool.false_eq_true, sh_195, t_in0, t_cl0, h0, eq_false (nI_nlt (Nat.le_refl (τ 0 0)) (by omega))]
    rfl
/-- loss(t, out) -/
theorem l_loss {X : XT} {d n b : Nat} {h : HT} {τ : CT} (T : TR h τ b) (L : LB τ b) (hn : n < 128) (Q : QT) : wq X (d + 3) 186 0 [some (.ref 195), some (.int (nI n)), none, none] [] h Q = Q (some (.int (nI (sLoss τ n)))) h := by
  have h3 := L.2.1
  have h0 : m_gI h 195 0 = nI (τ 0 0) := T.1.1
  have hs := s128 L.1 n
  simp only [u186_0, u186_1, u186_2, u186_3, eq_self, q_nl0, q_nlI, q_nlR, not_false_eq_true, q_nz0, q_nz1, q_zv0, q_zv1, q_tl1, q_tl0, q_wif, q_swc, q_swn, List.cons_append, List.nil_append, if_true, if_false, e10, e01, Bool.false_eq_true]
  refine (q_loop (fun i => wq X (d + 3) 186 4 [some (.ref 195), some (.int (nI n)), some (.int (nI (sLossL τ (sShort τ n) i))), some (.int (nI i))] [] h Q) (τ 0 0) ?_).trans ?_
  · intro i hi
    have f1 : (nI i < nI (τ 0 0)) = True := eq_true (nI_lt hi (by omega))
    have e1 : m_in (nI (11 + 2 * i)) 70 = true := t_in (by omega)
    have e2 : (nI (11 + 2 * i)).toNatClampNeg = 11 + 2 * i := t_cl (by omega)
    have e3 := (T.2.1 i hi).2
    have e4 := bit_i hs (show i < 8 by omega)
    show wq X (d + 3) 186 4 _ _ _ _ = _
    rw [u186_4]
    simp only [u186_5, u186_6, u186_7, u186_8, u186_11, u186_12, u186_13, u186_14, u186_17, u186_18, u186_19, u186_20, u186_21, u186_22, u186_24, u186_25, u186_26, u186_27, u186_28, u186_29, u186_30, u186_31, u186_32, u186_35, eq_self, q_nl0, q_nlI, q_nlR, not_false_eq_true, q_nz0, q_nz1, q_zv0, q_zv1, q_tl1, q_tl0, q_wif, q_swc, q_swn, List.cons_append, List.nil_append, if_true, if_false, e10, e01, Bool.false_eq_true, sh_195, t_in0, t_cl0, h0, f1, l_brief T L hn, l_m2, l_a11, e1, e2, e3, e4]
    rw [show sLossL τ (sShort τ n) (i + 1) = if (sShort τ n).testBit i = true then sLossL τ (sShort τ n) i + τ 2 i else sLossL τ (sShort τ n) i from rfl]
    by_cases z : (sShort τ n).testBit i = true
    · simp only [z, if_true, Int32.one_mul, nI_add, nI_1]
    · simp only [z, if_false, Bool.false_eq_true, Int32.zero_mul, Int32.add_zero, nI_1]
  · rw [u186_4]
    simp only [u186_5, u186_6, u186_7, u186_8, u186_38, u186_39, eq_self, q_nl0, q_nlI, q_nlR, not_false_eq_true, q_nz0, q_nz1, q_zv0, q_zv1, q_tl1, q_tl0, q_wif, q_swc, q_swn, List.cons_append, List.nil_append, if_true, if_false, e10, e01, Bool.false_eq_true, sh_195, t_in0, t_cl0, h0, eq_false (nI_nlt (Nat.le_refl (τ 0 0)) (by omega))]
    rfl
/-- follow(t, out): who is out and who follows -/
def folL (τ : CT) (n : Nat) : Nat → Nat
  | 0 => n
  | m + 1 => if 0 < τ 6 m ∧ τ 6 m ≤ pcN n then folL τ n m ||| 2 ^ m else folL τ n m
theorem or_in {n m : Nat} (h : n.testBit m = true) : n ||| 2 ^ m = n := by
  apply Nat.eq_of_testBit_eq
  intro i
  rw [Nat.testBit_or, Nat.testBit_two_pow]
  by_cases z : m = i
  · rw [← z, h]
    rfl
  · rw [decide_eq_false z, Bool.or_false]
theorem folL_e {τ : CT} {n : Nat} : ∀ k, folL τ n k = n ||| sFolL τ n k
  | 0 => by
    show n = n ||| 0
    rw [Nat.or_zero]
  | k + 1 => by
    unfold folL sFolL
    rw [folL_e k]
    by_cases z : 0 < τ 6 k ∧ τ 6 k ≤ pcN n
    · rw [if_pos z]
      by_cases y : n.testBit k = false
      · rw [if_pos ⟨y, z⟩, Nat.or_assoc]
      · rw [if_neg (fun w => y w.1), Nat.or_assoc, Nat.or_comm (sFolL τ n k), ← Nat.or_assoc, or_in (by simpa using y)]
    · rw [if_neg z, if_neg (fun w => z w.2)]
theorem l_follow {X : XT} {d n b : Nat} {h : HT} {τ : CT} (T : TR h τ b) (L : LB τ b) (hn : n < 128) (Q : QT) : wq X (d + 1) 189 0 [some (.ref 195), some (.int (nI n)), none, none] [] h Q = Q (some (.int (nI (n ||| sFol τ n)))) h := by
  have h5 := L.2.2.1
  have hm : m_gI h 195 1 = nI (τ 0 1) := T.1.2.1
  have hp := pcN_le n hn
  rw [show n ||| sFol τ n = folL τ n (τ 0 1) from (folL_e _).symm]
  simp only [u189_0, u189_1, u189_2, u189_3, eq_self, q_nl0, q_nlI, q_nlR, not_false_eq_true, q_nz0, q_nz1, q_zv0, q_zv1, q_tl1, q_tl0, q_wif, q_swc, q_swn, List.cons_append, List.nil_append, if_true, if_false, e10, e01, Bool.false_eq_true]
  refine (q_loop (fun i => wq X (d + 1) 189 4 [some (.ref 195), some (.int (nI n)), some (.int (nI (folL τ n i))), some (.int (nI i))] [] h Q) (τ 0 1) ?_).trans ?_
  · intro i hi
    have f1 : (nI i < nI (τ 0 1)) = True := eq_true (nI_lt hi (by omega))
    have e1 : m_in (nI (23 + 4 * i)) 70 = true := t_in (by omega)
    have e2 : (nI (23 + 4 * i)).toNatClampNeg = 23 + 4 * i := t_cl (by omega)
    have e3 := (T.2.2.1 i hi).2.2.2
    have ho := o_ot L.1 i
    have e4 : (0 < nI (τ 6 i)) = (0 < τ 6 i) := nI_ltB (a := 0) (by decide) (by omega)
    have e5 : (nI (pcN n) < nI (τ 6 i)) = (pcN n < τ 6 i) := nI_ltB (by omega) (by omega)
    show wq X (d + 1) 189 4 _ _ _ _ = _
    rw [u189_4]
    simp only [u189_5, u189_6, u189_7, u189_8, u189_11, u189_12, u189_13, u189_15, u189_16, u189_17, u189_18, u189_19, u189_20, u189_23, u189_24, u189_27, u189_28, u189_30, u189_31, u189_32, u189_33, u189_34, u189_35, u189_38, u189_39, u189_40, u189_41, u189_44, u189_45, u189_46, u189_47, u189_50, eq_self, q_nl0, q_nlI, q_nlR, not_false_eq_true, q_nz0, q_nz1, q_zv0, q_zv1, q_tl1, q_tl0, q_wif, q_swc, q_swn, List.cons_append, List.nil_append, if_true, if_false, e10, e01, Bool.false_eq_true, sh_195, t_in1, t_cl1, hm, f1, l_m4, l_a23, e1, e2, e3, e4, c_bitCount hn, e5, nI_sh i (by omega)]
    rw [show folL τ n (i + 1) = if 0 < τ 6 i ∧ τ 6 i ≤ pcN n then folL τ n i ||| 2 ^ i else folL τ n i from rfl]
    by_cases z : 0 < τ 6 i
    · by_cases y : pcN n < τ 6 i
      · have y' : ¬ τ 6 i ≤ pcN n := by omega
        simp only [z, y, y', and_false, if_true, if_false, Int32.or_zero, nI_1]
      · have y' : τ 6 i ≤ pcN n := by omega
        simp only [z, y, y', and_self, if_true, if_false, nI_or, nI_1]
    · simp only [z, false_and, if_false, Int32.or_zero, nI_1]
  · rw [u189_4]
    simp only [u189_5, u189_6, u189_7, u189_8, u189_53, u189_54, eq_self, q_nl0, q_nlI, q_nlR, not_false_eq_true, q_nz0, q_nz1, q_zv0, q_zv1, q_tl1, q_tl0, q_wif, q_swc, q_swn, List.cons_append, List.nil_append, if_true, if_false, e10, e01, Bool.false_eq_true, sh_195, t_in1, t_cl1, hm, eq_false (nI_nlt (Nat.le_refl (τ 0 1)) (by omega))]
