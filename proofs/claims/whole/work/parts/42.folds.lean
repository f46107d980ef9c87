/-! loops as folds -/
def fL {α : Type} (s : Nat → α → α) (a : α) : Nat → α
  | 0 => a
  | i + 1 => s i (fL s a i)
theorem q_loopL {α : Type} (P : Nat → α → Prop) (n : Nat) (hs : ∀ i, i < n → ∀ l, ∃ l', P i l = P (i + 1) l') (l : α) : ∃ l', P 0 l = P n l' := by
  induction n with
  | zero => exact ⟨l, rfl⟩
  | succ n ih =>
    obtain ⟨l1, e1⟩ := ih (fun i hi => hs i (by omega))
    obtain ⟨l2, e2⟩ := hs n (by omega) l1
    exact ⟨l2, e1.trans e2⟩
theorem fL_s {α : Type} {s : Nat → α → α} {a : α} {i : Nat} : fL s a (i + 1) = s i (fL s a i) := rfl
theorem fL_more {α : Type} {s : Nat → α → α} {a : α} {k : Nat} (h : ∀ i o, k ≤ i → s i o = o) : ∀ j, fL s a (k + j) = fL s a k
  | 0 => rfl
  | j + 1 => (h (k + j) _ (Nat.le_add_right _ _)).trans (fL_more h j)
theorem fL_to {α : Type} {s : Nat → α → α} {a : α} {k n : Nat} (hk : k ≤ n) (h : ∀ i o, k ≤ i → s i o = o) : fL s a n = fL s a k := by
  have := fL_more (a := a) h (n - k)
  rw [show k + (n - k) = n by omega] at this
  exact this
theorem fO_lt {s : Nat → Option Nat → Option Nat} (hs : ∀ i o, s i o = o ∨ s i o = some i) : ∀ n b, fL s none n = some b → b < n
  | 0, b, h => by cases h
  | n + 1, b, h => by
    rw [fL_s] at h
    rcases hs n (fL s none n) with e | e
    · rw [e] at h
      have := fO_lt hs n b h
      omega
    · rw [e] at h
      cases h
      omega
def oI : Option Nat → Int32
  | none => -1
  | some b => nI b
def mI (v : Nat → Int32) : Option Nat → Int32
  | none => -1
  | some b => v b
def bS (p : Nat → Bool) (i a : Nat) : Nat := if p i = true then a ||| 2 ^ i else a
theorem oI_lt0 {b : Nat} (h : b < 2 ^ 31) : (nI b < 0) = False := eq_false (nI_pos h)
theorem m1_lt0 : ((-1 : Int32) < 0) = True := eq_true (by decide)
theorem m1_lt {b : Nat} (h : b < 2 ^ 31) : ((-1 : Int32) < nI b) = True := by
  refine eq_true (Int32.lt_iff_toInt_lt.mpr ?_)
  rw [nI_toInt h, show (-1 : Int32).toInt = -1 from rfl]
  omega
theorem pc_0 : ∀ n, n < 128 → (pcN n = 0) = (n = 0) := by decide +kernel
/-! the man who is out the longest -/
def lgM (A : Nat → Int32) (i : Nat) : Option Nat → Option Nat
  | none => some i
  | some b => if A (7 + b) < A (7 + i) then some i else some b
def lgS (A : Nat → Int32) (i : Nat) (o : Option Nat) : Option Nat := if (aN A).testBit i = true then lgM A i o else o
theorem lgS_o {A : Nat → Int32} (i : Nat) (o : Option Nat) : lgS A i o = o ∨ lgS A i o = some i := by
  unfold lgS
  split
  · cases o with
    | none => exact Or.inr rfl
    | some b =>
      by_cases y : A (7 + b) < A (7 + i)
      · exact Or.inr (if_pos y)
      · exact Or.inl (if_neg y)
  · exact Or.inl rfl
theorem bit_ge {n k i : Nat} (hn : n < 2 ^ k) (h : k ≤ i) : n.testBit i = false := by
  cases z : n.testBit i
  · rfl
  · have := bit_lt hn z
    omega
theorem b_longest {X : XT} {d T b f N : Nat} {h : HT} {τ : CT} {A : Nat → Int32} (H : CQ h T τ N A) (K : KQ h b f τ N A) (hN : N < 100000) : Pr X (d + 10) 101 [some (.ref 1), none, none, none] 246 [some (.ref 195), none, none] h := by
  have h7 := o_mn (cq_k H)
  have hp := cq_p H
  have hn := cq_n H
  have hT := ct_T (cq_t H)
  have s38 : (m_sh KS 38).1 = 7 := by rw [sh_38]
  have hlt := fO_lt (lgS_o (A := A))
  have hd : ∀ m, m < τ 0 1 → ((-1 : Int32) < A (7 + m)) = True := by
    intro m hm
    obtain ⟨_, _, _, y, y1, _, hd⟩ := cq_a H
    obtain ⟨z, z1, e, _⟩ := hd m hm
    rw [e]
    exact m1_lt (by omega)
  refine Pr_pure (oI (fL (lgS A) none (τ 0 1))) (fun Q => ?_) (fun Q => ?_)
  · rw [← fL_to (n := 7) h7 (s := lgS A) (fun i o hi => if_neg (by rw [bit_ge (cq_a H).1.2 hi]; decide))]
    simp only [u101_0, u101_1, u101_2, u101_3, u101_4, u101_5, eq_self, q_nl0, q_nlI, q_nlR, not_false_eq_true, q_nz0, q_nz1, q_zv0, q_zv1, q_tl1, q_tl0, q_wif, q_swc, q_swn, List.cons_append, List.nil_append, if_true, if_false, e10, e01, Bool.false_eq_true]
    refine (q_loop (fun i => wq X (d + 10) 101 6 [some (.ref 1), some (.int (oI (fL (lgS A) none i))), some (.int (mI (fun b => A (7 + b)) (fL (lgS A) none i))), some (.int (nI i))] [] h Q) 7 ?_).trans ?_
    · intro i hi
      show wq X (d + 10) 101 6 _ _ _ _ = _
      rw [u101_6, fL_s]
      have hl := hlt i
      generalize fL (lgS A) none i = o at hl ⊢
      have hb := bit01 hn (show i < 8 by omega)
      have e2 : (nI i < 7) = True := eq_true (nI_lt (b := 7) (by omega) (by omega))
      have e3 : m_in (nI i) 7 = true := q_in (by omega) (by decide)
      have e4 : (nI i).toNatClampNeg = i := q_cl (by omega)
      by_cases z : (aN A).testBit i = true
      · have hm := bit_lt (cq_a H).1.2 z
        have es : lgS A i o = lgM A i o := if_pos z
        rw [es]
        cases o with
        | none =>
          simp only [u101_7, u101_9, u101_12, u101_13, u101_16, u101_17, u101_20, u101_23, u101_24, u101_27, u101_30, u101_31, u101_32, u101_33, u101_36, u101_37, u101_38, u101_39, u101_42, u101_45, u101_46, u101_47, u101_48, u101_51, eq_self, q_nl0, q_nlI, q_nlR, not_false_eq_true, q_nz0, q_nz1, q_zv0, q_zv1, q_tl1, q_tl0, q_wif, q_swc, q_swn, List.cons_append, List.nil_append, if_true, if_false, e10, e01, Bool.false_eq_true, sh_1, sh_38, shS_1 is38, pS_1 is38 hp, e2, e3, e4, p_1_3 hp, c_isOut s38, cq_o H, hb, z, cq_dy H i hm z, mI, oI, lgM, hd i hm, nI_1]
        | some b =>
          simp only [u101_7, u101_9, u101_12, u101_13, u101_16, u101_17, u101_20, u101_23, u101_24, u101_27, u101_30, u101_31, u101_32, u101_33, u101_36, u101_37, u101_38, u101_39, u101_42, u101_45, u101_46, u101_47, u101_48, u101_51, eq_self, q_nl0, q_nlI, q_nlR, not_false_eq_true, q_nz0, q_nz1, q_zv0, q_zv1, q_tl1, q_tl0, q_wif, q_swc, q_swn, List.cons_append, List.nil_append, if_true, if_false, e10, e01, Bool.false_eq_true, sh_1, sh_38, shS_1 is38, pS_1 is38 hp, e2, e3, e4, p_1_3 hp, c_isOut s38, cq_o H, hb, z, cq_dy H i hm z, mI, oI, lgM, nI_1]
          by_cases y : A (7 + b) < A (7 + i)
          · simp only [y, if_true]
          · simp only [y, if_false]
      · have es : lgS A i o = o := if_neg z
        rw [es]
        simp only [u101_7, u101_9, u101_12, u101_13, u101_16, u101_17, u101_20, u101_23, u101_24, u101_27, u101_30, u101_31, u101_32, u101_33, u101_36, u101_37, u101_38, u101_39, u101_42, u101_45, u101_46, u101_47, u101_48, u101_51, eq_self, q_nl0, q_nlI, q_nlR, not_false_eq_true, q_nz0, q_nz1, q_zv0, q_zv1, q_tl1, q_tl0, q_wif, q_swc, q_swn, List.cons_append, List.nil_append, if_true, if_false, e10, e01, Bool.false_eq_true, sh_1, sh_38, e2, p_1_3 hp, c_isOut s38, cq_o H, hb, z, nI_1]
    · rw [u101_6]
      simp only [u101_7, u101_9, u101_12, u101_13, u101_16, u101_17, u101_20, u101_23, u101_24, u101_27, u101_30, u101_31, u101_32, u101_33, u101_36, u101_37, u101_38, u101_39, u101_42, u101_45, u101_46, u101_47, u101_48, u101_51, u101_54, u101_55, eq_self, q_nl0, q_nlI, q_nlR, not_false_eq_true, q_nz0, q_nz1, q_zv0, q_zv1, q_tl1, q_tl0, q_wif, q_swc, q_swn, List.cons_append, List.nil_append, if_true, if_false, e10, e01, Bool.false_eq_true, eq_false (show ¬ nI 7 < 7 by decide)]
  · simp only [u246_0, u246_1, u246_2, u246_3, eq_self, q_nl0, q_nlI, q_nlR, not_false_eq_true, q_nz0, q_nz1, q_zv0, q_zv1, q_tl1, q_tl0, q_wif, q_swc, q_swn, List.cons_append, List.nil_append, if_true, if_false, e10, e01, Bool.false_eq_true]
    refine (q_loop (fun i => wq X (d + 10) 246 4 [some (.ref 195), some (.int (oI (fL (lgS A) none i))), some (.int (nI i))] [] h Q) (τ 0 1) ?_).trans ?_
    · intro i hi
      show wq X (d + 10) 246 4 _ _ _ _ = _
      rw [u246_4, fL_s]
      have hl := hlt i
      generalize fL (lgS A) none i = o at hl ⊢
      have hb := bit01 hn (show i < 8 by omega)
      have e2 : (nI i < nI (τ 0 1)) = True := eq_true (nI_lt hi (by omega))
      have e3 : m_in (nI (7 + i)) 20 = true := q_in (by omega) (by decide)
      have e4 : (nI (7 + i)).toNatClampNeg = 7 + i := q_cl (by omega)
      by_cases z : (aN A).testBit i = true
      · have es : lgS A i o = lgM A i o := if_pos z
        rw [es]
        cases o with
        | none =>
          simp only [u246_5, u246_6, u246_9, u246_12, u246_13, u246_16, u246_18, u246_19, u246_20, u246_23, u246_26, u246_27, u246_30, u246_31, u246_34, u246_36, u246_37, u246_38, u246_39, u246_40, u246_43, u246_45, u246_46, u246_47, u246_48, u246_51, u246_52, u246_53, u246_56, eq_self, q_nl0, q_nlI, q_nlR, not_false_eq_true, q_nz0, q_nz1, q_zv0, q_zv1, q_tl1, q_tl0, q_wif, q_swc, q_swn, List.cons_append, List.nil_append, if_true, if_false, e10, e01, Bool.false_eq_true, sh_195, sh_227, k_many (mq_t K), e2, p_195_47 hp, in14, cl14, mq_o K, k_has, hb, z, oI, lgM, m1_lt0, nI_1]
        | some b =>
          have hbi := hl b rfl
          have e5 : m_in (nI (7 + b)) 20 = true := q_in (by omega) (by decide)
          have e6 : (nI (7 + b)).toNatClampNeg = 7 + b := q_cl (by omega)
          simp only [u246_5, u246_6, u246_9, u246_12, u246_13, u246_16, u246_18, u246_19, u246_20, u246_23, u246_26, u246_27, u246_30, u246_31, u246_34, u246_36, u246_37, u246_38, u246_39, u246_40, u246_43, u246_45, u246_46, u246_47, u246_48, u246_51, u246_52, u246_53, u246_56, eq_self, q_nl0, q_nlI, q_nlR, not_false_eq_true, q_nz0, q_nz1, q_zv0, q_zv1, q_tl1, q_tl0, q_wif, q_swc, q_swn, List.cons_append, List.nil_append, if_true, if_false, e10, e01, Bool.false_eq_true, sh_195, sh_227, k_many (mq_t K), e2, p_195_47 hp, in14, cl14, mq_o K, k_has, hb, z, oI, lgM, oI_lt0 (show b < 2 ^ 31 by omega), nI_7c, e3, e4, e5, e6, mq_A K, nI_1]
          by_cases y : A (7 + b) < A (7 + i)
          · simp only [y, if_true]
          · simp only [y, if_false]
      · have es : lgS A i o = o := if_neg z
        rw [es]
        simp only [u246_5, u246_6, u246_9, u246_12, u246_13, u246_16, u246_18, u246_19, u246_20, u246_23, u246_26, u246_27, u246_30, u246_31, u246_34, u246_36, u246_37, u246_38, u246_39, u246_40, u246_43, u246_45, u246_46, u246_47, u246_48, u246_51, u246_52, u246_53, u246_56, eq_self, q_nl0, q_nlI, q_nlR, not_false_eq_true, q_nz0, q_nz1, q_zv0, q_zv1, q_tl1, q_tl0, q_wif, q_swc, q_swn, List.cons_append, List.nil_append, if_true, if_false, e10, e01, Bool.false_eq_true, sh_195, sh_227, k_many (mq_t K), e2, p_195_47 hp, in14, cl14, mq_o K, k_has, hb, z, nI_1]
    · rw [u246_4]
      simp only [u246_5, u246_6, u246_9, u246_12, u246_13, u246_16, u246_18, u246_19, u246_20, u246_23, u246_26, u246_27, u246_30, u246_31, u246_34, u246_36, u246_37, u246_38, u246_39, u246_40, u246_43, u246_45, u246_46, u246_47, u246_48, u246_51, u246_52, u246_53, u246_56, u246_59, u246_60, eq_self, q_nl0, q_nlI, q_nlR, not_false_eq_true, q_nz0, q_nz1, q_zv0, q_zv1, q_tl1, q_tl0, q_wif, q_swc, q_swn, List.cons_append, List.nil_append, if_true, if_false, e10, e01, Bool.false_eq_true, sh_195, k_many (mq_t K), eq_false (nI_nlt (Nat.le_refl (τ 0 1)) (by omega))]
/-! who is in the city -/
def sCity (τ : CT) (n : Nat) : Nat := sAll τ &&& (127 ^^^ n)
theorem sCity_lt {τ : CT} {n : Nat} (H : cOk τ) : sCity τ n < 128 := Nat.lt_of_le_of_lt Nat.and_le_left (sAll_lt H)
theorem sCity_bit {τ : CT} {n i : Nat} (hi : i < 7) : (sCity τ n).testBit i = (decide (i < τ 0 1) && !n.testBit i) := by
  unfold sCity
  rw [and_bit hi]
  unfold sAll
  rw [Nat.testBit_two_pow_sub_one]
theorem and_b0 : ∀ c, c < 128 → ∀ i, i < 7 → (nI (c &&& 2 ^ i) = 0) = (c.testBit i = false) := by decide +kernel
theorem c_inCity {X : XT} {d T N : Nat} {h : HT} {Q : QT} {τ : CT} {A : Nat → Int32} (H : CQ h T τ N A) : wq X (d + 1) 134 0 [some (.ref 1)] [] h Q = Q (some (.int (nI (sCity τ (aN A))))) h := by
  simp only [u134_0, u134_1, u134_4, u134_7, u134_8, u134_11, u134_14, u134_15, u134_16, u134_17, eq_self, q_nl0, q_nlI, q_nlR, not_false_eq_true, q_nz0, q_nz1, q_zv0, q_zv1, q_tl1, q_tl0, q_wif, q_swc, q_swn, List.cons_append, List.nil_append, if_true, if_false, e10, e01, Bool.false_eq_true, sh_1, sh_38, shT_0 (ct_T (cq_t H)), cq_T H, p_1_3 (cq_p H), c_every (cq_t H), cq_o H, nI_not _ (sAll_lt (cq_k H)) _ (cq_n H)]
  rfl
theorem p2_lt {i : Nat} (h : i < 7) : 2 ^ i < 128 := Nat.pow_lt_pow_right (a := 2) (n := 7) (by decide) h
/-! pillars -/
def piP (τ : CT) (n : Nat) (i : Nat) : Bool := n.testBit i && decide (sShort τ n &&& (127 ^^^ sShort τ (n &&& (127 ^^^ 2 ^ i))) ≠ 0)
theorem bS_b {p : Nat → Bool} {i : Nat} {a : Nat} : bS p i a = if p i = true then a ||| 2 ^ i else a := rfl
theorem s128 {τ : CT} (H : cOk τ) (n : Nat) : sShort τ n < 128 := by
  have := sShort_16 H n
  omega
theorem and_128 {a b : Nat} (h : a < 128) : a &&& b < 128 := Nat.lt_of_le_of_lt Nat.and_le_left h
theorem nI_0eq {a : Nat} (h : a < 128) : (nI a = 0) = (a = 0) := propext (nI_eq (b := 0) (by omega) (by omega))
theorem b_pillars {X : XT} {d T b f N : Nat} {h : HT} {τ : CT} {A : Nat → Int32} (H : CQ h T τ N A) (K : KQ h b f τ N A) : Pr X (d + 10) 138 [some (.ref 1), none, none, none, none] 247 [some (.ref 195), none, none] h := by
  have h7 := o_mn (cq_k H)
  have hp := cq_p H
  have hn := cq_n H
  have hT := ct_T (cq_t H)
  have s38 : (m_sh KS 38).1 = 7 := by rw [sh_38]
  have hs := s128 (cq_k H) (aN A)
  refine Pr_pure (nI (fL (bS (piP τ (aN A))) 0 (τ 0 1))) (fun Q => ?_) (fun Q => ?_)
  · rw [← fL_to (n := 7) h7 (s := bS (piP τ (aN A))) (fun i o hi => if_neg (by unfold piP; rw [bit_ge (cq_a H).1.2 hi]; simp))]
    simp only [u138_0, u138_1, u138_2, u138_3, u138_6, u138_7, u138_10, u138_13, u138_16, u138_17, u138_18, eq_self, q_nl0, q_nlI, q_nlR, not_false_eq_true, q_nz0, q_nz1, q_zv0, q_zv1, q_tl1, q_tl0, q_wif, q_swc, q_swn, List.cons_append, List.nil_append, if_true, if_false, e10, e01, Bool.false_eq_true, sh_1, sh_38, shT_0 hT, cq_T H, p_1_3 hp, cq_o H, c_shortBy (cq_t H) hn]
    obtain ⟨l', e⟩ := q_loopL (fun i (l4 : Option Value) => wq X (d + 10) 138 19 [some (.ref 1), some (.int (nI (fL (bS (piP τ (aN A))) 0 i))), some (.int (nI (sShort τ (aN A)))), some (.int (nI i)), l4] [] h Q) 7 (by
      intro i hi l4
      refine ⟨some (.int (nI (2 ^ i))), ?_⟩
      have hb := bit01 hn (show i < 8 by omega)
      have e2 : (nI i < 7) = True := eq_true (nI_lt (b := 7) (by omega) (by omega))
      have hp2 := p2_lt hi
      show wq X (d + 10) 138 19 _ _ _ _ = _
      rw [u138_19, fL_s, bS_b]
      unfold piP
      simp only [u138_20, u138_22, u138_25, u138_26, u138_27, u138_28, u138_30, u138_31, u138_34, u138_35, u138_38, u138_41, u138_42, u138_43, u138_46, u138_47, u138_50, u138_53, u138_55, u138_56, u138_57, u138_58, u138_61, u138_62, u138_63, u138_64, u138_67, u138_68, u138_70, u138_71, u138_72, u138_75, eq_self, q_nl0, q_nlI, q_nlR, not_false_eq_true, q_nz0, q_nz1, q_zv0, q_zv1, q_tl1, q_tl0, q_wif, q_swc, q_swn, List.cons_append, List.nil_append, if_true, if_false, e10, e01, Bool.false_eq_true, sh_1, sh_38, shT_0 hT, e2, cq_T H, p_1_3 hp, c_isOut s38, cq_o H, hb, if_b1, if_b0, nI_sh i (by omega), nI_not _ hn _ hp2, c_shortBy (cq_t H) (and_128 hn), nI_not _ hs _ (s128 (cq_k H) _), nI_0eq (and_128 hs), nI_or, nI_1, Bool.and_eq_true, decide_eq_true_eq]
      by_cases z : (aN A).testBit i = true
      · by_cases y : sShort τ (aN A) &&& (127 ^^^ sShort τ (aN A &&& (127 ^^^ 2 ^ i))) = 0
        · simp only [z, y, not_true_eq_false, if_false, if_true, ne_eq, and_false]
        · simp only [z, y, not_true_eq_false, not_false_eq_true, if_false, if_true, ne_eq, and_self]
      · simp only [z, not_false_eq_true, if_true, if_false, false_and, Bool.false_eq_true]) none
    refine Eq.trans e ?_
    show wq X (d + 10) 138 19 _ _ _ _ = _
    rw [u138_19]
    simp only [u138_20, u138_22, u138_25, u138_26, u138_27, u138_28, u138_30, u138_31, u138_34, u138_35, u138_38, u138_41, u138_42, u138_43, u138_46, u138_47, u138_50, u138_53, u138_55, u138_56, u138_57, u138_58, u138_61, u138_62, u138_63, u138_64, u138_67, u138_68, u138_70, u138_71, u138_72, u138_75, u138_78, u138_79, eq_self, q_nl0, q_nlI, q_nlR, not_false_eq_true, q_nz0, q_nz1, q_zv0, q_zv1, q_tl1, q_tl0, q_wif, q_swc, q_swn, List.cons_append, List.nil_append, if_true, if_false, e10, e01, Bool.false_eq_true, eq_false (show ¬ nI 7 < 7 by decide)]
  · simp only [u247_0, u247_1, u247_2, u247_3, eq_self, q_nl0, q_nlI, q_nlR, not_false_eq_true, q_nz0, q_nz1, q_zv0, q_zv1, q_tl1, q_tl0, q_wif, q_swc, q_swn, List.cons_append, List.nil_append, if_true, if_false, e10, e01, Bool.false_eq_true]
    refine (q_loop (fun i => wq X (d + 10) 247 4 [some (.ref 195), some (.int (nI (fL (bS (piP τ (aN A))) 0 i))), some (.int (nI i))] [] h Q) (τ 0 1) ?_).trans ?_
    · intro i hi
      show wq X (d + 10) 247 4 _ _ _ _ = _
      rw [u247_4, fL_s, bS_b]
      have hb := bit01 hn (show i < 8 by omega)
      have e2 : (nI i < nI (τ 0 1)) = True := eq_true (nI_lt hi (by omega))
      have hp2 := p2_lt (show i < 7 by omega)
      unfold piP
      simp only [u247_5, u247_6, u247_9, u247_12, u247_13, u247_16, u247_18, u247_19, u247_20, u247_23, u247_26, u247_27, u247_28, u247_31, u247_33, u247_34, u247_37, u247_38, u247_39, u247_42, u247_44, u247_45, u247_46, u247_47, u247_48, u247_49, u247_50, u247_51, u247_54, u247_55, u247_56, u247_57, u247_60, u247_61, u247_62, u247_63, u247_64, u247_65, u247_66, u247_69, eq_self, q_nl0, q_nlI, q_nlR, not_false_eq_true, q_nz0, q_nz1, q_zv0, q_zv1, q_tl1, q_tl0, q_wif, q_swc, q_swn, List.cons_append, List.nil_append, if_true, if_false, e10, e01, Bool.false_eq_true, sh_195, sh_227, k_many (mq_t K), e2, p_195_47 hp, in14, cl14, mq_o K, k_has, hb, if_b1, if_b0, k_shortBy (mq_t K) hn, nI_sh i (by omega), nI_not _ hn _ hp2, k_shortBy (mq_t K) (and_128 hn), nI_not _ hs _ (s128 (cq_k H) _), nI_0eq (and_128 hs), nI_or, nI_1, Bool.and_eq_true, decide_eq_true_eq]
      by_cases z : (aN A).testBit i = true
      · by_cases y : sShort τ (aN A) &&& (127 ^^^ sShort τ (aN A &&& (127 ^^^ 2 ^ i))) = 0
        · simp only [z, y, not_true_eq_false, if_false, if_true, ne_eq, and_false]
        · simp only [z, y, not_true_eq_false, not_false_eq_true, if_false, if_true, ne_eq, and_self]
      · simp only [z, not_false_eq_true, if_true, if_false, false_and, Bool.false_eq_true]
    · rw [u247_4]
      simp only [u247_5, u247_6, u247_9, u247_12, u247_13, u247_16, u247_18, u247_19, u247_20, u247_23, u247_26, u247_27, u247_28, u247_31, u247_33, u247_34, u247_37, u247_38, u247_39, u247_42, u247_44, u247_45, u247_46, u247_47, u247_48, u247_49, u247_50, u247_51, u247_54, u247_55, u247_56, u247_57, u247_60, u247_61, u247_62, u247_63, u247_64, u247_65, u247_66, u247_69, u247_72, u247_73, eq_self, q_nl0, q_nlI, q_nlR, not_false_eq_true, q_nz0, q_nz1, q_zv0, q_zv1, q_tl1, q_tl0, q_wif, q_swc, q_swn, List.cons_append, List.nil_append, if_true, if_false, e10, e01, Bool.false_eq_true, sh_195, k_many (mq_t K), eq_false (nI_nlt (Nat.le_refl (τ 0 1)) (by omega))]
/-! idle -/
def idP (τ : CT) (n : Nat) (i : Nat) : Bool := (sCity τ n).testBit i && decide (sShort τ (n ||| 2 ^ i) = sShort τ n)
theorem or_128 {a b : Nat} (h : a < 128) (g : b < 128) : a ||| b < 128 := Nat.or_lt_two_pow (n := 7) h g
theorem nI_eqB {a b : Nat} (h : a < 2 ^ 31) (g : b < 2 ^ 31) : (nI a = nI b) = (a = b) := propext (nI_eq h g)
theorem nI_ltB {a b : Nat} (h : a < 2 ^ 31) (g : b < 2 ^ 31) : (nI a < nI b) = (a < b) := propext (nI_ltI h g)
theorem city_in {τ : CT} {n i : Nat} (h7 : τ 0 1 ≤ 7) (hi : i < τ 0 1) : ((sCity τ n).testBit i = true) = (n.testBit i = false) := by
  rw [sCity_bit (by omega), decide_eq_true hi, Bool.true_and]
  simp
theorem city_ge {τ : CT} {n i : Nat} (hi : τ 0 1 ≤ i) : (sCity τ n).testBit i = false := by
  refine bit_ge (k := τ 0 1) (Nat.lt_of_le_of_lt Nat.and_le_left ?_) hi
  have : 0 < 2 ^ τ 0 1 := Nat.two_pow_pos _
  unfold sAll
  omega
theorem b_idle {X : XT} {d T b f N : Nat} {h : HT} {τ : CT} {A : Nat → Int32} (H : CQ h T τ N A) (K : KQ h b f τ N A) : Pr X (d + 10) 139 [some (.ref 1), none, none, none, none, none] 248 [some (.ref 195), none, none] h := by
  have h7 := o_mn (cq_k H)
  have hp := cq_p H
  have hn := cq_n H
  have hT := ct_T (cq_t H)
  have hs : ∀ n, sShort τ n < 2 ^ 31 := fun n => by
    have := s128 (cq_k H) n
    omega
  have hc := sCity_lt (n := aN A) (cq_k H)
  refine Pr_pure (nI (fL (bS (idP τ (aN A))) 0 (τ 0 1))) (fun Q => ?_) (fun Q => ?_)
  · rw [← fL_to (n := 7) h7 (s := bS (idP τ (aN A))) (fun i o hi => if_neg (by unfold idP; rw [city_ge hi]; simp))]
    simp only [u139_0, u139_1, u139_2, u139_3, u139_6, u139_7, u139_8, u139_11, u139_12, u139_15, u139_18, u139_21, u139_22, u139_23, eq_self, q_nl0, q_nlI, q_nlR, not_false_eq_true, q_nz0, q_nz1, q_zv0, q_zv1, q_tl1, q_tl0, q_wif, q_swc, q_swn, List.cons_append, List.nil_append, if_true, if_false, e10, e01, Bool.false_eq_true, sh_1, sh_38, shT_0 hT, cq_T H, c_inCity H, p_1_3 hp, cq_o H, c_shortBy (cq_t H) hn]
    obtain ⟨l', e⟩ := q_loopL (fun i (l5 : Option Value) => wq X (d + 10) 139 25 [some (.ref 1), some (.int (nI (fL (bS (idP τ (aN A))) 0 i))), some (.int (nI (sCity τ (aN A)))), some (.int (nI (sShort τ (aN A)))), some (.int (nI i)), l5] [] h Q) 7 (by
      intro i hi l5
      refine ⟨some (.int (nI (2 ^ i))), ?_⟩
      have e2 : (nI i < 7) = True := eq_true (nI_lt (b := 7) (by omega) (by omega))
      have hp2 := p2_lt hi
      have hs1 := hs (aN A ||| 2 ^ i)
      show wq X (d + 10) 139 25 _ _ _ _ = _
      rw [u139_25, fL_s, bS_b]
      unfold idP
      simp only [u139_27, u139_29, u139_32, u139_33, u139_35, u139_36, u139_38, u139_39, u139_41, u139_42, u139_45, u139_46, u139_49, u139_50, u139_53, u139_56, u139_58, u139_59, u139_62, u139_63, u139_66, u139_67, u139_69, u139_70, u139_71, u139_74, eq_self, q_nl0, q_nlI, q_nlR, not_false_eq_true, q_nz0, q_nz1, q_zv0, q_zv1, q_tl1, q_tl0, q_wif, q_swc, q_swn, List.cons_append, List.nil_append, if_true, if_false, e10, e01, Bool.false_eq_true, sh_1, sh_38, shT_0 hT, e2, cq_T H, p_1_3 hp, cq_o H, nI_sh i (by omega), nI_and, and_b0 _ hc i hi, nI_or, c_shortBy (cq_t H) (or_128 hn hp2), nI_eqB hs1 (hs (aN A)), nI_1, Bool.and_eq_true, decide_eq_true_eq]
      by_cases z : (sCity τ (aN A)).testBit i = true
      · by_cases y : sShort τ (aN A ||| 2 ^ i) = sShort τ (aN A)
        · simp only [z, y, if_false, if_true, Bool.true_eq_false, and_self]
        · simp only [z, y, if_false, and_false, Bool.true_eq_false]
      · have z' : (sCity τ (aN A)).testBit i = false := by simpa using z
        simp only [z', if_true, if_false, false_and, Bool.false_eq_true]) none
    refine Eq.trans e ?_
    show wq X (d + 10) 139 25 _ _ _ _ = _
    rw [u139_25]
    simp only [u139_27, u139_29, u139_32, u139_33, u139_35, u139_36, u139_38, u139_39, u139_41, u139_42, u139_45, u139_46, u139_49, u139_50, u139_53, u139_56, u139_58, u139_59, u139_62, u139_63, u139_66, u139_67, u139_69, u139_70, u139_71, u139_74, u139_77, u139_78, eq_self, q_nl0, q_nlI, q_nlR, not_false_eq_true, q_nz0, q_nz1, q_zv0, q_zv1, q_tl1, q_tl0, q_wif, q_swc, q_swn, List.cons_append, List.nil_append, if_true, if_false, e10, e01, Bool.false_eq_true, eq_false (show ¬ nI 7 < 7 by decide)]
  · simp only [u248_0, u248_1, u248_2, u248_3, eq_self, q_nl0, q_nlI, q_nlR, not_false_eq_true, q_nz0, q_nz1, q_zv0, q_zv1, q_tl1, q_tl0, q_wif, q_swc, q_swn, List.cons_append, List.nil_append, if_true, if_false, e10, e01, Bool.false_eq_true]
    refine (q_loop (fun i => wq X (d + 10) 248 4 [some (.ref 195), some (.int (nI (fL (bS (idP τ (aN A))) 0 i))), some (.int (nI i))] [] h Q) (τ 0 1) ?_).trans ?_
    · intro i hi
      show wq X (d + 10) 248 4 _ _ _ _ = _
      rw [u248_4, fL_s, bS_b]
      have hb := bit01 hn (show i < 8 by omega)
      have e2 : (nI i < nI (τ 0 1)) = True := eq_true (nI_lt hi (by omega))
      have hp2 := p2_lt (show i < 7 by omega)
      have hs1 := hs (aN A ||| 2 ^ i)
      unfold idP
      simp only [u248_5, u248_6, u248_9, u248_12, u248_13, u248_16, u248_18, u248_19, u248_20, u248_23, u248_26, u248_27, u248_28, u248_31, u248_33, u248_34, u248_35, u248_36, u248_37, u248_38, u248_41, u248_42, u248_43, u248_46, u248_48, u248_49, u248_52, u248_55, u248_56, u248_57, u248_58, u248_59, u248_60, u248_61, u248_64, eq_self, q_nl0, q_nlI, q_nlR, not_false_eq_true, q_nz0, q_nz1, q_zv0, q_zv1, q_tl1, q_tl0, q_wif, q_swc, q_swn, List.cons_append, List.nil_append, if_true, if_false, e10, e01, Bool.false_eq_true, sh_195, sh_227, k_many (mq_t K), e2, p_195_47 hp, in14, cl14, mq_o K, k_has, hb, if_b1, if_b0, k_shortBy (mq_t K) hn, nI_sh i (by omega), nI_or, k_shortBy (mq_t K) (or_128 hn hp2), nI_eqB hs1 (hs (aN A)), nI_1, Bool.and_eq_true, decide_eq_true_eq, city_in h7 hi]
      by_cases z : (aN A).testBit i = true
      · simp only [z, not_true_eq_false, if_false, Bool.true_eq_false, false_and]
      · have z' : (aN A).testBit i = false := by simpa using z
        by_cases y : sShort τ (aN A ||| 2 ^ i) = sShort τ (aN A)
        · simp only [z', y, not_false_eq_true, if_true, Bool.false_eq_true, and_self]
        · simp only [z', y, not_false_eq_true, if_false, if_true, Bool.false_eq_true, and_false]
    · rw [u248_4]
      simp only [u248_5, u248_6, u248_9, u248_12, u248_13, u248_16, u248_18, u248_19, u248_20, u248_23, u248_26, u248_27, u248_28, u248_31, u248_33, u248_34, u248_35, u248_36, u248_37, u248_38, u248_41, u248_42, u248_43, u248_46, u248_48, u248_49, u248_52, u248_55, u248_56, u248_57, u248_58, u248_59, u248_60, u248_61, u248_64, u248_67, u248_68, eq_self, q_nl0, q_nlI, q_nlR, not_false_eq_true, q_nz0, q_nz1, q_zv0, q_zv1, q_tl1, q_tl0, q_wif, q_swc, q_swn, List.cons_append, List.nil_append, if_true, if_false, e10, e01, Bool.false_eq_true, sh_195, k_many (mq_t K), eq_false (nI_nlt (Nat.le_refl (τ 0 1)) (by omega))]
/-! the dearest -/
def deM (τ : CT) (n : Nat) (i : Nat) : Option Nat → Option Nat
  | none => some i
  | some b => if sLoss τ (n ||| 2 ^ b) < sLoss τ (n ||| 2 ^ i) then some i else some b
def deS (τ : CT) (n : Nat) (i : Nat) (o : Option Nat) : Option Nat := if (sCity τ n).testBit i = true then deM τ n i o else o
theorem deS_o {τ : CT} {n : Nat} (i : Nat) (o : Option Nat) : deS τ n i o = o ∨ deS τ n i o = some i := by
  unfold deS
  split
  · cases o with
    | none => exact Or.inr rfl
    | some b =>
      by_cases y : sLoss τ (n ||| 2 ^ b) < sLoss τ (n ||| 2 ^ i)
      · exact Or.inr (if_pos y)
      · exact Or.inl (if_neg y)
  · exact Or.inl rfl
theorem b_dearest {X : XT} {d T b f N : Nat} {h : HT} {τ : CT} {A : Nat → Int32} (H : CQ h T τ N A) (K : KQ h b f τ N A) : Pr X (d + 10) 140 [some (.ref 1), none, none, none, none, none] 249 [some (.ref 195), none, none] h := by
  have h7 := o_mn (cq_k H)
  have hp := cq_p H
  have hn := cq_n H
  have hT := ct_T (cq_t H)
  have hs : ∀ n, sLoss τ n < 2 ^ 31 := fun n => by
    have := sLoss_le (cq_k H) n
    omega
  have hc := sCity_lt (n := aN A) (cq_k H)
  have hlt := fO_lt (deS_o (τ := τ) (n := aN A))
  refine Pr_pure (oI (fL (deS τ (aN A)) none (τ 0 1))) (fun Q => ?_) (fun Q => ?_)
  · rw [← fL_to (n := 7) h7 (s := deS τ (aN A)) (fun i o hi => if_neg (by rw [city_ge hi]; decide))]
    simp only [u140_0, u140_1, u140_2, u140_3, u140_4, u140_5, u140_8, u140_9, u140_10, eq_self, q_nl0, q_nlI, q_nlR, not_false_eq_true, q_nz0, q_nz1, q_zv0, q_zv1, q_tl1, q_tl0, q_wif, q_swc, q_swn, List.cons_append, List.nil_append, if_true, if_false, e10, e01, Bool.false_eq_true, sh_1, sh_38, c_inCity H]
    obtain ⟨l', e⟩ := q_loopL (fun i (l5 : Option Value) => wq X (d + 10) 140 12 [some (.ref 1), some (.int (oI (fL (deS τ (aN A)) none i))), some (.int (mI (fun b => nI (sLoss τ (aN A ||| 2 ^ b))) (fL (deS τ (aN A)) none i))), some (.int (nI (sCity τ (aN A)))), some (.int (nI i)), l5] [] h Q) 7 (by
      intro i hi l5
      refine ⟨some (.int (nI (2 ^ i))), ?_⟩
      have e2 : (nI i < 7) = True := eq_true (nI_lt (b := 7) (by omega) (by omega))
      have hp2 := p2_lt hi
      show wq X (d + 10) 140 12 _ _ _ _ = _
      rw [u140_12, fL_s]
      generalize fL (deS τ (aN A)) none i = o
      by_cases z : (sCity τ (aN A)).testBit i = true
      · have es : deS τ (aN A) i o = deM τ (aN A) i o := if_pos z
        rw [es]
        cases o with
        | none =>
          simp only [u140_14, u140_16, u140_19, u140_20, u140_22, u140_23, u140_25, u140_26, u140_28, u140_29, u140_32, u140_33, u140_36, u140_37, u140_40, u140_43, u140_45, u140_46, u140_49, u140_50, u140_53, u140_55, u140_56, u140_57, u140_60, u140_61, u140_64, u140_67, u140_69, u140_70, u140_73, u140_74, u140_77, eq_self, q_nl0, q_nlI, q_nlR, not_false_eq_true, q_nz0, q_nz1, q_zv0, q_zv1, q_tl1, q_tl0, q_wif, q_swc, q_swn, List.cons_append, List.nil_append, if_true, if_false, e10, e01, Bool.false_eq_true, sh_1, sh_38, shT_0 hT, e2, cq_T H, p_1_3 hp, cq_o H, nI_sh i (by omega), nI_and, and_b0 _ hc i hi, z, Bool.true_eq_false, nI_or, c_lossBy (cq_t H) (or_128 hn hp2), mI, oI, deM, m1_lt (hs _), nI_1]
        | some b =>
          simp only [u140_14, u140_16, u140_19, u140_20, u140_22, u140_23, u140_25, u140_26, u140_28, u140_29, u140_32, u140_33, u140_36, u140_37, u140_40, u140_43, u140_45, u140_46, u140_49, u140_50, u140_53, u140_55, u140_56, u140_57, u140_60, u140_61, u140_64, u140_67, u140_69, u140_70, u140_73, u140_74, u140_77, eq_self, q_nl0, q_nlI, q_nlR, not_false_eq_true, q_nz0, q_nz1, q_zv0, q_zv1, q_tl1, q_tl0, q_wif, q_swc, q_swn, List.cons_append, List.nil_append, if_true, if_false, e10, e01, Bool.false_eq_true, sh_1, sh_38, shT_0 hT, e2, cq_T H, p_1_3 hp, cq_o H, nI_sh i (by omega), nI_and, and_b0 _ hc i hi, z, Bool.true_eq_false, nI_or, c_lossBy (cq_t H) (or_128 hn hp2), mI, oI, deM, nI_ltB (hs _) (hs _), nI_1]
          by_cases y : sLoss τ (aN A ||| 2 ^ b) < sLoss τ (aN A ||| 2 ^ i)
          · simp only [y, if_true]
          · simp only [y, if_false]
      · have es : deS τ (aN A) i o = o := if_neg z
        have z' : (sCity τ (aN A)).testBit i = false := by simpa using z
        rw [es]
        simp only [u140_14, u140_16, u140_19, u140_20, u140_22, u140_23, u140_25, u140_26, u140_28, u140_29, u140_32, u140_33, u140_36, u140_37, u140_40, u140_43, u140_45, u140_46, u140_49, u140_50, u140_53, u140_55, u140_56, u140_57, u140_60, u140_61, u140_64, u140_67, u140_69, u140_70, u140_73, u140_74, u140_77, eq_self, q_nl0, q_nlI, q_nlR, not_false_eq_true, q_nz0, q_nz1, q_zv0, q_zv1, q_tl1, q_tl0, q_wif, q_swc, q_swn, List.cons_append, List.nil_append, if_true, if_false, e10, e01, Bool.false_eq_true, sh_1, sh_38, e2, nI_sh i (by omega), nI_and, and_b0 _ hc i hi, z', nI_1]) none
    refine Eq.trans e ?_
    show wq X (d + 10) 140 12 _ _ _ _ = _
    rw [u140_12]
    simp only [u140_14, u140_16, u140_19, u140_20, u140_22, u140_23, u140_25, u140_26, u140_28, u140_29, u140_32, u140_33, u140_36, u140_37, u140_40, u140_43, u140_45, u140_46, u140_49, u140_50, u140_53, u140_55, u140_56, u140_57, u140_60, u140_61, u140_64, u140_67, u140_69, u140_70, u140_73, u140_74, u140_77, u140_80, u140_81, eq_self, q_nl0, q_nlI, q_nlR, not_false_eq_true, q_nz0, q_nz1, q_zv0, q_zv1, q_tl1, q_tl0, q_wif, q_swc, q_swn, List.cons_append, List.nil_append, if_true, if_false, e10, e01, Bool.false_eq_true, eq_false (show ¬ nI 7 < 7 by decide)]
  · simp only [u249_0, u249_1, u249_2, u249_3, eq_self, q_nl0, q_nlI, q_nlR, not_false_eq_true, q_nz0, q_nz1, q_zv0, q_zv1, q_tl1, q_tl0, q_wif, q_swc, q_swn, List.cons_append, List.nil_append, if_true, if_false, e10, e01, Bool.false_eq_true]
    refine (q_loop (fun i => wq X (d + 10) 249 4 [some (.ref 195), some (.int (oI (fL (deS τ (aN A)) none i))), some (.int (nI i))] [] h Q) (τ 0 1) ?_).trans ?_
    · intro i hi
      show wq X (d + 10) 249 4 _ _ _ _ = _
      rw [u249_4, fL_s]
      have hl := hlt i
      generalize fL (deS τ (aN A)) none i = o at hl ⊢
      have hb := bit01 hn (show i < 8 by omega)
      have e2 : (nI i < nI (τ 0 1)) = True := eq_true (nI_lt hi (by omega))
      have hp2 := p2_lt (show i < 7 by omega)
      have ci := city_in (n := aN A) h7 hi
      by_cases z : (aN A).testBit i = false
      · have es : deS τ (aN A) i o = deM τ (aN A) i o := if_pos (ci.mpr z)
        rw [es]
        cases o with
        | none =>
          simp only [u249_5, u249_6, u249_9, u249_12, u249_13, u249_16, u249_18, u249_19, u249_20, u249_23, u249_26, u249_27, u249_30, u249_31, u249_32, u249_35, u249_37, u249_38, u249_39, u249_40, u249_41, u249_42, u249_45, u249_46, u249_47, u249_50, u249_52, u249_53, u249_54, u249_55, u249_56, u249_57, u249_60, u249_63, u249_64, u249_65, u249_68, eq_self, q_nl0, q_nlI, q_nlR, not_false_eq_true, q_nz0, q_nz1, q_zv0, q_zv1, q_tl1, q_tl0, q_wif, q_swc, q_swn, List.cons_append, List.nil_append, if_true, if_false, e10, e01, Bool.false_eq_true, sh_195, sh_227, k_many (mq_t K), e2, p_195_47 hp, in14, cl14, mq_o K, k_has, hb, z, oI, deM, m1_lt0, nI_1]
        | some b =>
          have hbi := hl b rfl
          have hpb := p2_lt (show b < 7 by omega)
          simp only [u249_5, u249_6, u249_9, u249_12, u249_13, u249_16, u249_18, u249_19, u249_20, u249_23, u249_26, u249_27, u249_30, u249_31, u249_32, u249_35, u249_37, u249_38, u249_39, u249_40, u249_41, u249_42, u249_45, u249_46, u249_47, u249_50, u249_52, u249_53, u249_54, u249_55, u249_56, u249_57, u249_60, u249_63, u249_64, u249_65, u249_68, eq_self, q_nl0, q_nlI, q_nlR, not_false_eq_true, q_nz0, q_nz1, q_zv0, q_zv1, q_tl1, q_tl0, q_wif, q_swc, q_swn, List.cons_append, List.nil_append, if_true, if_false, e10, e01, Bool.false_eq_true, sh_195, sh_227, k_many (mq_t K), e2, p_195_47 hp, in14, cl14, mq_o K, k_has, hb, z, oI, deM, oI_lt0 (show b < 2 ^ 31 by omega), nI_sh i (by omega), nI_sh b (by omega), nI_or, k_lossBy (mq_t K) (or_128 hn hp2), k_lossBy (mq_t K) (or_128 hn hpb), nI_ltB (hs _) (hs _), nI_1]
          by_cases y : sLoss τ (aN A ||| 2 ^ b) < sLoss τ (aN A ||| 2 ^ i)
          · simp only [y, if_true]
          · simp only [y, if_false]
      · have es : deS τ (aN A) i o = o := if_neg (fun w => z (ci.mp w))
        have z' : (aN A).testBit i = true := by simpa using z
        rw [es]
        simp only [u249_5, u249_6, u249_9, u249_12, u249_13, u249_16, u249_18, u249_19, u249_20, u249_23, u249_26, u249_27, u249_30, u249_31, u249_32, u249_35, u249_37, u249_38, u249_39, u249_40, u249_41, u249_42, u249_45, u249_46, u249_47, u249_50, u249_52, u249_53, u249_54, u249_55, u249_56, u249_57, u249_60, u249_63, u249_64, u249_65, u249_68, eq_self, q_nl0, q_nlI, q_nlR, not_false_eq_true, q_nz0, q_nz1, q_zv0, q_zv1, q_tl1, q_tl0, q_wif, q_swc, q_swn, List.cons_append, List.nil_append, if_true, if_false, e10, e01, Bool.false_eq_true, sh_195, sh_227, k_many (mq_t K), e2, p_195_47 hp, in14, cl14, mq_o K, k_has, hb, z', nI_1]
    · rw [u249_4]
      simp only [u249_5, u249_6, u249_9, u249_12, u249_13, u249_16, u249_18, u249_19, u249_20, u249_23, u249_26, u249_27, u249_30, u249_31, u249_32, u249_35, u249_37, u249_38, u249_39, u249_40, u249_41, u249_42, u249_45, u249_46, u249_47, u249_50, u249_52, u249_53, u249_54, u249_55, u249_56, u249_57, u249_60, u249_63, u249_64, u249_65, u249_68, u249_71, u249_72, eq_self, q_nl0, q_nlI, q_nlR, not_false_eq_true, q_nz0, q_nz1, q_zv0, q_zv1, q_tl1, q_tl0, q_wif, q_swc, q_swn, List.cons_append, List.nil_append, if_true, if_false, e10, e01, Bool.false_eq_true, sh_195, k_many (mq_t K), eq_false (nI_nlt (Nat.le_refl (τ 0 1)) (by omega))]
