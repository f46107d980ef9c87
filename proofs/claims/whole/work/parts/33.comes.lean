/-! the model's run of a formula is the same value -/
theorem nI_dn {p : Nat} : nI (p + 1) - 1 = nI p := by
  rw [← nI_1]
  exact Int32.add_sub_cancel _ _
theorem nI_dnN {p : Nat} : nI (p + 1) + -1 = nI p := by
  rw [← nI_1, Int32.add_assoc]
  exact Int32.add_zero _
theorem fOps_126 : ∀ k ∈ fOps, ¬ nI k = 126 := by decide
theorem fBins_126 : ∀ k ∈ fBins, ¬ nI k = 126 := by decide
theorem k_comesL {X : XT} {d b f m n : Nat} {h : HT} {Q : QT} {τ : CT} {A c : Nat → Int32} {o : Int32} (H : MTown h b τ) (R : MRule h b f τ) (F : fOk τ) (h0 : 0 < τ 0 9) (hm : m < τ 0 1) (hn : n < 128) (ho : A 14 = nI n) (hb : n.testBit m = true) :
    ∀ k i (l3 : Option Value), i + k = τ 0 9 → wq X (d + 4) 231 12 [some (.ref 195), some (.int (nI (fH τ i))), some (.int (nI (f + i))), l3] [] (hK h A (fC τ (mU τ A n m) c i) (nI m) o) Q = Q (some (.int (fC τ (mU τ A n m) c (τ 0 9) 0))) (hK h A (fC τ (mU τ A n m) c (τ 0 9)) (nI m) o)
  | 0, i, l3, hi => by
    have hi' : i = τ 0 9 := by omega
    subst hi'
    have hbb := mt_b H
    have hl := R.1
    have HK : ∀ P, MTown (hK h A P (nI m) o) b τ := fun P => H
    have RK : ∀ P, m_gI (hK h A P (nI m) o) 215 b = nI (f + τ 0 9) := fun P => R.2.2.2.1 h0
    have e1 : m_in (nI b) 2 = true := q_in (by omega) (by decide)
    have e2 : (nI b).toNatClampNeg = b := q_cl (by omega)
    have e3 : (nI (f + τ 0 9) < nI (f + τ 0 9)) = False := eq_false (nI_nlt (Nat.le_refl _) (by omega))
    simp only [u231_12, u231_13, u231_14, u231_17, u231_18, u231_21, u231_22, u231_130, u231_131, u231_134, u231_135, u231_136, eq_self, q_nl0, q_nlI, q_nlR, not_false_eq_true, q_nz0, q_nz1, q_zv0, q_zv1, q_tl1, q_tl0, q_wif, q_swc, q_swn, List.cons_append, List.nil_append, sh_195, sh_215, sh_226, gR_hK, p_195_28 (mt_p H), p_195_39 (mt_p H), mt_k (HK _), e1, e2, RK, e3, if_false, show m_in 0 60 = true by decide, show (0 : Int32).toNatClampNeg = 0 by decide, gI_hK226]
  | k + 1, i, l3, hi => by
    have hbb := mt_b H
    have hl := R.1
    have hp := mt_p H
    have ih := k_comesL (X := X) (d := d) (Q := Q) (c := c) (o := o) H R F h0 hm hn ho hb k (i + 1)
    have HK : ∀ P, MTown (hK h A P (nI m) o) b τ := fun P => H
    have RK : ∀ P, m_gI (hK h A P (nI m) o) 215 b = nI (f + τ 0 9) := fun P => R.2.2.2.1 h0
    have CK : ∀ P, m_gI (hK h A P (nI m) o) 222 (f + i) = nI (τ 9 i) := fun P => R.2.2.2.2.1 i (by omega)
    have NK : ∀ P, m_gI (hK h A P (nI m) o) 223 (f + i) = nI (τ 10 i) := fun P => R.2.2.2.2.2 i (by omega)
    have e1 : m_in (nI b) 2 = true := q_in (by omega) (by decide)
    have e2 : (nI b).toNatClampNeg = b := q_cl (by omega)
    have e3 : (nI (f + i) < nI (f + τ 0 9)) = True := eq_true (nI_lt (by omega) (by omega))
    have e4 : m_in (nI (f + i)) 1120 = true := q_in (by omega) (by decide)
    have e5 : (nI (f + i)).toNatClampNeg = f + i := q_cl (by omega)
    have ca := fun (Q : QT) (P : Nat → Int32) (kk vv : Nat) (hk : kk ∈ fOps) => k_asked (X := X) (d := d) (k := kk) (v := vv) (Q := Q) (P := P) (o := o) H hm hn ho hb hk
    simp only [u231_12, u231_13, u231_14, u231_17, u231_18, u231_21, u231_22, u231_25, u231_26, u231_29, u231_30, u231_31, u231_32, u231_33, u231_35, eq_self, q_nl0, q_nlI, q_nlR, not_false_eq_true, q_nz0, q_nz1, q_zv0, q_zv1, q_tl1, q_tl0, q_wif, q_swc, q_swn, List.cons_append, List.nil_append, sh_195, sh_215, sh_222, gR_hK, p_195_28 hp, p_195_35 hp, mt_k (HK _), e1, e2, RK, e3, e4, e5, CK, if_true]
    have go : ∀ (l3 : Option Value), wq X (d + 4) 231 124 [some (.ref 195), some (.int (nI (fH τ (i + 1)))), some (.int (nI (f + i))), l3] [] (hK h A (fC τ (mU τ A n m) c (i + 1)) (nI m) o) Q = Q (some (.int (fC τ (mU τ A n m) c (τ 0 9) 0))) (hK h A (fC τ (mU τ A n m) c (τ 0 9)) (nI m) o) := by
      intro l3
      simp only [u231_124, u231_127, eq_self, q_nl0, q_nlI, q_nlR, not_false_eq_true, q_nz0, q_nz1, q_zv0, q_zv1, q_tl1, q_tl0, q_wif, q_swc, q_swn, List.cons_append, List.nil_append, nI_1]
      exact ih l3 (by omega)
    have hH : fH τ (i + 1) = if τ 9 i ∈ fOps then fH τ i + 1 else if τ 9 i = 126 then fH τ i else fH τ i - 1 := rfl
    have hC : fC τ (mU τ A n m) c (i + 1) = if τ 9 i ∈ fOps then up (fC τ (mU τ A n m) c i) (fH τ i) (fUnit (mU τ A n m) (τ 9 i) (τ 10 i)) else if τ 9 i = 126 then up (fC τ (mU τ A n m) c i) (fH τ i - 1) (if fC τ (mU τ A n m) c i (fH τ i - 1) = 0 then 1 else 0) else up (fC τ (mU τ A n m) c i) (fH τ i - 2) (fJoin (τ 9 i) (fC τ (mU τ A n m) c i (fH τ i - 2)) (fC τ (mU τ A n m) c i (fH τ i - 1))) := rfl
    rw [hH, hC] at go
    have hk := F.2.1 i (by omega)
    generalize fC τ (mU τ A n m) c i = ce at go ⊢
    generalize fH τ i = p0 at go hk ⊢
    generalize τ 10 i = v at go hk NK ⊢
    generalize τ 9 i = q at go hk ⊢
    rcases hk with ⟨z, w, w2⟩ | ⟨z, w, w2⟩ | ⟨z, w, w2⟩
    · rw [if_pos z, if_pos z] at go
      have e6 : m_in (nI p0) 60 = true := q_in (by omega) (by decide)
      have e7 : (nI p0).toNatClampNeg = p0 := q_cl (by omega)
      rw [if_neg (fOps_126 q z)]
      simp only [u231_65, u231_66, u231_69, u231_72, u231_73, u231_76, u231_77, u231_78, u231_79, u231_80, u231_83, u231_84, u231_85, u231_88, u231_89, u231_92, eq_self, q_nl0, q_nlI, q_nlR, not_false_eq_true, q_nz0, q_nz1, q_zv0, q_zv1, q_tl1, q_tl0, q_wif, q_swc, q_swn, List.cons_append, List.nil_append, sh_195, sh_223, sh_226, k_isLetter (Or.inl z), if_pos z, eq_false (show ¬ (1 : Int32) = 0 by decide), if_false, gR_hK, p_195_36 hp, p_195_39 hp, e4, e5, NK, ca _ _ _ _ z, e6, e7, sI_hK226, nI_1]
      exact go _
    · subst z
      have nz : 126 ∉ fOps := by decide
      rw [if_neg nz, if_pos rfl, if_neg nz, if_pos rfl] at go
      obtain ⟨p, rfl⟩ : ∃ p, p0 = p + 1 := ⟨p0 - 1, by omega⟩
      rw [show p + 1 - 1 = p by omega] at go
      have e6 : m_in (nI p) 60 = true := q_in (by omega) (by decide)
      have e7 : (nI p).toNatClampNeg = p := q_cl (by omega)
      rw [if_pos (show nI 126 = 126 from rfl)]
      simp only [u231_38, u231_39, u231_42, u231_43, u231_44, u231_45, u231_46, u231_49, u231_50, u231_51, u231_52, u231_53, eq_self, q_nl0, q_nlI, q_nlR, not_false_eq_true, q_nz0, q_nz1, q_zv0, q_zv1, q_tl1, q_tl0, q_wif, q_swc, q_swn, List.cons_append, List.nil_append, sh_195, sh_226, gR_hK, p_195_39 hp, nI_dn, e6, e7, gI_hK226]
      split
      · next y =>
        rw [if_pos y] at go
        simp only [u231_56, u231_57, u231_60, u231_61, u231_62, eq_self, q_nl0, q_nlI, q_nlR, not_false_eq_true, q_nz0, q_nz1, q_zv0, q_zv1, q_tl1, q_tl0, q_wif, q_swc, q_swn, List.cons_append, List.nil_append, sh_226, e6, e7, sI_hK226]
        exact go _
      · next y =>
        rw [if_neg y] at go
        simp only [u231_56, u231_57, u231_60, u231_61, u231_62, eq_self, q_nl0, q_nlI, q_nlR, not_false_eq_true, q_nz0, q_nz1, q_zv0, q_zv1, q_tl1, q_tl0, q_wif, q_swc, q_swn, List.cons_append, List.nil_append, sh_226, e6, e7, sI_hK226]
        exact go _
    · have nz := fBins_no z
      rw [if_neg nz.1, if_neg nz.2, if_neg nz.1, if_neg nz.2] at go
      obtain ⟨p, rfl⟩ : ∃ p, p0 = p + 1 + 1 := ⟨p0 - 2, by omega⟩
      rw [show p + 1 + 1 - 1 = p + 1 by omega, show p + 1 + 1 - 2 = p by omega] at go
      have e6 : m_in (nI p) 60 = true := q_in (by omega) (by decide)
      have e7 : (nI p).toNatClampNeg = p := q_cl (by omega)
      have e8 : m_in (nI (p + 1)) 60 = true := q_in (by omega) (by decide)
      have e9 : (nI (p + 1)).toNatClampNeg = p + 1 := q_cl (by omega)
      rw [if_neg (fBins_126 q z)]
      simp only [u231_65, u231_66, u231_69, u231_95, u231_98, u231_99, u231_102, u231_103, u231_104, u231_105, u231_106, u231_107, u231_110, u231_111, u231_112, u231_113, u231_114, u231_115, u231_118, u231_119, u231_120, u231_123, eq_self, q_nl0, q_nlI, q_nlR, not_false_eq_true, q_nz0, q_nz1, q_zv0, q_zv1, q_tl1, q_tl0, q_wif, q_swc, q_swn, List.cons_append, List.nil_append, sh_195, sh_226, k_isLetter (Or.inr z), if_neg nz.1, if_true, gR_hK, p_195_39 hp, nI_dnN, nI_dn, e6, e7, e8, e9, gI_hK226, k_two z, sI_hK226]
      exact go _
theorem k_comes {X : XT} {d b f m n : Nat} {h : HT} {Q : QT} {τ : CT} {A P : Nat → Int32} {o : Int32} (H : MTown h b τ) (R : MRule h b f τ) (F : fOk τ) (h0 : 0 < τ 0 9) (hm : m < τ 0 1) (hn : n < 128) (ho : A 14 = nI n) (hb : n.testBit m = true) : wq X (d + 4) 231 0 [some (.ref 195), none, none, none] [] (hK h A P (nI m) o) Q = Q (some (.int (fVal τ (mU τ A n m)))) (hK h A (fC τ (mU τ A n m) P (τ 0 9)) (nI m) o) := by
  have hbb := mt_b H
  have HK : MTown (hK h A P (nI m) o) b τ := H
  have RK : m_gI (hK h A P (nI m) o) 214 b = nI f := R.2.2.1 h0
  have e1 : m_in (nI b) 2 = true := q_in (by omega) (by decide)
  have e2 : (nI b).toNatClampNeg = b := q_cl (by omega)
  simp only [u231_0, u231_1, u231_2, u231_3, u231_6, u231_7, u231_10, u231_11, eq_self, q_nl0, q_nlI, q_nlR, not_false_eq_true, q_nz0, q_nz1, q_zv0, q_zv1, q_tl1, q_tl0, q_wif, q_swc, q_swn, List.cons_append, List.nil_append, sh_195, sh_214, gR_hK, p_195_27 (mt_p H), mt_k HK, e1, e2, RK]
  have := k_comesL (X := X) (d := d) (Q := Q) (c := P) (o := o) H R F h0 hm hn ho hb (τ 0 9) 0 none (by omega)
  refine Eq.trans this ?_
  have e : fC τ (mU τ A n m) P (τ 0 9) 0 = fVal τ (mU τ A n m) := fC_eq F (τ 0 9) (Nat.le_refl _) 0 (by rw [F.2.2 h0]; omega)
  rw [e]
theorem mU_sU {τ : CT} {A : Nat → Int32} {n m : Nat} : mU τ A n m = sU τ n (A m) (A (7 + m)) m := rfl
/-- does the man go back: the same as the class says -/
theorem k_doesGoBack {X : XT} {d b f m n : Nat} {h : HT} {τ : CT} {A P : Nat → Int32} {w o : Int32} (H : MTown h b τ) (R : MRule h b f τ) (F : fOk τ) (hm : m < τ 0 1) (hn : n < 128) (ho : A 14 = nI n) (hb : n.testBit m = true) : ∃ P' w', ∀ Q : QT, wq X (d + 5) 228 0 [some (.ref 195), some (.int (nI m))] [] (hK h A P w o) Q = Q (some (.int (if sGoes τ n (A m) (A (7 + m)) m = true then 1 else 0))) (hK h A P' w' o) := by
  have hbb := mt_b H
  have h7 := o_mn (mt_ok H)
  have HK : ∀ P w, MTown (hK h A P w o) b τ := fun P w => H
  have RK : ∀ P w, m_gI (hK h A P w o) 216 b = (if τ 0 9 = 0 then 0 else 1) := fun P w => R.2.1
  have e1 : m_in (nI b) 2 = true := q_in (by omega) (by decide)
  have e2 : (nI b).toNatClampNeg = b := q_cl (by omega)
  by_cases z : τ 0 9 = 0
  · refine ⟨P, w, fun Q => ?_⟩
    have e3 : m_in (nI m) 20 = true := q_in (by omega) (by decide)
    have e4 : (nI m).toNatClampNeg = m := q_cl (by omega)
    have e5 : m_in (nI (7 * b + m)) 14 = true := m7_14 hbb (by omega)
    have e6 : (nI (7 * b + m)).toNatClampNeg = 7 * b + m := q_cl (by omega)
    have e7 : (0 : Int32) + nI m = nI m := Int32.zero_add _
    have hp : Ptr (hK h A P w o) := mt_p H
    simp only [u228_0, u228_1, u228_4, u228_5, u228_8z, u228_8b, u228_9, u228_12, u228_13, u228_16, u228_17, u228_18, u228_19, u228_20, u228_23, u228_24, u228_25, u228_28, u228_29, u228_32, u228_34, u228_35, u228_38, u228_39, u228_40, u228_41, u228_42, u228_45, u228_46, u228_49, u228_50, eq_self, q_nl0, q_nlI, q_nlR, not_false_eq_true, q_nz0, q_nz1, q_zv0, q_zv1, q_tl1, q_tl0, q_wif, q_swc, q_swn, List.cons_append, List.nil_append, sh_195, sh_211, sh_216, sh_227, gR_hK, p_195_29 (mt_p H), p_195_47 (mt_p H), p_195_24 (mt_p H), mt_k (HK _ _), e1, e2, RK, z, if_true, gI_hK227, e7, e3, e4, k_goneFor hp hn ho (show m < 8 by omega), gone_one n hn m (by omega) hb, nI_7b, e5, e6, mt_ot (HK _ _) m hm]
    unfold sGoes
    rw [if_pos z]
    by_cases y : A m = 0
    · simp only [y, if_true, decide_true, Bool.true_or]
    · by_cases u : nI (pcN n) - 1 < nI (τ 6 m)
      · simp only [y, u, if_true, if_false, decide_true, Bool.or_true]
      · simp only [y, u, if_false, decide_false, Bool.or_false, Bool.false_eq_true]
  · refine ⟨fC τ (mU τ A n m) P (τ 0 9), nI m, fun Q => ?_⟩
    simp only [u228_0, u228_1, u228_4, u228_5, u228_8z, u228_8b, u228_9, u228_51, u228_52, u228_53, u228_56, u228_57, eq_self, q_nl0, q_nlI, q_nlR, not_false_eq_true, q_nz0, q_nz1, q_zv0, q_zv1, q_tl1, q_tl0, q_wif, q_swc, q_swn, List.cons_append, List.nil_append, sh_195, sh_216, gR_hK, p_195_29 (mt_p H), mt_k (HK _ _), e1, e2, RK, z, if_false, eq_false (show ¬ (1 : Int32) = 0 by decide), sI_hK46, k_comes H R F (Nat.pos_of_ne_zero z) hm hn ho hb]
    simp only [u228_60, u228_63, u228_64, u228_67, u228_68, eq_self, q_nl0, q_nlI, q_nlR, not_false_eq_true, q_nz0, q_nz1, q_zv0, q_zv1, q_tl1, q_tl0, q_wif, q_swc, q_swn, List.cons_append, List.nil_append]
    unfold sGoes
    rw [if_neg z, mU_sU]
    split
    · next y => simp only [y, ne_eq, not_true, decide_false, Bool.false_eq_true, if_false]
    · next y => simp only [y, ne_eq, not_false_eq_true, decide_true, if_true]
