/-! THE MODEL'S CITY: bank b of its rows -/
def MCity (h : HT) (b : Nat) (τ : CT) : Prop :=
  (m_gI h 198 b = nI (τ 0 0) ∧ m_gI h 199 b = nI (τ 0 1) ∧ m_gI h 200 b = nI (τ 0 2) ∧ m_gI h 202 b = nI (τ 0 3) ∧ m_gI h 203 b = nI (τ 0 4) ∧ m_gI h 204 b = nI (τ 0 5) ∧ m_gI h 205 b = nI (τ 0 6) ∧ m_gI h 201 b = nI (τ 0 8)) ∧
  (∀ c, c < τ 0 0 → m_gI h 206 (4 * b + c) = nI (τ 1 c)) ∧ (∀ c, c < τ 0 0 → m_gI h 207 (4 * b + c) = nI (τ 2 c)) ∧
  (∀ m, m < τ 0 1 → m_gI h 208 (7 * b + m) = nI (τ 3 m)) ∧ (∀ m, m < τ 0 1 → m_gI h 209 (7 * b + m) = nI (τ 4 m)) ∧ (∀ m, m < τ 0 1 → m_gI h 210 (7 * b + m) = nI (τ 5 m)) ∧ (∀ m, m < τ 0 1 → m_gI h 211 (7 * b + m) = nI (τ 6 m)) ∧
  (∀ q, q < τ 0 2 → m_gI h 212 (5 * b + q) = nI (τ 7 q)) ∧ (∀ q, q < τ 0 2 → m_gI h 213 (5 * b + q) = nI (τ 8 q))
/-- the model's pointers, the bank, its city -/
def MTown (h : HT) (b : Nat) (τ : CT) : Prop := Ptr h ∧ cOk τ ∧ (b < 2 ∧ m_gI h 195 40 = nI b) ∧ MCity h b τ
theorem mt_p {h : HT} {b : Nat} {τ : CT} (H : MTown h b τ) : Ptr h := H.1
theorem mt_ok {h : HT} {b : Nat} {τ : CT} (H : MTown h b τ) : cOk τ := H.2.1
theorem mt_b {h : HT} {b : Nat} {τ : CT} (H : MTown h b τ) : b < 2 := H.2.2.1.1
theorem mt_k {h : HT} {b : Nat} {τ : CT} (H : MTown h b τ) : m_gI h 195 40 = nI b := H.2.2.1.2
theorem mt_cr {h : HT} {b : Nat} {τ : CT} (H : MTown h b τ) : m_gI h 198 b = nI (τ 0 0) := H.2.2.2.1.1
theorem mt_mn {h : HT} {b : Nat} {τ : CT} (H : MTown h b τ) : m_gI h 199 b = nI (τ 0 1) := H.2.2.2.1.2.1
theorem mt_dm {h : HT} {b : Nat} {τ : CT} (H : MTown h b τ) : m_gI h 200 b = nI (τ 0 2) := H.2.2.2.1.2.2.1
theorem mt_fo {h : HT} {b : Nat} {τ : CT} (H : MTown h b τ) : m_gI h 202 b = nI (τ 0 3) := H.2.2.2.1.2.2.2.1
theorem mt_ra {h : HT} {b : Nat} {τ : CT} (H : MTown h b τ) : m_gI h 203 b = nI (τ 0 4) := H.2.2.2.1.2.2.2.2.1
theorem mt_dr {h : HT} {b : Nat} {τ : CT} (H : MTown h b τ) : m_gI h 204 b = nI (τ 0 5) := H.2.2.2.1.2.2.2.2.2.1
theorem mt_ou {h : HT} {b : Nat} {τ : CT} (H : MTown h b τ) : m_gI h 205 b = nI (τ 0 6) := H.2.2.2.1.2.2.2.2.2.2.1
theorem mt_fu {h : HT} {b : Nat} {τ : CT} (H : MTown h b τ) : m_gI h 201 b = nI (τ 0 8) := H.2.2.2.1.2.2.2.2.2.2.2
theorem mt_ne {h : HT} {b : Nat} {τ : CT} (H : MTown h b τ) : ∀ c, c < τ 0 0 → m_gI h 206 (4 * b + c) = nI (τ 1 c) := H.2.2.2.2.1
theorem mt_lo {h : HT} {b : Nat} {τ : CT} (H : MTown h b τ) : ∀ c, c < τ 0 0 → m_gI h 207 (4 * b + c) = nI (τ 2 c) := H.2.2.2.2.2.1
theorem mt_sk {h : HT} {b : Nat} {τ : CT} (H : MTown h b τ) : ∀ m, m < τ 0 1 → m_gI h 208 (7 * b + m) = nI (τ 3 m) := H.2.2.2.2.2.2.1
theorem mt_lv {h : HT} {b : Nat} {τ : CT} (H : MTown h b τ) : ∀ m, m < τ 0 1 → m_gI h 209 (7 * b + m) = nI (τ 4 m) := H.2.2.2.2.2.2.2.1
theorem mt_de {h : HT} {b : Nat} {τ : CT} (H : MTown h b τ) : ∀ m, m < τ 0 1 → m_gI h 210 (7 * b + m) = nI (τ 5 m) := H.2.2.2.2.2.2.2.2.1
theorem mt_ot {h : HT} {b : Nat} {τ : CT} (H : MTown h b τ) : ∀ m, m < τ 0 1 → m_gI h 211 (7 * b + m) = nI (τ 6 m) := H.2.2.2.2.2.2.2.2.2.1
theorem mt_co {h : HT} {b : Nat} {τ : CT} (H : MTown h b τ) : ∀ q, q < τ 0 2 → m_gI h 212 (5 * b + q) = nI (τ 7 q) := H.2.2.2.2.2.2.2.2.2.2.1
theorem mt_wo {h : HT} {b : Nat} {τ : CT} (H : MTown h b τ) : ∀ q, q < τ 0 2 → m_gI h 213 (5 * b + q) = nI (τ 8 q) := H.2.2.2.2.2.2.2.2.2.2.2
theorem o_ls' {τ : CT} (H : cOk τ) : ∀ c, τ 2 c ≤ 99 := o_ls H
/-! leaves of the model -/
theorem kb_ok : ∀ n, n < 128 → n ≠ 0 → nI n &&& (nI n - 1) = nI (n &&& (n - 1)) ∧ n &&& (n - 1) < n ∧ pcN n = pcN (n &&& (n - 1)) + 1 := by decide +kernel
theorem k_bitsL {X : XT} {d : Nat} {h : HT} {Q : QT} {p0 : Int32} : ∀ f n c, n < f → n < 128 → wq X d 230 4 [some (.int p0), some (.int (nI c)), some (.int (nI n))] [] h Q = Q (some (.int (nI (c + pcN n)))) h
  | 0, _, _, hf, _ => absurd hf (Nat.not_lt_zero _)
  | f + 1, n, c, hf, hn => by
    have e1 : (nI n = 0) = (n = 0) := propext (nI_eq (b := 0) (by omega) (by omega))
    simp only [u230_4, u230_5, eq_self, q_nl0, q_nlI, q_nlR, not_false_eq_true, q_nz0, q_nz1, q_zv0, q_zv1, q_tl1, q_tl0, q_wif, q_swc, q_swn, List.cons_append, List.nil_append, e1]
    by_cases z : n = 0
    · rw [if_pos z, z]
      simp only [u230_20, u230_21, eq_self, q_nl0, q_nlI, q_nlR, not_false_eq_true, q_nz0, q_nz1, q_zv0, q_zv1, q_tl1, q_tl0, q_wif, q_swc, q_swn, List.cons_append, List.nil_append]
      rfl
    · rw [if_neg z]
      have hk := kb_ok n hn z
      simp only [u230_8, u230_11, u230_12, u230_13, u230_14, u230_15, u230_16, u230_17, eq_self, q_nl0, q_nlI, q_nlR, not_false_eq_true, q_nz0, q_nz1, q_zv0, q_zv1, q_tl1, q_tl0, q_wif, q_swc, q_swn, List.cons_append, List.nil_append, hk.1, nI_1]
      rw [k_bitsL f _ _ (by omega) (by omega), hk.2.2, Nat.add_assoc, Nat.add_comm 1]
theorem k_bitsOf {X : XT} {d n : Nat} {h : HT} {Q : QT} (hn : n < 128) : wq X d 230 0 [some (.int (nI n)), none, none] [] h Q = Q (some (.int (nI (pcN n)))) h := by
  simp only [u230_0, u230_1, u230_2, u230_3, eq_self, q_nl0, q_nlI, q_nlR, not_false_eq_true, q_nz0, q_nz1, q_zv0, q_zv1, q_tl1, q_tl0, q_wif, q_swc, q_swn, List.cons_append, List.nil_append]
  refine (k_bitsL 128 n 0 hn hn).trans ?_
  rw [Nat.zero_add]
theorem k_has {X : XT} {d : Nat} {h : HT} {Q : QT} {x y : Int32} : wq X d 227 0 [some (.int x), some (.int y)] [] h Q = Q (some (.int (if x >>> (y &&& 31) &&& 1 = 1 then 1 else 0))) h := by
  simp only [u227_0, u227_1, u227_2, u227_3, u227_4, u227_5, u227_6, u227_9, u227_10, u227_13, u227_14, eq_self, q_nl0, q_nlI, q_nlR, not_false_eq_true, q_nz0, q_nz1, q_zv0, q_zv1, q_tl1, q_tl0, q_wif, q_swc, q_swn, List.cons_append, List.nil_append]
  split <;> rfl
theorem k_many {X : XT} {d b : Nat} {h : HT} {Q : QT} {τ : CT} (H : MTown h b τ) : wq X d 189 0 [some (.ref 195)] [] h Q = Q (some (.int (nI (τ 0 1)))) h := by
  have hb := mt_b H
  simp only [u189_0, u189_1, u189_4, u189_5, u189_8, u189_9, eq_self, q_nl0, q_nlI, q_nlR, not_false_eq_true, q_nz0, q_nz1, q_zv0, q_zv1, q_tl1, q_tl0, q_wif, q_swc, q_swn, List.cons_append, List.nil_append, sh_195, sh_199, p_195_12 (mt_p H), mt_k H, q_in (show b < 2 by omega) (by decide), q_cl (show b < 2 ^ 31 by omega), mt_mn H]
theorem m_4b {b c n : Nat} (hb : b < 2) (hc : c < n) (hn : n ≤ 4) : m_in (nI (4 * b + c)) 8 = true := q_in (by omega) (by decide)
theorem m_7b {b c n : Nat} (hb : b < 2) (hc : c < n) (hn : n ≤ 7) : m_in (nI (7 * b + c)) 14 = true := q_in (by omega) (by decide)
theorem nI_4b {b c : Nat} : 4 * nI b + nI c = nI (4 * b + c) := by
  rw [show (4 : Int32) = nI 4 from rfl, pk_mul, nI_add]
theorem nI_7b {b c : Nat} : 7 * nI b + nI c = nI (7 * b + c) := by
  rw [show (7 : Int32) = nI 7 from rfl, pk_mul, nI_add]
theorem bit16 {n : Nat} (hn : n < 128) (i : Nat) (hi : i < 8) : (nI n >>> (nI i &&& 31) &&& 1 = 1) = (n.testBit i = true) := nI_bit4 n hn i hi
theorem k_menOf {X : XT} {d b c : Nat} {h : HT} {Q : QT} {τ : CT} (H : MTown h b τ) (hc : c < 8) : wq X (d + 1) 234 0 [some (.ref 195), some (.int (nI c)), none, none] [] h Q = Q (some (.int (nI (sMen τ c)))) h := by
  have h7 := o_mn (mt_ok H)
  have hb := mt_b H
  simp only [u234_0, u234_1, u234_2, u234_3, eq_self, q_nl0, q_nlI, q_nlR, not_false_eq_true, q_nz0, q_nz1, q_zv0, q_zv1, q_tl1, q_tl0, q_wif, q_swc, q_swn, List.cons_append, List.nil_append]
  refine (q_loop (fun i => wq X (d + 1) 234 4 [some (.ref 195), some (.int (nI c)), some (.int (nI (sMenL τ c i))), some (.int (nI i))] [] h Q) (τ 0 1) ?_).trans ?_
  · intro i hi
    show wq X (d + 1) 234 4 _ _ _ _ = _
    rw [u234_4]
    have e1 : (nI i < nI (τ 0 1)) = True := eq_true (nI_lt hi (by omega))
    have e3 : m_in (nI (7 * b + i)) 14 = true := m_7b hb hi h7
    have e4 : (nI (7 * b + i)).toNatClampNeg = 7 * b + i := q_cl (by omega)
    have e5 := o_sk (mt_ok H) i
    simp only [u234_5, u234_6, u234_9, u234_12, u234_13, u234_16, u234_18, u234_19, u234_22, u234_23, u234_24, u234_25, u234_26, u234_27, u234_30, u234_33, u234_34, u234_35, u234_36, u234_37, u234_38, u234_39, u234_42, eq_self, q_nl0, q_nlI, q_nlR, not_false_eq_true, q_nz0, q_nz1, q_zv0, q_zv1, q_tl1, q_tl0, q_wif, q_swc, q_swn, List.cons_append, List.nil_append, sh_195, sh_208, k_many H, e1, if_true, p_195_21 (mt_p H), mt_k H, nI_7b, e3, e4, mt_sk H i hi, k_has, nI_bit4 (τ 3 i) (by omega) c hc, nI_sh i (by omega), nI_or, nI_1]
    have es : sMenL τ c (i + 1) = if (τ 3 i).testBit c then sMenL τ c i ||| 2 ^ i else sMenL τ c i := rfl
    rw [es]
    by_cases z : (τ 3 i).testBit c = true
    · rw [if_pos z, if_pos z, if_neg (by decide)]
    · rw [if_neg z, if_neg z, if_pos rfl]
  · rw [u234_4]
    simp only [u234_5, u234_6, u234_9, u234_12, u234_13, u234_16, u234_18, u234_19, u234_22, u234_23, u234_24, u234_25, u234_26, u234_27, u234_30, u234_33, u234_34, u234_35, u234_36, u234_37, u234_38, u234_39, u234_42, u234_45, u234_46, eq_self, q_nl0, q_nlI, q_nlR, not_false_eq_true, q_nz0, q_nz1, q_zv0, q_zv1, q_tl1, q_tl0, q_wif, q_swc, q_swn, List.cons_append, List.nil_append, sh_195, sh_208, k_many H, eq_false (nI_nlt (Nat.le_refl (τ 0 1)) (by omega)), if_false]
    rfl
theorem k_shortBy {X : XT} {d b n : Nat} {h : HT} {Q : QT} {τ : CT} (H : MTown h b τ) (hn : n < 128) : wq X (d + 2) 233 0 [some (.ref 195), some (.int (nI n)), none, none] [] h Q = Q (some (.int (nI (sShort τ n)))) h := by
  have h4 := o_cr (mt_ok H)
  have hb := mt_b H
  simp only [u233_0, u233_1, u233_2, u233_3, eq_self, q_nl0, q_nlI, q_nlR, not_false_eq_true, q_nz0, q_nz1, q_zv0, q_zv1, q_tl1, q_tl0, q_wif, q_swc, q_swn, List.cons_append, List.nil_append]
  refine (q_loop (fun i => wq X (d + 2) 233 4 [some (.ref 195), some (.int (nI n)), some (.int (nI (sShortL τ n i))), some (.int (nI i))] [] h Q) (τ 0 0) ?_).trans ?_
  · intro i hi
    show wq X (d + 2) 233 4 _ _ _ _ = _
    rw [u233_4]
    have e1 : (nI i < nI (τ 0 0)) = True := eq_true (nI_lt hi (by omega))
    have e2 : m_in (nI b) 2 = true := q_in (by omega) (by decide)
    have e3 : m_in (nI (4 * b + i)) 8 = true := m_4b hb hi h4
    have e4 : (nI (4 * b + i)).toNatClampNeg = 4 * b + i := q_cl (by omega)
    have e5 : (nI b).toNatClampNeg = b := q_cl (by omega)
    have hm := sMen_lt (mt_ok H) i
    have e6 : sMen τ i &&& (127 ^^^ n) < 128 := Nat.lt_of_le_of_lt Nat.and_le_left hm
    have e7 := o_ne (mt_ok H) i
    have e8 := pcN_le _ e6
    have e9 : (nI (pcN (sMen τ i &&& (127 ^^^ n))) < nI (τ 1 i)) = (pcN (sMen τ i &&& (127 ^^^ n)) < τ 1 i) := propext (nI_ltI (by omega) (by omega))
    simp only [u233_5, u233_6, u233_9, u233_10, u233_13, u233_14, u233_17, u233_18, u233_19, u233_22, u233_23, u233_24, u233_25, u233_26, u233_29, u233_30, u233_33, u233_34, u233_35, u233_38, u233_39, u233_40, u233_41, u233_42, u233_45, u233_46, u233_47, u233_48, u233_49, u233_50, u233_51, u233_54, eq_self, q_nl0, q_nlI, q_nlR, not_false_eq_true, q_nz0, q_nz1, q_zv0, q_zv1, q_tl1, q_tl0, q_wif, q_swc, q_swn, List.cons_append, List.nil_append, sh_195, sh_198, sh_206, p_195_11 (mt_p H), p_195_19 (mt_p H), mt_k H, mt_cr H, e1, e2, e3, e4, e5, if_true, k_menOf H (show i < 8 by omega), nI_not _ hm _ hn, k_bitsOf e6, nI_4b, mt_ne H i hi, e9, nI_sh i (by omega), nI_or, nI_1]
    have es : sShortL τ n (i + 1) = if pcN (sMen τ i &&& (127 ^^^ n)) < τ 1 i then sShortL τ n i ||| 2 ^ i else sShortL τ n i := rfl
    rw [es]
    split <;> rfl
  · rw [u233_4]
    simp only [u233_5, u233_6, u233_9, u233_10, u233_13, u233_14, u233_17, u233_18, u233_19, u233_22, u233_23, u233_24, u233_25, u233_26, u233_29, u233_30, u233_33, u233_34, u233_35, u233_38, u233_39, u233_40, u233_41, u233_42, u233_45, u233_46, u233_47, u233_48, u233_49, u233_50, u233_51, u233_54, u233_57, u233_58, eq_self, q_nl0, q_nlI, q_nlR, not_false_eq_true, q_nz0, q_nz1, q_zv0, q_zv1, q_tl1, q_tl0, q_wif, q_swc, q_swn, List.cons_append, List.nil_append, sh_195, sh_198, p_195_11 (mt_p H), mt_k H, q_in (show b < 2 by omega) (by decide), q_cl (show b < 2 ^ 31 by omega), mt_cr H, eq_false (nI_nlt (Nat.le_refl (τ 0 0)) (by omega)), if_false]
    rfl
theorem k_lossBy {X : XT} {d b n : Nat} {h : HT} {Q : QT} {τ : CT} (H : MTown h b τ) (hn : n < 128) : wq X (d + 3) 242 0 [some (.ref 195), some (.int (nI n)), none, none, none] [] h Q = Q (some (.int (nI (sLoss τ n)))) h := by
  have h4 := o_cr (mt_ok H)
  have hb := mt_b H
  have h16 := sShort_16 (mt_ok H) n
  simp only [u242_0, u242_1, u242_2, u242_5, u242_6, u242_7, u242_8, u242_9, eq_self, q_nl0, q_nlI, q_nlR, not_false_eq_true, q_nz0, q_nz1, q_zv0, q_zv1, q_tl1, q_tl0, q_wif, q_swc, q_swn, List.cons_append, List.nil_append, sh_195, k_shortBy H hn]
  refine (q_loop (fun i => wq X (d + 3) 242 11 [some (.ref 195), some (.int (nI n)), some (.int (nI (sShort τ n))), some (.int (nI (sLossL τ (sShort τ n) i))), some (.int (nI i))] [] h Q) (τ 0 0) ?_).trans ?_
  · intro i hi
    show wq X (d + 3) 242 11 _ _ _ _ = _
    rw [u242_11]
    have e1 : (nI i < nI (τ 0 0)) = True := eq_true (nI_lt hi (by omega))
    have e2 : m_in (nI b) 2 = true := q_in (by omega) (by decide)
    have e3 : m_in (nI (4 * b + i)) 8 = true := m_4b hb hi h4
    have e4 : (nI (4 * b + i)).toNatClampNeg = 4 * b + i := q_cl (by omega)
    have e5 : (nI b).toNatClampNeg = b := q_cl (by omega)
    have es : sLossL τ (sShort τ n) (i + 1) = if (sShort τ n).testBit i then sLossL τ (sShort τ n) i + τ 2 i else sLossL τ (sShort τ n) i := rfl
    rw [es]
    simp only [u242_13, u242_14, u242_17, u242_18, u242_21, u242_22, u242_25, u242_26, u242_27, u242_29, u242_32, u242_35, u242_36, u242_39, u242_40, u242_41, u242_44, u242_45, u242_47, u242_48, u242_49, u242_52, u242_53, u242_54, u242_55, u242_58, eq_self, q_nl0, q_nlI, q_nlR, not_false_eq_true, q_nz0, q_nz1, q_zv0, q_zv1, q_tl1, q_tl0, q_wif, q_swc, q_swn, List.cons_append, List.nil_append, sh_195, sh_198, sh_207, p_195_11 (mt_p H), p_195_20 (mt_p H), mt_k H, mt_cr H, e1, e2, e3, e4, e5, if_true, k_has, nI_bit4 (sShort τ n) (by omega) i (by omega), nI_4b, mt_lo H i hi, nI_add, nI_1]
    by_cases z : (sShort τ n).testBit i = true
    · rw [if_pos z, if_pos z, if_neg (by decide)]
    · rw [if_neg z, if_neg z, if_pos rfl, Int32.add_zero]
  · rw [u242_11]
    simp only [u242_13, u242_14, u242_17, u242_18, u242_21, u242_22, u242_25, u242_26, u242_27, u242_29, u242_32, u242_35, u242_36, u242_39, u242_40, u242_41, u242_44, u242_45, u242_47, u242_48, u242_49, u242_52, u242_53, u242_54, u242_55, u242_58, u242_61, u242_62, eq_self, q_nl0, q_nlI, q_nlR, not_false_eq_true, q_nz0, q_nz1, q_zv0, q_zv1, q_tl1, q_tl0, q_wif, q_swc, q_swn, List.cons_append, List.nil_append, sh_195, sh_198, p_195_11 (mt_p H), mt_k H, q_in (show b < 2 by omega) (by decide), q_cl (show b < 2 ^ 31 by omega), mt_cr H, eq_false (nI_nlt (Nat.le_refl (τ 0 0)) (by omega)), if_false]
    rfl
theorem k_followers {X : XT} {d b n : Nat} {h : HT} {Q : QT} {τ : CT} (H : MTown h b τ) (hn : n < 128) : wq X (d + 1) 261 0 [some (.ref 195), some (.int (nI n)), none, none] [] h Q = Q (some (.int (nI (sFol τ n)))) h := by
  have h7 := o_mn (mt_ok H)
  have hb := mt_b H
  have hp := pcN_le n hn
  simp only [u261_0, u261_1, u261_2, u261_3, eq_self, q_nl0, q_nlI, q_nlR, not_false_eq_true, q_nz0, q_nz1, q_zv0, q_zv1, q_tl1, q_tl0, q_wif, q_swc, q_swn, List.cons_append, List.nil_append]
  refine (q_loop (fun i => wq X (d + 1) 261 4 [some (.ref 195), some (.int (nI n)), some (.int (nI (sFolL τ n i))), some (.int (nI i))] [] h Q) (τ 0 1) ?_).trans ?_
  · intro i hi
    show wq X (d + 1) 261 4 _ _ _ _ = _
    rw [u261_4]
    have e1 : (nI i < nI (τ 0 1)) = True := eq_true (nI_lt hi (by omega))
    have e3 : m_in (nI (7 * b + i)) 14 = true := m_7b hb hi h7
    have e4 : (nI (7 * b + i)).toNatClampNeg = 7 * b + i := q_cl (by omega)
    have ho := o_ot (mt_ok H) i
    have e5 : (0 < nI (τ 6 i)) = (0 < τ 6 i) := propext (nI_ltI (a := 0) (by omega) (by omega))
    have e6 : (nI (pcN n) < nI (τ 6 i)) = (pcN n < τ 6 i) := propext (nI_ltI (by omega) (by omega))
    simp only [u261_5, u261_6, u261_9, u261_12, u261_13, u261_14, u261_17, u261_20, u261_21, u261_24, u261_26, u261_27, u261_30, u261_31, u261_32, u261_33, u261_34, u261_37, u261_38, u261_41, u261_42, u261_45, u261_47, u261_48, u261_51, u261_52, u261_53, u261_54, u261_55, u261_58, u261_59, u261_60, u261_61, u261_62, u261_63, u261_64, u261_67, eq_self, q_nl0, q_nlI, q_nlR, not_false_eq_true, q_nz0, q_nz1, q_zv0, q_zv1, q_tl1, q_tl0, q_wif, q_swc, q_swn, List.cons_append, List.nil_append, sh_195, sh_211, k_many H, e1, if_true, p_195_24 (mt_p H), mt_k H, nI_7b, e3, e4, mt_ot H i hi, k_has, k_bitsOf hn, nI_bit4 n hn i (by omega), e5, e6, nI_sh i (by omega), nI_or, nI_1]
    have es : sFolL τ n (i + 1) = if n.testBit i = false ∧ 0 < τ 6 i ∧ τ 6 i ≤ pcN n then sFolL τ n i ||| 2 ^ i else sFolL τ n i := rfl
    rw [es]
    by_cases z : n.testBit i = true
    · rw [if_pos z, if_neg (by decide), if_neg (by rw [z]; simp)]
    · rw [if_neg z, if_pos rfl]
      by_cases y : 0 < τ 6 i
      · rw [if_pos y]
        by_cases w : pcN n < τ 6 i
        · rw [if_pos w, if_neg (by omega)]
        · rw [if_neg w, if_pos ⟨by simpa using z, y, by omega⟩]
      · rw [if_neg y, if_neg (by omega)]
  · rw [u261_4]
    simp only [u261_5, u261_6, u261_9, u261_12, u261_13, u261_14, u261_17, u261_20, u261_21, u261_24, u261_26, u261_27, u261_30, u261_31, u261_32, u261_33, u261_34, u261_37, u261_38, u261_41, u261_42, u261_45, u261_47, u261_48, u261_51, u261_52, u261_53, u261_54, u261_55, u261_58, u261_59, u261_60, u261_61, u261_62, u261_63, u261_64, u261_67, u261_70, u261_71, eq_self, q_nl0, q_nlI, q_nlR, not_false_eq_true, q_nz0, q_nz1, q_zv0, q_zv1, q_tl1, q_tl0, q_wif, q_swc, q_swn, List.cons_append, List.nil_append, sh_195, k_many H, eq_false (nI_nlt (Nat.le_refl (τ 0 1)) (by omega)), if_false]
    rfl
