theorem nlt {a b : Nat} (hb : b ≤ a) (ha : a < 2 ^ 31) : ¬ nI a < nI b := nI_nlt hb ha
theorem nI_lit7 : (7 : Int32) = nI 7 := rfl
theorem sLossL_le {τ : CT} (H : cOk τ) (s : Nat) : ∀ k, sLossL τ s k ≤ 99 * k
  | 0 => Nat.le_refl _
  | k + 1 => by
    have := sLossL_le H s k
    have h2 := o_ls H k
    unfold sLossL
    split <;> omega
theorem sLoss_le {τ : CT} (H : cOk τ) (n : Nat) : sLoss τ n ≤ 396 := by
  have h1 := sLossL_le H (sShort τ n) (τ 0 0)
  have h2 := o_cr H
  unfold sLoss sLossOf
  omega
theorem c_shortBy {X : XT} {d T n : Nat} {h : HT} {Q : QT} {τ : CT} (H : CTown h T τ) (hn : n < 128) : wq X d 86 0 [some (.ref T), some (.int (nI n))] [] h Q = Q (some (.int (nI (sShort τ n)))) h := by
  have e1 : nI n &&& 127 = nI n := by
    have : ∀ n, n < 128 → nI n &&& 127 = nI n := by decide +kernel
    exact this n hn
  have e2 : m_in (nI n) 128 = true := q_in hn (by decide)
  simp only [u86_0, u86_1, u86_4, u86_5, u86_7, u86_8, u86_9, eq_self, q_nl0, q_nlI, q_nlR, not_false_eq_true, q_nz0, q_nz1, q_zv0, q_zv1, q_tl1, q_tl0, q_wif, q_swc, q_swn, List.cons_append, List.nil_append, ct_T H, ct_p H, shT_0, shT_13, pT_17, e1, e2, q_cl (show n < 2 ^ 31 by omega), ct_sh H n hn]
theorem c_lossBy {X : XT} {d T n : Nat} {h : HT} {Q : QT} {τ : CT} (H : CTown h T τ) (hn : n < 128) : wq X (d + 1) 97 0 [some (.ref T), some (.int (nI n))] [] h Q = Q (some (.int (nI (sLoss τ n)))) h := by
  have h16 := sShort_16 (ct_ok H) n
  have e1 : nI (sShort τ n) &&& 15 = nI (sShort τ n) := by
    have : ∀ n, n < 16 → nI n &&& 15 = nI n := by decide +kernel
    exact this _ h16
  have e2 : m_in (nI (sShort τ n)) 16 = true := q_in h16 (by decide)
  simp only [u97_0, u97_1, u97_4, u97_5, u97_6, u97_9, u97_11, u97_12, u97_13, eq_self, q_nl0, q_nlI, q_nlR, not_false_eq_true, q_nz0, q_nz1, q_zv0, q_zv1, q_tl1, q_tl0, q_wif, q_swc, q_swn, List.cons_append, List.nil_append, ct_T H, ct_p H, shT_0, shT_14, pT_18, c_shortBy H hn, e1, e2, q_cl (show sShort τ n < 2 ^ 31 by omega), ct_ls H _ (sShort_lt (ct_ok H) n)]
  rfl
theorem c_foeOdds {X : XT} {d T n : Nat} {h : HT} {Q : QT} {τ : CT} (H : CTown h T τ) (hn : n < 128) : wq X (d + 1) 111 0 [some (.ref T), some (.int (nI n))] [] h Q = Q (some (.int (nI (τ 0 3 * pcN (sShort τ n))))) h := by
  have h16 := sShort_16 (ct_ok H) n
  simp only [u111_0, u111_1, u111_4, u111_5, u111_6, u111_9, u111_12, u111_13, eq_self, q_nl0, q_nlI, q_nlR, not_false_eq_true, q_nz0, q_nz1, q_zv0, q_zv1, q_tl1, q_tl0, q_wif, q_swc, q_swn, List.cons_append, List.nil_append, ct_T H, ct_p H, shT_0, c_shortBy H hn, c_bitCount (show sShort τ n < 128 by omega), ct_fo H, pk_mul]
theorem c_every {X : XT} {d T : Nat} {h : HT} {Q : QT} {τ : CT} (H : CTown h T τ) : wq X d 96 0 [some (.ref T)] [] h Q = Q (some (.int (nI (sAll τ)))) h := by
  have h7 := o_mn (ct_ok H)
  rw [c_everyone (by rw [shT_0 (ct_T H)]), ct_mn H, nI_all _ (by omega)]
  rfl
theorem sAll_lt {τ : CT} (H : cOk τ) : sAll τ < 128 := by
  have := p2_7 (o_mn H)
  unfold sAll
  omega
theorem c_handsOf {X : XT} {d T n c : Nat} {h : HT} {Q : QT} {τ : CT} (H : CTown h T τ) (hn : n < 128) (hc : c < τ 0 0) : wq X (d + 1) 73 0 [some (.ref T), some (.int (nI c)), some (.int (nI n))] [] h Q = Q (some (.int (nI (pcN (sMen τ c &&& (127 ^^^ n)))))) h := by
  have h4 := o_cr (ct_ok H)
  have e1 : (nI c < 0) = False := eq_false (nI_pos (by omega))
  have e2 : (nI c < 4) = True := eq_true (nI_lt (b := 4) (by omega) (by omega))
  have e3 : m_in (nI c) 4 = true := q_in (by omega) (by decide)
  have hm := sMen_lt (ct_ok H) c
  have e4 : sMen τ c &&& (127 ^^^ n) < 128 := Nat.lt_of_le_of_lt Nat.and_le_left hm
  simp only [u73_0, u73_1, u73_4, u73_5, u73_6, u73_9, u73_10, u73_13, u73_14, u73_15, u73_16, u73_17, u73_18, u73_19, u73_22, u73_25, u73_26, eq_self, q_nl0, q_nlI, q_nlR, not_false_eq_true, q_nz0, q_nz1, q_zv0, q_zv1, q_tl1, q_tl0, q_wif, q_swc, q_swn, List.cons_append, List.nil_append, ct_T H, ct_p H, shT_0, shT_3, pT_3, e1, e2, e3, if_true, if_false, q_cl (show c < 2 ^ 31 by omega), ct_me H c hc, nI_not _ hm _ hn, c_bitCount e4]
theorem c_followers {X : XT} {d T n : Nat} {h : HT} {Q : QT} {τ : CT} (H : CTown h T τ) (hn : n < 128) : wq X (d + 1) 108 0 [some (.ref T), some (.int (nI n)), none, none, none] [] h Q = Q (some (.int (nI (sFol τ n)))) h := by
  have h7 := o_mn (ct_ok H)
  have hp := pcN_le n hn
  simp only [u108_0, u108_1, u108_2, u108_3, u108_6, u108_7, u108_8, eq_self, q_nl0, q_nlI, q_nlR, not_false_eq_true, q_nz0, q_nz1, q_zv0, q_zv1, q_tl1, q_tl0, q_wif, q_swc, q_swn, List.cons_append, List.nil_append, c_bitCount hn]
  refine (q_loop (fun i => wq X (d + 1) 108 10 [some (.ref T), some (.int (nI n)), some (.int (nI (sFolL τ n i))), some (.int (nI (pcN n))), some (.int (nI i))] [] h Q) (τ 0 1) ?_).trans ?_
  · intro i hi
    have e1 : (nI i < nI (τ 0 1)) = True := eq_true (nI_lt hi (by omega))
    have e2 : (nI i < 7) = True := eq_true (nI_lt (b := 7) (by omega) (by omega))
    have e3 : m_in (nI i) 7 = true := q_in (by omega) (by decide)
    have ho := o_ot (ct_ok H) i
    have e4 : (nI (τ 6 i) < 1) = (τ 6 i < 1) := propext (nI_ltI (b := 1) (by omega) (by omega))
    have e5 : (nI (pcN n) < nI (τ 6 i)) = (pcN n < τ 6 i) := propext (nI_ltI (by omega) (by omega))
    show wq X (d + 1) 108 10 _ _ _ _ = _
    rw [u108_10]
    simp only [u108_12, u108_13, u108_16, u108_19, u108_21, u108_23, u108_26, u108_27, u108_29, u108_30, u108_31, u108_32, u108_35, u108_36, u108_39, u108_41, u108_42, u108_43, u108_46, u108_47, u108_50, u108_52, u108_53, u108_54, u108_57, u108_58, u108_59, u108_61, u108_62, u108_63, u108_64, u108_67, eq_self, q_nl0, q_nlI, q_nlR, not_false_eq_true, q_nz0, q_nz1, q_zv0, q_zv1, q_tl1, q_tl0, q_wif, q_swc, q_swn, List.cons_append, List.nil_append, ct_T H, ct_p H, shT_0, shT_7, pT_8, ct_mn H, e1, e2, e3, if_true, q_cl (show i < 2 ^ 31 by omega), ct_ot H i hi, nI_bit0 n hn i (by omega), e4, e5, nI_sh i (by omega), nI_or, nI_1]
    have es : sFolL τ n (i + 1) = if n.testBit i = false ∧ 0 < τ 6 i ∧ τ 6 i ≤ pcN n then sFolL τ n i ||| 2 ^ i else sFolL τ n i := rfl
    by_cases hc : n.testBit i = false ∧ 0 < τ 6 i ∧ τ 6 i ≤ pcN n
    · rw [if_pos hc.1, if_neg (by omega), if_neg (by omega), es, if_pos hc]
    · rw [es, if_neg hc]
      split
      · split
        · rfl
        · split
          · rfl
          · exact absurd ⟨by assumption, by omega, by omega⟩ hc
      · rfl
  · rw [u108_10]
    simp only [u108_12, u108_13, u108_16, u108_19, u108_21, u108_23, u108_26, u108_27, u108_29, u108_30, u108_31, u108_32, u108_35, u108_36, u108_39, u108_41, u108_42, u108_43, u108_46, u108_47, u108_50, u108_52, u108_53, u108_54, u108_57, u108_58, u108_59, u108_61, u108_62, u108_63, u108_64, u108_67, u108_70, u108_71, eq_self, q_nl0, q_nlI, q_nlR, not_false_eq_true, q_nz0, q_nz1, q_zv0, q_zv1, q_tl1, q_tl0, q_wif, q_swc, q_swn, List.cons_append, List.nil_append, ct_T H, ct_p H, shT_0, shT_7, pT_8, ct_mn H, eq_false (nI_nlt (Nat.le_refl (τ 0 1)) (by omega)), if_false]
    rfl
/-- again and again, till nobody follows -/
def sSprL (τ : CT) (n : Nat) : Nat → Nat
  | 0 => n
  | k + 1 => sSprL τ n k ||| sFol τ (sSprL τ n k)
def sSpread (τ : CT) (n : Nat) : Nat := sSprL τ n 8
theorem sSprL_lt {τ : CT} (H : cOk τ) {n : Nat} (hn : n < 128) : ∀ k, sSprL τ n k < 128
  | 0 => hn
  | k + 1 => Nat.or_lt_two_pow (n := 7) (sSprL_lt H hn k) (sFol_lt H _)
theorem c_spreadOf {X : XT} {d T n : Nat} {h : HT} {Q : QT} {τ : CT} (H : CTown h T τ) (hn : n < 128) : wq X (d + 2) 131 0 [some (.ref T), some (.int (nI n)), none, none] [] h Q = Q (some (.int (nI (sSpread τ n)))) h := by
  simp only [u131_0, u131_1, u131_2, u131_3, eq_self, q_nl0, q_nlI, q_nlR, not_false_eq_true, q_nz0, q_nz1, q_zv0, q_zv1, q_tl1, q_tl0, q_wif, q_swc, q_swn, List.cons_append, List.nil_append]
  refine (q_loop (fun i => wq X (d + 2) 131 4 [some (.ref T), some (.int (nI n)), some (.int (nI (sSprL τ n i))), some (.int (nI i))] [] h Q) 8 ?_).trans ?_
  · intro i hi
    show wq X (d + 2) 131 4 _ _ _ _ = _
    rw [u131_4]
    have e1 : (7 < nI i) = False := eq_false (nI_nlt (b := i) (a := 7) (by omega) (by omega))
    simp only [u131_5, u131_7, u131_10, u131_11, u131_12, u131_13, u131_16, u131_17, u131_18, u131_21, eq_self, q_nl0, q_nlI, q_nlR, not_false_eq_true, q_nz0, q_nz1, q_zv0, q_zv1, q_tl1, q_tl0, q_wif, q_swc, q_swn, List.cons_append, List.nil_append, ct_T H, shT_0, e1, if_false, c_followers H (sSprL_lt (ct_ok H) hn i), nI_or, nI_1]
    rfl
  · rw [u131_4]
    simp only [u131_5, u131_7, u131_10, u131_11, u131_12, u131_13, u131_16, u131_17, u131_18, u131_21, u131_24, u131_25, eq_self, q_nl0, q_nlI, q_nlR, not_false_eq_true, q_nz0, q_nz1, q_zv0, q_zv1, q_tl1, q_tl0, q_wif, q_swc, q_swn, List.cons_append, List.nil_append, eq_true (show 7 < nI 8 by decide), if_true]
    rfl
theorem c_canKeep {X : XT} {d T q : Nat} {h : HT} {Q : QT} {τ : CT} (H : CTown h T τ) (hq : q < τ 0 2) : wq X (d + 2) 95 0 [some (.ref T), some (.int (nI q))] [] h Q = Q (some (.int (if τ 7 q ≤ sLoss τ (sAll τ) then 1 else 0))) h := by
  have h5 := o_dm (ct_ok H)
  have e1 : (nI q < 0) = False := eq_false (nI_pos (by omega))
  have e2 : (nI q < 5) = True := eq_true (nI_lt (b := 5) (by omega) (by omega))
  have e3 : m_in (nI q) 5 = true := q_in (by omega) (by decide)
  have hc := o_co (ct_ok H) q
  have hl := sLoss_le (ct_ok H) (sAll τ)
  have e4 : (nI (sLoss τ (sAll τ)) < nI (τ 7 q)) = (sLoss τ (sAll τ) < τ 7 q) := propext (nI_ltI (by omega) (by omega))
  simp only [u95_0, u95_1, u95_4, u95_5, u95_6, u95_9, u95_10, u95_13, u95_14, u95_15, u95_16, u95_17, u95_20, u95_23, u95_26, u95_27, u95_30, u95_31, eq_self, q_nl0, q_nlI, q_nlR, not_false_eq_true, q_nz0, q_nz1, q_zv0, q_zv1, q_tl1, q_tl0, q_wif, q_swc, q_swn, List.cons_append, List.nil_append, ct_T H, ct_p H, shT_0, shT_8, pT_11, e1, e2, e3, if_true, if_false, q_cl (show q < 2 ^ 31 by omega), ct_co H q hq, c_every H, c_lossBy H (sAll_lt (ct_ok H)), e4]
  by_cases hz : τ 7 q ≤ sLoss τ (sAll τ)
  · rw [if_neg (by omega), if_pos hz]
  · rw [if_pos (by omega), if_neg hz]
