theorem nlt {a b : Nat} (hb : b ≤ a) (ha : a < 2 ^ 31) : ¬ nI a < nI b := nI_nlt hb ha
theorem nI_lit7 : (7 : Int32) = nI 7 := rfl
theorem c_shortBy {X : XT} {d T n : Nat} {h : HT} {Q : QT} {τ : CT} (H : CTown h T τ) (hn : n < 128) : wq X d 86 0 [some (.ref T), some (.int (nI n))] [] h Q = Q (some (.int (nI (sShort τ n)))) h := by
  have e1 : nI n &&& 127 = nI n := by
    have : ∀ n, n < 128 → nI n &&& 127 = nI n := by decide +kernel
    exact this n hn
  have e2 : m_in (nI n) 128 = true := q_in hn (by decide)
  simp only [u86_0, u86_1, u86_4, u86_5, u86_7, u86_8, u86_9, eq_self, q_nl0, q_nlI, q_nlR, not_false_eq_true, q_nz0, q_nz1, q_zv0, q_zv1, q_tl1, q_tl0, q_wif, q_swc, q_swn, List.cons_append, List.nil_append, ct_T H, ct_p H, shT_0, shT_13, pT_17, e1, e2, q_cl (show n < 2 ^ 31 by omega), ct_sh H n hn]
theorem c_lossBy {X : XT} {d T n : Nat} {h : HT} {Q : QT} {τ : CT} (H : CTown h T τ) (hn : n < 128) : wq X (d + 1) 97 0 [some (.ref T), some (.int (nI n))] [] h Q = Q (some (.int (nI (sLoss τ n)))) h := by
  have h16 := sShort_16 (ct_ok H) n
  have e1 : nI (sShort τ n) &&& 15 = nI (sShort τ n) := by
    have : ∀ n, n < 16 → nI n &&& 15 = nI n := by decide +kernel
    exact this _ h16
  have e2 : m_in (nI (sShort τ n)) 16 = true := q_in h16 (by decide)
  simp only [u97_0, u97_1, u97_4, u97_5, u97_6, u97_9, u97_11, u97_12, u97_13, eq_self, q_nl0, q_nlI, q_nlR, not_false_eq_true, q_nz0, q_nz1, q_zv0, q_zv1, q_tl1, q_tl0, q_wif, q_swc, q_swn, List.cons_append, List.nil_append, ct_T H, ct_p H, shT_0, shT_14, pT_18, c_shortBy H hn, e1, e2, q_cl (show sShort τ n < 2 ^ 31 by omega), ct_ls H _ (sShort_lt (ct_ok H) n)]
  rfl
theorem c_foeOdds {X : XT} {d T n : Nat} {h : HT} {Q : QT} {τ : CT} (H : CTown h T τ) (hn : n < 128) : wq X (d + 1) 111 0 [some (.ref T), some (.int (nI n))] [] h Q = Q (some (.int (nI (τ 0 3 * pcN (sShort τ n))))) h := by
  have h16 := sShort_16 (ct_ok H) n
  simp only [u111_0, u111_1, u111_4, u111_5, u111_6, u111_9, u111_12, u111_13, eq_self, q_nl0, q_nlI, q_nlR, not_false_eq_true, q_nz0, q_nz1, q_zv0, q_zv1, q_tl1, q_tl0, q_wif, q_swc, q_swn, List.cons_append, List.nil_append, ct_T H, ct_p H, shT_0, c_shortBy H hn, c_bitCount (show sShort τ n < 128 by omega), ct_fo H, pk_mul]
theorem c_every {X : XT} {d T : Nat} {h : HT} {Q : QT} {τ : CT} (H : CTown h T τ) : wq X d 96 0 [some (.ref T)] [] h Q = Q (some (.int (nI (sAll τ)))) h := by
  have h7 := o_mn (ct_ok H)
  rw [c_everyone (by rw [shT_0 (ct_T H)]), ct_mn H, nI_all _ (by omega)]
  rfl
theorem sAll_lt {τ : CT} (H : cOk τ) : sAll τ < 128 := by
  have := p2_7 (o_mn H)
  unfold sAll
  omega
theorem c_handsOf {X : XT} {d T n c : Nat} {h : HT} {Q : QT} {τ : CT} (H : CTown h T τ) (hn : n < 128) (hc : c < τ 0 0) : wq X (d + 1) 73 0 [some (.ref T), some (.int (nI c)), some (.int (nI n))] [] h Q = Q (some (.int (nI (pcN (sMen τ c &&& (127 ^^^ n)))))) h := by
  have h4 := o_cr (ct_ok H)
  have e1 : (nI c < 0) = False := eq_false (nI_pos (by omega))
  have e2 : (nI c < 4) = True := eq_true (nI_lt (b := 4) (by omega) (by omega))
  have e3 : m_in (nI c) 4 = true := q_in (by omega) (by decide)
  have hm := sMen_lt (ct_ok H) c
  have e4 : sMen τ c &&& (127 ^^^ n) < 128 := Nat.lt_of_le_of_lt Nat.and_le_left hm
  simp only [u73_0, u73_1, u73_4, u73_5, u73_6, u73_9, u73_10, u73_13, u73_14, u73_15, u73_16, u73_17, u73_18, u73_19, u73_22, u73_25, u73_26, eq_self, q_nl0, q_nlI, q_nlR, not_false_eq_true, q_nz0, q_nz1, q_zv0, q_zv1, q_tl1, q_tl0, q_wif, q_swc, q_swn, List.cons_append, List.nil_append, ct_T H, ct_p H, shT_0, shT_3, pT_3, e1, e2, e3, if_true, if_false, q_cl (show c < 2 ^ 31 by omega), ct_me H c hc, nI_not _ hm _ hn, c_bitCount e4]
theorem c_followers {X : XT} {d T n : Nat} {h : HT} {Q : QT} {τ : CT} (H : CTown h T τ) (hn : n < 128) : wq X (d + 1) 108 0 [some (.ref T), some (.int (nI n)), none, none, none] [] h Q = Q (some (.int (nI (sFol τ n)))) h := by
  have h7 := o_mn (ct_ok H)
  have hp := pcN_le n hn
  simp only [u108_0, u108_1, u108_2, u108_3, u108_6, u108_7, u108_8, eq_self, q_nl0, q_nlI, q_nlR, not_false_eq_true, q_nz0, q_nz1, q_zv0, q_zv1, q_tl1, q_tl0, q_wif, q_swc, q_swn, List.cons_append, List.nil_append, c_bitCount hn]
  refine (q_loop (fun i => wq X (d + 1) 108 10 [some (.ref T), some (.int (nI n)), some (.int (nI (sFolL τ n i))), some (.int (nI (pcN n))), some (.int (nI i))] [] h Q) (τ 0 1) ?_).trans ?_
  · intro i hi
    have e1 : (nI i < nI (τ 0 1)) = True := eq_true (nI_lt hi (by omega))
    have e2 : (nI i < 7) = True := eq_true (nI_lt (b := 7) (by omega) (by omega))
    have e3 : m_in (nI i) 7 = true := q_in (by omega) (by decide)
    have ho := o_ot (ct_ok H) i
    have e4 : (nI (τ 6 i) < 1) = (τ 6 i < 1) := propext (nI_ltI (b := 1) (by omega) (by omega))
    have e5 : (nI (pcN n) < nI (τ 6 i)) = (pcN n < τ 6 i) := propext (nI_ltI (by omega) (by omega))
    show wq X (d + 1) 108 10 _ _ _ _ = _
    rw [u108_10]
    simp only [u108_12, u108_13, u108_16, u108_19, u108_21, u108_23, u108_26, u108_27, u108_29, u108_30, u108_31, u108_32, u108_35, u108_36, u108_39, u108_41, u108_42, u108_43, u108_46, u108_47, u108_50, u108_52, u108_53, u108_54, u108_57, u108_58, u108_59, u108_61, u108_62, u108_63, u108_64, u108_67, eq_self, q_nl0, q_nlI, q_nlR, not_false_eq_true, q_nz0, q_nz1, q_zv0, q_zv1, q_tl1, q_tl0, q_wif, q_swc, q_swn, List.cons_append, List.nil_append, ct_T H, ct_p H, shT_0, shT_7, pT_8, ct_mn H, e1, e2, e3, if_true, q_cl (show i < 2 ^ 31 by omega), ct_ot H i hi, nI_bit0 n hn i (by omega), e4, e5, nI_sh i (by omega), nI_or, nI_1]
    unfold sFolL
    trace_state
    sorry
  · rw [u108_10]
    simp only [u108_12, u108_13, u108_16, u108_19, u108_21, u108_23, u108_26, u108_27, u108_29, u108_30, u108_31, u108_32, u108_35, u108_36, u108_39, u108_41, u108_42, u108_43, u108_46, u108_47, u108_50, u108_52, u108_53, u108_54, u108_57, u108_58, u108_59, u108_61, u108_62, u108_63, u108_64, u108_67, u108_70, u108_71, eq_self, q_nl0, q_nlI, q_nlR, not_false_eq_true, q_nz0, q_nz1, q_zv0, q_zv1, q_tl1, q_tl0, q_wif, q_swc, q_swn, List.cons_append, List.nil_append, ct_T H, ct_p H, shT_0, shT_7, pT_8, ct_mn H, eq_false (nI_nlt (Nat.le_refl (τ 0 1)) (by omega)), if_false]
    rfl
