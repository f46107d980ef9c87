/-! leave, home, give, grant, day -/
theorem kp_ok {τ : CT} {A : Nat → Int32} {W : Nat → Nat → Int32} {bh ah : Nat} (K : aOk τ 999 A) (hb : bh + ah ≤ 40) (H : ∀ j, j < bh + ah → aOk τ 999 (W j)) : kpB bh + 0 ≤ 40 ∧ ∀ j, j < kpB bh + 0 → aOk τ 999 (kpW W A bh j) := by
  unfold kpB kpW
  by_cases z : bh = 40
  · rw [if_pos z, if_pos z]
    refine ⟨by omega, fun j hj => ?_⟩
    show aOk τ 999 (if j = 39 then A else W (j + 1))
    by_cases y : j = 39
    · rw [if_pos y]
      exact K
    · rw [if_neg y]
      exact H _ (by omega)
  · rw [if_neg z, if_neg z]
    refine ⟨by omega, fun j hj => ?_⟩
    show aOk τ 999 (if j = bh then A else W j)
    by_cases y : j = bh
    · rw [if_pos y]
      exact K
    · rw [if_neg y]
      exact H _ (by omega)
theorem p2_set {k m : Nat} (h : m < k) : 2 ^ m < 2 ^ k := Nat.pow_lt_pow_right (by decide) h
theorem p2_and0 : ∀ n, n < 128 → ∀ m, m < 7 → n.testBit m = false → 2 ^ m &&& n = 0 := by decide +kernel
theorem CAct_38 {τ : CT} {h : HT} {o bh ah : Nat} {W : Nat → Nat → Int32} {A : Nat → Int32} {r : RS} (C : CAct τ h o bh ah W A) : CAct τ (pS h 38 r) o bh ah W A := CAct_eq (fun c k h1 h2 => gI_pSo (by omega)) C
theorem KAct_27 {h : HT} {bh ah : Nat} {W : Nat → Nat → Int32} {v : Nat → Int32} (C : KAct h bh ah W) : KAct (hC h 227 v) bh ah W := KAct_eq (fun c k z => gI_hCo (by omega)) C
theorem hC_A {h : HT} {A : Nat → Int32} (e : m_gI h 227 = A) : hC h 227 A = h := by
  subst e
  exact hC_id
theorem s27_14 {h : HT} {A : Nat → Int32} {k : Nat} {v : Int32} (e : m_gI h 227 = A) : m_sI h 227 k v = hC h 227 (up A k v) := by
  have := sI_hC (h := h) (c := 227) (v := A) (k := k) (x := v)
  rw [hC_A e] at this
  exact this
theorem s_leave {X : XT} {d : Nat} {h : HT} {σ : ST} (C : CI h σ) (K : KI h σ) (O : OKs σ) (x : Int32) : Pi X (d + 10) 116 [some (.ref 1), some (.int x)] 252 [some (.ref 195), some (.int x)] h := by
  obtain ⟨τ, A, bh, ah, W, F, B, n, t, S, L, V, xx, yy⟩ := σ
  have C0 := C
  have K0 := K
  obtain ⟨⟨T, H, H1'⟩, ⟨o, HA⟩, H3, H4, H5, H6⟩ := C
  obtain ⟨⟨b, f, KH⟩, KA, K3, K4, K5, K6⟩ := K
  obtain ⟨O1, O2, O3⟩ := O
  have hp := cq_p H
  have hk := cq_k H
  have h7 := o_mn hk
  have h8 := p2_7 h7
  have hn := cq_n H
  have s38 : (m_sh KS 38).1 = 7 := by rw [sh_38]
  rcases ix_cases x (k := τ 0 1) (by omega) with ⟨m, hm, rfl, ix⟩ | ix
  · have hb := bit01 hn (show m < 8 by omega)
    by_cases z : (aN A).testBit m = true
    · refine Pi_of C0 K0 ⟨O1, O2, O3⟩ (Pr_pure (-1) (fun Q => ?_) (fun Q => ?_))
      · simp only [u116_0, u116_1, u116_2, u116_5, u116_8, u116_9, u116_12, u116_13, u116_16, u116_19, u116_20, eq_self, q_nl0, q_nlI, q_nlR, not_false_eq_true, q_nz0, q_nz1, q_zv0, q_zv1, q_tl1, q_tl0, q_wif, q_swc, q_swn, List.cons_append, List.nil_append, if_true, if_false, e10, e01, Bool.false_eq_true, sh_1, sh_38, c_isIx (cq_t H) (cq_T H), ix, p_1_3 hp, c_isOut s38, cq_o H, hb, z]
      · simp only [u252_0, u252_1, u252_2, u252_5, u252_8, u252_9, u252_12, u252_14, u252_15, u252_16, u252_19, u252_22, u252_23, eq_self, q_nl0, q_nlI, q_nlR, not_false_eq_true, q_nz0, q_nz1, q_zv0, q_zv1, q_tl1, q_tl0, q_wif, q_swc, q_swn, List.cons_append, List.nil_append, if_true, if_false, e10, e01, Bool.false_eq_true, sh_195, sh_227, k_isMan (mq_t KH), ix, p_195_47 hp, in14, cl14, mq_o KH, k_has, hb, z]
    · have zf : (aN A).testBit m = false := by simpa using z
      have hs := p2_set hm
      have hs8 : 2 ^ m < 128 := by omega
      obtain ⟨g1, o', d1, e38, ca, cw⟩ := c_keep (X := X) (d := d + 7) H HA O1
      have R1 : Rep τ (gS g1 38) A := by rw [e38]; exact cq_r H
      have H1 := CQ_da d1 H R1 (cq_a H)
      have R2 : Rep τ (rWalk (gS g1 38) (2 ^ m)) (plA A (2 ^ m)) := plA_rep hk hs (p2_and0 _ hn m (by omega) zf) (cq_a H) R1
      have A2 := plA_ok hk hs (cq_a H)
      have d2 : Da h (pS g1 38 (rWalk (gS g1 38) (2 ^ m))) := Da_tr d1 (Da_pS (by omega) (by omega))
      have hu := or_128 hn hs8
      have go : m_gI (pS g1 38 (rWalk (gS g1 38) (2 ^ m))) 38 0 = nI (aN A ||| 2 ^ m) := by
        rw [gI_pS0]
        show m_gI g1 38 0 ||| nI (2 ^ m) = _
        rw [cq_o H1, nI_or]
      have KHi := KQ_hi (Da_hi d2) KH
      have KAi : KAct (pS g1 38 (rWalk (gS g1 38) (2 ^ m))) bh ah W := KAct_eq (fun c k z => (Da_hi d2).2 c k (by omega)) KA
      obtain ⟨g3, k1, k2, k3, k4⟩ := k_keep (X := X) (d := d + 9) KHi KAi O1
      have KH3 := KQ_dk k1 KHi k2 (mq_a KH)
      have eup : up A 14 (nI (aN A ||| 2 ^ m)) = plA A (2 ^ m) := rfl
      have dk2 : Dk (pS g1 38 (rWalk (gS g1 38) (2 ^ m))) (hC g3 227 (plA A (2 ^ m))) := Dk_tr k1 Dk_hC27
      refine ⟨nI (pcN (aN A ||| 2 ^ m)), pS g1 38 (rWalk (gS g1 38) (2 ^ m)), hC g3 227 (plA A (2 ^ m)), (τ, plA A (2 ^ m), kpB bh, 0, kpW W A bh, F, B, n, t, S, L, V, xx, yy), ?_, ?_, ?_, fun Q => ?_, fun Q => ?_⟩
      · exact ⟨(kp_ok (cq_a H) O1 O2).1, (kp_ok (cq_a H) O1 O2).2, O3⟩
      · exact CI_lo (Dk_lo dk2) (CI_act C0 d2 (by rw [gS_pS]; exact R2) A2 (CAct_38 (ca _)))
      · exact KI_act (KI_hi (Da_hi d2) K0) dk2 (funext fun k => gI_hC) A2 (KAct_27 k3)
      · have cwo := fun (Q : QT) => c_walkOut (X := X) (d := d + 9) (h := g1) (Q := Q) is38 (cq_p H1) hs8
        simp only [u116_0, u116_1, u116_2, u116_5, u116_8, u116_9, u116_12, u116_13, u116_16, u116_19, u116_20, u116_21, u116_22, u116_25, u116_26, u116_29, eq_self, q_nl0, q_nlI, q_nlR, not_false_eq_true, q_nz0, q_nz1, q_zv0, q_zv1, q_tl1, q_tl0, q_wif, q_swc, q_swn, List.cons_append, List.nil_append, if_true, if_false, e10, e01, Bool.false_eq_true, sh_1, sh_38, sh_44, c_isIx (cq_t H) (cq_T H), ix, p_1_3 hp, c_isOut s38, cq_o H, hb, z, p_1_5 hp, cw]
        simp only [u116_32, u116_33, u116_36, u116_37, u116_38, u116_39, u116_42, u116_43, u116_46, u116_49, u116_52, eq_self, q_nl0, q_nlI, q_nlR, not_false_eq_true, q_nz0, q_nz1, q_zv0, q_zv1, q_tl1, q_tl0, q_wif, q_swc, q_swn, List.cons_append, List.nil_append, if_true, if_false, e10, e01, Bool.false_eq_true, sh_1, sh_38, p_1_3 (cq_p H1), nI_sh m (by omega), cwo, gR_pS, go, c_bitCount hu]
      · simp only [u252_0, u252_1, u252_2, u252_5, u252_8, u252_9, u252_12, u252_14, u252_15, u252_16, u252_19, u252_22, u252_23, u252_24, u252_25, eq_self, q_nl0, q_nlI, q_nlR, not_false_eq_true, q_nz0, q_nz1, q_zv0, q_zv1, q_tl1, q_tl0, q_wif, q_swc, q_swn, List.cons_append, List.nil_append, if_true, if_false, e10, e01, Bool.false_eq_true, sh_195, sh_227, k_isMan (mq_t KHi), ix, p_195_47 (mq_p KHi), in14, cl14, mq_o KHi, k_has, hb, z, k4]
        simp only [u252_28, u252_29, u252_32, u252_34, u252_35, u252_36, u252_37, u252_38, u252_39, u252_40, u252_41, u252_42, u252_45, u252_47, u252_48, u252_51, eq_self, q_nl0, q_nlI, q_nlR, not_false_eq_true, q_nz0, q_nz1, q_zv0, q_zv1, q_tl1, q_tl0, q_wif, q_swc, q_swn, List.cons_append, List.nil_append, if_true, if_false, e10, e01, Bool.false_eq_true, sh_195, sh_227, p_195_47 (mq_p KH3), in14, cl14, mq_o KH3, nI_sh m (by omega), nI_or, s27_14 k2, eup, gR_hC, gI_hC, show plA A (2 ^ m) 14 = nI (aN A ||| 2 ^ m) from up_s, k_bitsOf hu]
  · refine Pi_of C0 K0 ⟨O1, O2, O3⟩ (Pr_pure (-1) (fun Q => ?_) (fun Q => ?_))
    · simp only [u116_0, u116_1, u116_2, u116_5, u116_8, u116_9, u116_12, u116_13, u116_16, u116_19, u116_20, eq_self, q_nl0, q_nlI, q_nlR, not_false_eq_true, q_nz0, q_nz1, q_zv0, q_zv1, q_tl1, q_tl0, q_wif, q_swc, q_swn, List.cons_append, List.nil_append, if_true, if_false, e10, e01, Bool.false_eq_true, sh_1, c_isIx (cq_t H) (cq_T H), ix]
    · simp only [u252_0, u252_1, u252_2, u252_5, u252_8, u252_9, u252_12, u252_14, u252_15, u252_16, u252_19, u252_22, u252_23, eq_self, q_nl0, q_nlI, q_nlR, not_false_eq_true, q_nz0, q_nz1, q_zv0, q_zv1, q_tl1, q_tl0, q_wif, q_swc, q_swn, List.cons_append, List.nil_append, if_true, if_false, e10, e01, Bool.false_eq_true, sh_195, k_isMan (mq_t KH), ix]
theorem s_home {X : XT} {d : Nat} {h : HT} {σ : ST} (C : CI h σ) (K : KI h σ) (O : OKs σ) (x : Int32) : Pi X (d + 10) 120 [some (.ref 1), some (.int x), none] 254 [some (.ref 195), some (.int x), none] h := by
  obtain ⟨τ, A, bh, ah, W, F, B, n, t, S, L, V, xx, yy⟩ := σ
  have C0 := C
  have K0 := K
  obtain ⟨⟨T, H, H1'⟩, ⟨o, HA⟩, H3, H4, H5, H6⟩ := C
  obtain ⟨⟨b, f, KH⟩, KA, K3, K4, K5, K6⟩ := K
  obtain ⟨O1, O2, O3⟩ := O
  have hp := cq_p H
  have hk := cq_k H
  have h7 := o_mn hk
  have h8 := p2_7 h7
  have hn := cq_n H
  have s38 : (m_sh KS 38).1 = 7 := by rw [sh_38]
  rcases ix_cases x (k := τ 0 1) (by omega) with ⟨m, hm, rfl, ix⟩ | ix
  · have hb := bit01 hn (show m < 8 by omega)
    by_cases z : (aN A).testBit m = true
    · have hs := p2_set hm
      have hs8 : 2 ^ m < 128 := by omega
      obtain ⟨g1, o', d1, e38, ca, cw⟩ := c_keep (X := X) (d := d + 7) H HA O1
      have R1 : Rep τ (gS g1 38) A := by rw [e38]; exact cq_r H
      have H1 := CQ_da d1 H R1 (cq_a H)
      have R2 : Rep τ (rHome (gS g1 38) (nI (2 ^ m))) (aHome τ A (aN A) (2 ^ m)) := aHome_rep hk hs8 (cq_a H) R1
      have A2 := aHome_ok (g := 2 ^ m) hk (cq_a H)
      have d2 : Da h (pS g1 38 (rHome (gS g1 38) (nI (2 ^ m)))) := Da_tr d1 (Da_pS (by omega) (by omega))
      have KHi := KQ_hi (Da_hi d2) KH
      have KAi : KAct (pS g1 38 (rHome (gS g1 38) (nI (2 ^ m)))) bh ah W := KAct_eq (fun c k z => (Da_hi d2).2 c k (by omega)) KA
      obtain ⟨g3, k1, k2, k3, k4⟩ := k_keep (X := X) (d := d + 9) KHi KAi O1
      have KH3 := KQ_dk k1 KHi k2 (mq_a KH)
      have kh := fun (Q : QT) => k_goHome (X := X) (d := d + 8) (P := m_gI g3 226) (w := m_gI g3 195 46) (o := m_gI g3 195 48) (Q := Q) (mq_t KH3) (mq_n KH3) hs8 (mq_a KH3).1.1
      rw [hK_g k2] at kh
      have dk2 : Dk (pS g1 38 (rHome (gS g1 38) (nI (2 ^ m)))) (hK g3 (aHome τ A (aN A) (2 ^ m)) (m_gI g3 226) (m_gI g3 195 46) (m_gI g3 195 48)) := by
        refine Dk_tr k1 ⟨rfl, fun c k y1 y2 y3 y4 => ?_⟩
        show (if c = 227 then _ else if c = 226 then _ else if c = 195 ∧ k = 46 then _ else if c = 195 ∧ k = 48 then _ else g3.1 c k) = _
        rw [if_neg y1, if_neg (by omega), if_neg (by omega), if_neg (by omega)]
        rfl
      have k3' : KAct (hK g3 (aHome τ A (aN A) (2 ^ m)) (m_gI g3 226) (m_gI g3 195 46) (m_gI g3 195 48)) (kpB bh) 0 (kpW W A bh) := KAct_eq (fun c k z => by
        show (if c = 227 then _ else if c = 226 then _ else if c = 195 ∧ k = 46 then _ else if c = 195 ∧ k = 48 then _ else g3.1 c k) = _
        rw [if_neg (by omega), if_neg (by omega), if_neg (by omega), if_neg (by omega)]
        rfl) k3
      have e3 : m_in (nI m) 7 = true := q_in (by omega) (by decide)
      have e4 : (nI m).toNatClampNeg = m := q_cl (by omega)
      have e5 : m_in (nI (7 + m)) 20 = true := q_in (by omega) (by decide)
      have e6 : (nI (7 + m)).toNatClampNeg = 7 + m := q_cl (by omega)
      refine ⟨A (7 + m), pS g1 38 (rHome (gS g1 38) (nI (2 ^ m))), hK g3 (aHome τ A (aN A) (2 ^ m)) (m_gI g3 226) (m_gI g3 195 46) (m_gI g3 195 48), (τ, aHome τ A (aN A) (2 ^ m), kpB bh, 0, kpW W A bh, F, B, n, t, S, L, V, xx, yy), ?_, ?_, ?_, fun Q => ?_, fun Q => ?_⟩
      · exact ⟨(kp_ok (cq_a H) O1 O2).1, (kp_ok (cq_a H) O1 O2).2, O3⟩
      · exact CI_lo (Dk_lo dk2) (CI_act C0 d2 (by rw [gS_pS]; exact R2) A2 (CAct_38 (ca _)))
      · exact KI_act (KI_hi (Da_hi d2) K0) dk2 rfl A2 k3'
      · simp only [u120_0, u120_1, u120_2, u120_5, u120_8, u120_9, u120_12, u120_13, u120_16, u120_19, u120_20, u120_21, u120_22, u120_25, u120_26, u120_29, eq_self, q_nl0, q_nlI, q_nlR, not_false_eq_true, q_nz0, q_nz1, q_zv0, q_zv1, q_tl1, q_tl0, q_wif, q_swc, q_swn, List.cons_append, List.nil_append, if_true, if_false, e10, e01, Bool.false_eq_true, sh_1, sh_38, sh_44, c_isIx (cq_t H) (cq_T H), ix, p_1_3 hp, c_isOut s38, cq_o H, hb, z, p_1_5 hp, cw]
        simp only [u120_32, u120_33, u120_36, u120_39, u120_40, u120_41, u120_42, u120_43, u120_46, u120_47, u120_48, u120_49, u120_52, u120_53, eq_self, q_nl0, q_nlI, q_nlR, not_false_eq_true, q_nz0, q_nz1, q_zv0, q_zv1, q_tl1, q_tl0, q_wif, q_swc, q_swn, List.cons_append, List.nil_append, if_true, if_false, e10, e01, Bool.false_eq_true, sh_1, sh_38, shS_1 is38, pS_1 is38 (cq_p H1), p_1_3 (cq_p H1), e3, e4, cq_dy H1 m hm z, nI_sh m (by omega), c_goHome is38]
      · simp only [u254_0, u254_1, u254_2, u254_5, u254_8, u254_9, u254_12, u254_14, u254_15, u254_16, u254_19, u254_22, u254_23, u254_24, u254_25, eq_self, q_nl0, q_nlI, q_nlR, not_false_eq_true, q_nz0, q_nz1, q_zv0, q_zv1, q_tl1, q_tl0, q_wif, q_swc, q_swn, List.cons_append, List.nil_append, if_true, if_false, e10, e01, Bool.false_eq_true, sh_195, sh_227, k_isMan (mq_t KHi), ix, p_195_47 (mq_p KHi), in14, cl14, mq_o KHi, k_has, hb, z, k4]
        simp only [u254_28, u254_29, u254_32, u254_34, u254_35, u254_36, u254_37, u254_38, u254_39, u254_40, u254_41, u254_42, u254_45, u254_46, eq_self, q_nl0, q_nlI, q_nlR, not_false_eq_true, q_nz0, q_nz1, q_zv0, q_zv1, q_tl1, q_tl0, q_wif, q_swc, q_swn, List.cons_append, List.nil_append, if_true, if_false, e10, e01, Bool.false_eq_true, sh_195, sh_227, p_195_47 (mq_p KH3), nI_7c, e5, e6, mq_A KH3, nI_sh m (by omega), kh]
    · refine Pi_of C0 K0 ⟨O1, O2, O3⟩ (Pr_pure (-1) (fun Q => ?_) (fun Q => ?_))
      · simp only [u120_0, u120_1, u120_2, u120_5, u120_8, u120_9, u120_12, u120_13, u120_16, u120_19, u120_20, eq_self, q_nl0, q_nlI, q_nlR, not_false_eq_true, q_nz0, q_nz1, q_zv0, q_zv1, q_tl1, q_tl0, q_wif, q_swc, q_swn, List.cons_append, List.nil_append, if_true, if_false, e10, e01, Bool.false_eq_true, sh_1, sh_38, c_isIx (cq_t H) (cq_T H), ix, p_1_3 hp, c_isOut s38, cq_o H, hb, z]
      · simp only [u254_0, u254_1, u254_2, u254_5, u254_8, u254_9, u254_12, u254_14, u254_15, u254_16, u254_19, u254_22, u254_23, eq_self, q_nl0, q_nlI, q_nlR, not_false_eq_true, q_nz0, q_nz1, q_zv0, q_zv1, q_tl1, q_tl0, q_wif, q_swc, q_swn, List.cons_append, List.nil_append, if_true, if_false, e10, e01, Bool.false_eq_true, sh_195, sh_227, k_isMan (mq_t KH), ix, p_195_47 hp, in14, cl14, mq_o KH, k_has, hb, z]
  · refine Pi_of C0 K0 ⟨O1, O2, O3⟩ (Pr_pure (-1) (fun Q => ?_) (fun Q => ?_))
    · simp only [u120_0, u120_1, u120_2, u120_5, u120_8, u120_9, u120_12, u120_13, u120_16, u120_19, u120_20, eq_self, q_nl0, q_nlI, q_nlR, not_false_eq_true, q_nz0, q_nz1, q_zv0, q_zv1, q_tl1, q_tl0, q_wif, q_swc, q_swn, List.cons_append, List.nil_append, if_true, if_false, e10, e01, Bool.false_eq_true, sh_1, c_isIx (cq_t H) (cq_T H), ix]
    · simp only [u254_0, u254_1, u254_2, u254_5, u254_8, u254_9, u254_12, u254_14, u254_15, u254_16, u254_19, u254_22, u254_23, eq_self, q_nl0, q_nlI, q_nlR, not_false_eq_true, q_nz0, q_nz1, q_zv0, q_zv1, q_tl1, q_tl0, q_wif, q_swc, q_swn, List.cons_append, List.nil_append, if_true, if_false, e10, e01, Bool.false_eq_true, sh_195, k_isMan (mq_t KH), ix]
theorem s_give {X : XT} {d : Nat} {h : HT} {σ : ST} (C : CI h σ) (K : KI h σ) (O : OKs σ) (x v : Int32) : Pi X (d + 10) 121 [some (.ref 1), some (.int x), some (.int v)] 256 [some (.ref 195), some (.int x), some (.int v)] h := by
  obtain ⟨τ, A, bh, ah, W, F, B, n, t, S, L, V, xx, yy⟩ := σ
  have C0 := C
  have K0 := K
  obtain ⟨⟨T, H, H1'⟩, ⟨o, HA⟩, H3, H4, H5, H6⟩ := C
  obtain ⟨⟨b, f, KH⟩, KA, K3, K4, K5, K6⟩ := K
  obtain ⟨O1, O2, O3⟩ := O
  have hp := cq_p H
  have hk := cq_k H
  have h7 := o_mn hk
  rcases ix_cases x (k := τ 0 1) (by omega) with ⟨m, hm, rfl, ix⟩ | ix
  · by_cases v1 : v < 1
    · refine Pi_of C0 K0 ⟨O1, O2, O3⟩ (Pr_pure (-1) (fun Q => ?_) (fun Q => ?_))
      · simp only [u121_0, u121_1, u121_2, u121_5, u121_8, u121_9, u121_10, u121_13, u121_14, u121_16, u121_19, u121_20, eq_self, q_nl0, q_nlI, q_nlR, not_false_eq_true, q_nz0, q_nz1, q_zv0, q_zv1, q_tl1, q_tl0, q_wif, q_swc, q_swn, List.cons_append, List.nil_append, if_true, if_false, e10, e01, Bool.false_eq_true, sh_1, c_isIx (cq_t H) (cq_T H), ix, eq_true v1]
      · simp only [u256_0, u256_1, u256_2, u256_5, u256_8, u256_9, u256_10, u256_12, u256_15, u256_18, u256_19, eq_self, q_nl0, q_nlI, q_nlR, not_false_eq_true, q_nz0, q_nz1, q_zv0, q_zv1, q_tl1, q_tl0, q_wif, q_swc, q_swn, List.cons_append, List.nil_append, if_true, if_false, e10, e01, Bool.false_eq_true, sh_195, k_isMan (mq_t KH), ix, k_isIn, eq_true v1]
    · by_cases v2 : 99 < v
      · refine Pi_of C0 K0 ⟨O1, O2, O3⟩ (Pr_pure (-1) (fun Q => ?_) (fun Q => ?_))
        · simp only [u121_0, u121_1, u121_2, u121_5, u121_8, u121_9, u121_10, u121_13, u121_14, u121_16, u121_19, u121_20, eq_self, q_nl0, q_nlI, q_nlR, not_false_eq_true, q_nz0, q_nz1, q_zv0, q_zv1, q_tl1, q_tl0, q_wif, q_swc, q_swn, List.cons_append, List.nil_append, if_true, if_false, e10, e01, Bool.false_eq_true, sh_1, c_isIx (cq_t H) (cq_T H), ix, eq_false v1, eq_true v2]
        · simp only [u256_0, u256_1, u256_2, u256_5, u256_8, u256_9, u256_10, u256_12, u256_15, u256_18, u256_19, eq_self, q_nl0, q_nlI, q_nlR, not_false_eq_true, q_nz0, q_nz1, q_zv0, q_zv1, q_tl1, q_tl0, q_wif, q_swc, q_swn, List.cons_append, List.nil_append, if_true, if_false, e10, e01, Bool.false_eq_true, sh_195, k_isMan (mq_t KH), ix, k_isIn, eq_false v1, eq_true v2]
      · obtain ⟨g1, o', d1, e38, ca, cw⟩ := c_keep (X := X) (d := d + 7) H HA O1
        have R1 : Rep τ (gS g1 38) A := by rw [e38]; exact cq_r H
        have H1 := CQ_da d1 H R1 (cq_a H)
        have R2 := upL_rep (v := v) hk hm R1
        have A2 := upL_ok (v := v) hk hm (cq_a H)
        have d2 : Da h (pS g1 38 (rLoaves (gS g1 38) m v)) := Da_tr d1 (Da_pS (by omega) (by omega))
        have KHi := KQ_hi (Da_hi d2) KH
        have KAi : KAct (pS g1 38 (rLoaves (gS g1 38) m v)) bh ah W := KAct_eq (fun c k z => (Da_hi d2).2 c k (by omega)) KA
        obtain ⟨g3, k1, k2, k3, k4⟩ := k_keep (X := X) (d := d + 9) KHi KAi O1
        have KH3 := KQ_dk k1 KHi k2 (mq_a KH)
        have eup : up A m (if 99 < A m + v then 99 else A m + v) = upL A m v := rfl
        have dk2 : Dk (pS g1 38 (rLoaves (gS g1 38) m v)) (hC g3 227 (upL A m v)) := Dk_tr k1 Dk_hC27
        have e1 : m_in (nI m) 7 = true := q_in (by omega) (by decide)
        have e3 : m_in (nI m) 20 = true := q_in (by omega) (by decide)
        have e4 : (nI m).toNatClampNeg = m := q_cl (by omega)
        have gl : m_gI (pS g1 38 (rLoaves (gS g1 38) m v)) (38 + 2) m = upL A m v m := by
          rw [gI_pS2]
          exact R2.2.1 m hm
        refine ⟨upL A m v m, pS g1 38 (rLoaves (gS g1 38) m v), hC g3 227 (upL A m v), (τ, upL A m v, kpB bh, 0, kpW W A bh, F, B, n, t, S, L, V, xx, yy), ?_, ?_, ?_, fun Q => ?_, fun Q => ?_⟩
        · exact ⟨(kp_ok (cq_a H) O1 O2).1, (kp_ok (cq_a H) O1 O2).2, O3⟩
        · exact CI_lo (Dk_lo dk2) (CI_act C0 d2 (by rw [gS_pS]; exact R2) A2 (CAct_38 (ca _)))
        · exact KI_act (KI_hi (Da_hi d2) K0) dk2 (funext fun k => gI_hC) A2 (KAct_27 k3)
        · simp only [u121_0, u121_1, u121_2, u121_5, u121_8, u121_9, u121_10, u121_13, u121_14, u121_16, u121_19, u121_20, u121_21, u121_22, u121_25, u121_26, u121_29, eq_self, q_nl0, q_nlI, q_nlR, not_false_eq_true, q_nz0, q_nz1, q_zv0, q_zv1, q_tl1, q_tl0, q_wif, q_swc, q_swn, List.cons_append, List.nil_append, if_true, if_false, e10, e01, Bool.false_eq_true, sh_1, sh_44, c_isIx (cq_t H) (cq_T H), ix, eq_false v1, eq_false v2, p_1_5 hp, p_1_3 hp, cw]
          simp only [u121_32, u121_33, u121_36, u121_37, u121_38, u121_41, u121_42, u121_45, u121_48, u121_49, u121_50, eq_self, q_nl0, q_nlI, q_nlR, not_false_eq_true, q_nz0, q_nz1, q_zv0, q_zv1, q_tl1, q_tl0, q_wif, q_swc, q_swn, List.cons_append, List.nil_append, if_true, if_false, e10, e01, Bool.false_eq_true, sh_1, sh_38, p_1_3 (cq_p H1), c_getLoaves is38 (cq_p H1) (show m < 7 by omega), gR_pS, shS_2 is38, pS_2 is38 (cq_p H1), e1, e4, gl]
        · simp only [u256_0, u256_1, u256_2, u256_5, u256_8, u256_9, u256_10, u256_12, u256_15, u256_18, u256_19, u256_20, u256_21, eq_self, q_nl0, q_nlI, q_nlR, not_false_eq_true, q_nz0, q_nz1, q_zv0, q_zv1, q_tl1, q_tl0, q_wif, q_swc, q_swn, List.cons_append, List.nil_append, if_true, if_false, e10, e01, Bool.false_eq_true, sh_195, k_isMan (mq_t KHi), ix, k_isIn, eq_false v1, eq_false v2, k4]
          simp only [u256_24, u256_25, u256_28, u256_29, u256_30, u256_31, u256_33, u256_34, u256_37, u256_38, u256_39, u256_40, u256_41, u256_42, u256_43, u256_46, u256_47, u256_48, u256_51, u256_52, u256_53, u256_54, u256_55, eq_self, q_nl0, q_nlI, q_nlR, not_false_eq_true, q_nz0, q_nz1, q_zv0, q_zv1, q_tl1, q_tl0, q_wif, q_swc, q_swn, List.cons_append, List.nil_append, if_true, if_false, e10, e01, Bool.false_eq_true, sh_195, sh_227, p_195_47 (mq_p KH3), Int32.zero_add, e3, e4, mq_A KH3, k_lesser, s27_14 k2, eup, gR_hC, gI_hC]
  · refine Pi_of C0 K0 ⟨O1, O2, O3⟩ (Pr_pure (-1) (fun Q => ?_) (fun Q => ?_))
    · simp only [u121_0, u121_1, u121_2, u121_5, u121_8, u121_9, u121_10, u121_13, u121_14, u121_16, u121_19, u121_20, eq_self, q_nl0, q_nlI, q_nlR, not_false_eq_true, q_nz0, q_nz1, q_zv0, q_zv1, q_tl1, q_tl0, q_wif, q_swc, q_swn, List.cons_append, List.nil_append, if_true, if_false, e10, e01, Bool.false_eq_true, sh_1, c_isIx (cq_t H) (cq_T H), ix]
    · simp only [u256_0, u256_1, u256_2, u256_5, u256_8, u256_9, u256_10, u256_12, u256_15, u256_18, u256_19, eq_self, q_nl0, q_nlI, q_nlR, not_false_eq_true, q_nz0, q_nz1, q_zv0, q_zv1, q_tl1, q_tl0, q_wif, q_swc, q_swn, List.cons_append, List.nil_append, if_true, if_false, e10, e01, Bool.false_eq_true, sh_195, k_isMan (mq_t KH), ix]
/-- a demand granted -/
def grA (τ : CT) (A : Nat → Int32) (g q : Nat) : Nat → Int32 := up (up A 15 (nI (g ||| 2 ^ q))) 16 (A 16 + nI (τ 7 q))
theorem grA_o {τ : CT} {A : Nat → Int32} {g q k : Nat} (h : k ≠ 15) (h2 : k ≠ 16) : grA τ A g q k = A k := by
  show (if k = 16 then _ else if k = 15 then _ else A k) = A k
  rw [if_neg h2, if_neg h]
theorem grA_ok {τ : CT} {N g q : Nat} {A : Nat → Int32} (H : cOk τ) (hg : g < 2 ^ τ 0 2) (hq : q < τ 0 2) (K : aOk τ N A) : aOk τ N (grA τ A g q) := by
  have h7 := o_mn H
  have en : aN (grA τ A g q) = aN A := by
    unfold aN
    rw [grA_o (by decide) (by decide)]
  refine ⟨by rw [en, grA_o (by decide) (by decide)]; exact K.1, ⟨g ||| 2 ^ q, orb hg hq, rfl⟩, by rw [grA_o (by decide) (by decide)]; exact K.2.2.1, ?_⟩
  obtain ⟨y, y1, y2, hd⟩ := K.2.2.2
  refine ⟨y, y1, by rw [grA_o (by decide) (by decide)]; exact y2, fun m hm => ?_⟩
  rw [grA_o (by omega) (by omega), en]
  exact hd m hm
def grR (τ : CT) (r : RS) (q : Nat) : RS := (up (up r.1 5 (r.1 5 ||| nI (2 ^ q))) 3 (r.1 3 + nI (τ 7 q)), r.2)
theorem grA_rep {τ : CT} {g q : Nat} {r : RS} {A : Nat → Int32} (H : cOk τ) (eg : A 15 = nI g) (R : Rep τ r A) : Rep τ (grR τ r q) (grA τ A g q) := by
  have h7 := o_mn H
  have en : aN (grA τ A g q) = aN A := by
    unfold aN
    rw [grA_o (by decide) (by decide)]
  refine ⟨⟨?_, ?_, ?_, ?_, ?_, ?_⟩, fun m hm => ?_, fun m hm hb => ?_⟩
  · rw [grA_o (by decide) (by decide)]
    exact R.1.1
  · show r.1 3 + nI (τ 7 q) = A 16 + nI (τ 7 q)
    rw [R.1.2.1]
  · rw [grA_o (by decide) (by decide)]
    exact R.1.2.2.1
  · show r.1 5 ||| nI (2 ^ q) = nI (g ||| 2 ^ q)
    rw [R.1.2.2.2.1, eg, nI_or]
  · rw [grA_o (by decide) (by decide)]
    exact R.1.2.2.2.2.1
  · rw [grA_o (by decide) (by decide)]
    exact R.1.2.2.2.2.2
  · rw [grA_o (by omega) (by omega)]
    exact R.2.1 m hm
  · rw [en] at hb
    rw [grA_o (by omega) (by omega)]
    exact R.2.2 m hm hb
theorem s_grant {X : XT} {d : Nat} {h : HT} {σ : ST} (C : CI h σ) (K : KI h σ) (O : OKs σ) (x : Int32) : Pi X (d + 10) 123 [some (.ref 1), some (.int x)] 258 [some (.ref 195), some (.int x)] h := by
  obtain ⟨τ, A, bh, ah, W, F, B, n, t, S, L, V, xx, yy⟩ := σ
  have C0 := C
  have K0 := K
  obtain ⟨⟨T, H, H1'⟩, ⟨o, HA⟩, H3, H4, H5, H6⟩ := C
  obtain ⟨⟨b, f, KH⟩, KA, K3, K4, K5, K6⟩ := K
  obtain ⟨O1, O2, O3⟩ := O
  have hp := cq_p H
  have hk := cq_k H
  have h5 := o_dm hk
  have hT := ct_T (cq_t H)
  have hbb := mt_b (mq_t KH)
  obtain ⟨g, hg', eg⟩ := (cq_a H).2.1
  have hg := aGr_128 hk hg'
  rcases ix_cases x (k := τ 0 2) (by omega) with ⟨m, hm, rfl, ix⟩ | ix
  · have hb := bit01 (show g < 128 by omega) (show m < 8 by omega)
    have e1 : m_in (nI m) 5 = true := q_in (by omega) (by decide)
    have e2 : (nI m).toNatClampNeg = m := q_cl (by omega)
    have e6 : m_in (nI (5 * b + m)) 10 = true := m_5b hbb hm h5
    have e7 : (nI (5 * b + m)).toNatClampNeg = 5 * b + m := q_cl (by omega)
    by_cases z : g.testBit m = true
    · refine Pi_of C0 K0 ⟨O1, O2, O3⟩ (Pr_pure (-1) (fun Q => ?_) (fun Q => ?_))
      · simp only [u123_0, u123_1, u123_2, u123_5, u123_8, u123_9, u123_12, u123_15, u123_16, u123_17, u123_18, u123_19, u123_20, u123_23, u123_24, eq_self, q_nl0, q_nlI, q_nlR, not_false_eq_true, q_nz0, q_nz1, q_zv0, q_zv1, q_tl1, q_tl0, q_wif, q_swc, q_swn, List.cons_append, List.nil_append, if_true, if_false, e10, e01, Bool.false_eq_true, sh_1, sh_38, c_isDemand (cq_t H) (cq_T H), ix, p_1_3 hp, cq_g H, eg, hb, z]
      · simp only [u258_0, u258_1, u258_2, u258_5, u258_8, u258_9, u258_12, u258_14, u258_15, u258_16, u258_19, u258_22, u258_23, eq_self, q_nl0, q_nlI, q_nlR, not_false_eq_true, q_nz0, q_nz1, q_zv0, q_zv1, q_tl1, q_tl0, q_wif, q_swc, q_swn, List.cons_append, List.nil_append, if_true, if_false, e10, e01, Bool.false_eq_true, sh_195, sh_227, k_isDemand (mq_t KH), ix, p_195_47 hp, in15, cl15, mq_A KH, eg, k_has, hb, z]
    · obtain ⟨g1, o', d1, e38, ca, cw⟩ := c_keep (X := X) (d := d + 7) H HA O1
      have R1 : Rep τ (gS g1 38) A := by rw [e38]; exact cq_r H
      have H1 := CQ_da d1 H R1 (cq_a H)
      have R2 := grA_rep (q := m) hk eg R1
      have A2 := grA_ok hk hg' hm (cq_a H)
      have es : m_sI (m_sI g1 38 5 (m_gI g1 38 5 ||| nI (2 ^ m))) 38 3 (m_gI g1 38 3 + nI (τ 7 m)) = pS g1 38 (grR τ (gS g1 38) m) := by
        have q1 := sI_pS0 (h := g1) (a := 38) (r := gS g1 38) (k := 5) (v := m_gI g1 38 5 ||| nI (2 ^ m))
        rw [pS_gS] at q1
        rw [q1, sI_pS0]
        rfl
      have d2 : Da h (pS g1 38 (grR τ (gS g1 38) m)) := Da_tr d1 (Da_pS (by omega) (by omega))
      have KHi := KQ_hi (Da_hi d2) KH
      have KAi : KAct (pS g1 38 (grR τ (gS g1 38) m)) bh ah W := KAct_eq (fun c k z => (Da_hi d2).2 c k (by omega)) KA
      obtain ⟨g3, k1, k2, k3, k4⟩ := k_keep (X := X) (d := d + 9) KHi KAi O1
      have KH3 := KQ_dk k1 KHi k2 (mq_a KH)
      have dk2 : Dk (pS g1 38 (grR τ (gS g1 38) m)) (hC g3 227 (grA τ A g m)) := Dk_tr k1 Dk_hC27
      have g3' : ∀ v, m_gI (m_sI g1 38 5 v) 38 3 = m_gI g1 38 3 := fun v => by rw [gI_sI, if_neg (by decide)]
      have gc : ∀ v, m_gI (m_sI g1 38 5 v) (T + 8) m = nI (τ 7 m) := fun v => by
        rw [gI_sI, if_neg (by rcases hT with t | t <;> omega)]
        exact ct_co (cq_t H1) m hm
      have gl : m_gI (pS g1 38 (grR τ (gS g1 38) m)) 38 3 = A 16 + nI (τ 7 m) := by
        rw [gI_pS0]
        exact R2.1.2.1
      refine ⟨A 16 + nI (τ 7 m), pS g1 38 (grR τ (gS g1 38) m), hC g3 227 (grA τ A g m), (τ, grA τ A g m, kpB bh, 0, kpW W A bh, F, B, n, t, S, L, V, xx, yy), ?_, ?_, ?_, fun Q => ?_, fun Q => ?_⟩
      · exact ⟨(kp_ok (cq_a H) O1 O2).1, (kp_ok (cq_a H) O1 O2).2, O3⟩
      · exact CI_lo (Dk_lo dk2) (CI_act C0 d2 (by rw [gS_pS]; exact R2) A2 (CAct_38 (ca _)))
      · exact KI_act (KI_hi (Da_hi d2) K0) dk2 (funext fun k => gI_hC) A2 (KAct_27 k3)
      · simp only [u123_0, u123_1, u123_2, u123_5, u123_8, u123_9, u123_12, u123_15, u123_16, u123_17, u123_18, u123_19, u123_20, u123_23, u123_24, u123_25, u123_26, u123_29, u123_30, u123_33, eq_self, q_nl0, q_nlI, q_nlR, not_false_eq_true, q_nz0, q_nz1, q_zv0, q_zv1, q_tl1, q_tl0, q_wif, q_swc, q_swn, List.cons_append, List.nil_append, if_true, if_false, e10, e01, Bool.false_eq_true, sh_1, sh_38, sh_44, c_isDemand (cq_t H) (cq_T H), ix, p_1_3 hp, cq_g H, eg, hb, z, p_1_5 hp, cw]
        simp only [u123_36, u123_37, u123_40, u123_41, u123_44, u123_45, u123_46, u123_47, u123_48, u123_51, u123_52, u123_55, u123_56, u123_59, u123_60, u123_63, u123_66, u123_67, u123_68, u123_69, u123_72, u123_73, u123_76, u123_79, eq_self, q_nl0, q_nlI, q_nlR, not_false_eq_true, q_nz0, q_nz1, q_zv0, q_zv1, q_tl1, q_tl0, q_wif, q_swc, q_swn, List.cons_append, List.nil_append, if_true, if_false, e10, e01, Bool.false_eq_true, sh_1, sh_38, shT_0 hT, shT_8 hT, gR_sI, pT_11 hT (cq_p H1), p_1_3 (cq_p H1), nI_sh m (by omega), g3', cq_T H1, e1, e2, gc, es, gR_pS, gl]
      · have e16 : up A 15 (nI (g ||| 2 ^ m)) 16 = A 16 := rfl
        have egr : ∀ v, hC (hC g3 227 (up A 15 (nI (g ||| 2 ^ m)))) 227 v = hC g3 227 v := fun v => by
          apply hx
          · intro c j
            show (if c = 227 then v j else if c = 227 then _ else g3.1 c j) = if c = 227 then v j else g3.1 c j
            by_cases y : c = 227
            · rw [if_pos y, if_pos y]
            · rw [if_neg y, if_neg y, if_neg y]
          · rfl
        have s16 : ∀ v, m_sI (hC g3 227 (up A 15 (nI (g ||| 2 ^ m)))) 227 16 v = hC g3 227 (up (up A 15 (nI (g ||| 2 ^ m))) 16 v) := fun v => sI_hC
        have cM : ∀ v, m_gI (hC g3 227 v) 212 (5 * b + m) = nI (τ 7 m) := fun v => (gI_hCo (by decide)).trans (mt_co (mq_t KH3) m hm)
        have kM : ∀ v, m_gI (hC g3 227 v) 195 40 = nI b := fun v => (gI_hCo (by decide)).trans (mt_k (mq_t KH3))
        have eA : ∀ k, up (up A 15 (nI (g ||| 2 ^ m))) 16 (A 16 + nI (τ 7 m)) k = grA τ A g m k := fun k => rfl
        have eA2 : up (up A 15 (nI (g ||| 2 ^ m))) 16 (A 16 + nI (τ 7 m)) = grA τ A g m := rfl
        have e17 : grA τ A g m 16 = A 16 + nI (τ 7 m) := rfl
        simp only [u258_0, u258_1, u258_2, u258_5, u258_8, u258_9, u258_12, u258_14, u258_15, u258_16, u258_19, u258_22, u258_23, u258_24, u258_25, eq_self, q_nl0, q_nlI, q_nlR, not_false_eq_true, q_nz0, q_nz1, q_zv0, q_zv1, q_tl1, q_tl0, q_wif, q_swc, q_swn, List.cons_append, List.nil_append, if_true, if_false, e10, e01, Bool.false_eq_true, sh_195, sh_227, k_isDemand (mq_t KHi), ix, p_195_47 (mq_p KHi), in15, cl15, mq_A KHi, eg, k_has, hb, z, k4]
        simp only [u258_28, u258_29, u258_32, u258_34, u258_35, u258_36, u258_37, u258_38, u258_39, u258_40, u258_41, u258_42, u258_45, u258_47, u258_48, u258_49, u258_50, u258_53, u258_54, u258_55, u258_58, u258_59, u258_60, u258_61, u258_62, u258_63, u258_64, u258_65, u258_68, u258_70, u258_71, eq_self, q_nl0, q_nlI, q_nlR, not_false_eq_true, q_nz0, q_nz1, q_zv0, q_zv1, q_tl1, q_tl0, q_wif, q_swc, q_swn, List.cons_append, List.nil_append, if_true, if_false, e10, e01, Bool.false_eq_true, sh_195, sh_212, sh_227, gR_hC, p_195_47 (mq_p KH3), p_195_25 (mq_p KH3), in15, cl15, in16, cl16, mq_A KH3, eg, nI_sh m (by omega), nI_or, s27_14 k2, gI_hC, e16, kM, nI_5b, e6, e7, cM, s16, eA2, e17]
  · refine Pi_of C0 K0 ⟨O1, O2, O3⟩ (Pr_pure (-1) (fun Q => ?_) (fun Q => ?_))
    · simp only [u123_0, u123_1, u123_2, u123_5, u123_8, u123_9, u123_12, u123_15, u123_16, u123_17, u123_18, u123_19, u123_20, u123_23, u123_24, eq_self, q_nl0, q_nlI, q_nlR, not_false_eq_true, q_nz0, q_nz1, q_zv0, q_zv1, q_tl1, q_tl0, q_wif, q_swc, q_swn, List.cons_append, List.nil_append, if_true, if_false, e10, e01, Bool.false_eq_true, sh_1, c_isDemand (cq_t H) (cq_T H), ix]
    · simp only [u258_0, u258_1, u258_2, u258_5, u258_8, u258_9, u258_12, u258_14, u258_15, u258_16, u258_19, u258_22, u258_23, eq_self, q_nl0, q_nlI, q_nlR, not_false_eq_true, q_nz0, q_nz1, q_zv0, q_zv1, q_tl1, q_tl0, q_wif, q_swc, q_swn, List.cons_append, List.nil_append, if_true, if_false, e10, e01, Bool.false_eq_true, sh_195, k_isDemand (mq_t KH), ix]
