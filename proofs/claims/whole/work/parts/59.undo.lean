/-! day -/
theorem c_day38 {X : XT} {d T N : Nat} {g : HT} {τ : CT} {A : Nat → Int32} (H : CQ g T τ N A) : ∃ g', Fr 38 g g' ∧ Rep τ (gS g' 38) (aD τ A) ∧ ∀ Q : QT, wq X (d + 4) 107 0 [some (.ref T), some (.ref 38), none] [] g Q = Q (some (.int (nI (aC τ A)))) g' := c_passF (X := X) (d := d) (a := 38) (cq_t H) (cq_f H) (cq_a H) is38 (cq_r H)
theorem Fr_Da {h g : HT} (f : Fr 38 h g) : Da h g := ⟨fun c k => by unfold m_gR; rw [f.1], fun c k y z => f.2 c k (by omega) z⟩
theorem s_day {X : XT} {d : Nat} {h : HT} {σ : ST} (C : CI h σ) (K : KI h σ) (O : OKs σ) : Pi X (d + 10) 124 [some (.ref 1)] 259 [some (.ref 195), none] h := by
  obtain ⟨τ, A, bh, ah, W, F, B, n, t, S, L, V, xx, yy⟩ := σ
  have C0 := C
  have K0 := K
  obtain ⟨⟨T, H, H1'⟩, ⟨o, HA⟩, H3, H4, H5, H6⟩ := C
  obtain ⟨⟨b, f, KH⟩, KA, K3, K4, K5, K6⟩ := K
  obtain ⟨O1, O2, O3⟩ := O
  have hp := cq_p H
  have hk := cq_k H
  have hT := ct_T (cq_t H)
  obtain ⟨y, y1, y2, hd⟩ := (cq_a H).2.2.2
  have gd : m_gI h 38 6 = nI y := (cq_r H).1.2.2.2.2.1.trans y2
  by_cases z : y = 999
  · subst z
    refine Pi_of C0 K0 ⟨O1, O2, O3⟩ (Pr_pure (-1) (fun Q => ?_) (fun Q => ?_))
    · simp only [u124_0, u124_1, u124_4, u124_7, u124_10, u124_13, u124_14, eq_self, q_nl0, q_nlI, q_nlR, not_false_eq_true, q_nz0, q_nz1, q_zv0, q_zv1, q_tl1, q_tl0, q_wif, q_swc, q_swn, List.cons_append, List.nil_append, if_true, if_false, e10, e01, Bool.false_eq_true, sh_1, sh_38, p_1_3 hp, gd, eq_false (show ¬ nI 999 < 999 by decide)]
    · simp only [u259_0, u259_1, u259_4, u259_6, u259_7, u259_10, u259_13, u259_14, eq_self, q_nl0, q_nlI, q_nlR, not_false_eq_true, q_nz0, q_nz1, q_zv0, q_zv1, q_tl1, q_tl0, q_wif, q_swc, q_swn, List.cons_append, List.nil_append, if_true, if_false, e10, e01, Bool.false_eq_true, sh_195, sh_227, p_195_47 hp, in18, cl18, mq_A KH, y2, eq_true (show nI 999 = 999 from rfl)]
  · have lt : (nI y < 999) = True := eq_true (nI_lt (b := 999) (by omega) (by omega))
    have ne : (nI y = 999) = False := eq_false (fun w => z ((nI_eq (b := 999) (by omega) (by decide)).mp w))
    have K998 : aOk τ 998 A := ⟨(cq_a H).1, (cq_a H).2.1, (cq_a H).2.2.1, y, by omega, y2, hd⟩
    obtain ⟨g1, o', d1, e38, ca, cw⟩ := c_keep (X := X) (d := d + 7) H HA O1
    have R1 : Rep τ (gS g1 38) A := by rw [e38]; exact cq_r H
    have H1 := CQ_da d1 H R1 K998
    obtain ⟨g2, f1, f2, f3⟩ := c_day38 (X := X) (d := d + 5) H1
    have A2 : aOk τ 999 (aD τ A) := d_ok hk K998
    have d2 : Da h g2 := Da_tr d1 (Fr_Da f1)
    have ca2 : ∀ A', CAct τ g2 o' (kpB bh) 0 (kpW W A bh) A' := fun A' => CAct_eq (fun c k h1 h2 => f1.2 c k (Or.inr (by omega)) (isP_ge (by omega))) (ca A')
    have KHi := KQ_hi (Da_hi d2) KH
    have KAi : KAct g2 bh ah W := KAct_eq (fun c k z => (Da_hi d2).2 c k (by omega)) KA
    obtain ⟨g3, k1, k2, k3, k4⟩ := k_keep (X := X) (d := d + 9) KHi KAi O1
    have KH3 := KQ_dk k1 KHi k2 K998
    obtain ⟨P', w', e⟩ := k_goDay (X := X) (d := d + 3) (P := m_gI g3 226) (w := m_gI g3 195 46) (o := m_gI g3 195 48) (mq_t KH3) (mq_r KH3) (mq_f KH3) (mq_n KH3) (mq_a KH3).1.1
    rw [hK_g k2] at e
    have eD : aDay τ A (aN A) = aD τ A := rfl
    rw [eD] at e
    have dk2 : Dk g2 (hK g3 (aD τ A) P' w' (sOdd τ (aN A ||| sFol τ (aN A)))) := by
      refine Dk_tr k1 ⟨rfl, fun c k y1 y2 y3 y4 => ?_⟩
      show (if c = 227 then _ else if c = 226 then _ else if c = 195 ∧ k = 46 then _ else if c = 195 ∧ k = 48 then _ else g3.1 c k) = _
      rw [if_neg y1, if_neg (by omega), if_neg (by omega), if_neg (by omega)]
      rfl
    have k3' : KAct (hK g3 (aD τ A) P' w' (sOdd τ (aN A ||| sFol τ (aN A)))) (kpB bh) 0 (kpW W A bh) := KAct_eq (fun c k z => by
      show (if c = 227 then _ else if c = 226 then _ else if c = 195 ∧ k = 46 then _ else if c = 195 ∧ k = 48 then _ else g3.1 c k) = _
      rw [if_neg (by omega), if_neg (by omega), if_neg (by omega), if_neg (by omega)]
      rfl) k3
    have e16 : aD τ A 16 - A 16 = nI (aC τ A) := by rw [aD_16 hk (cq_a H), add_sub_l]
    refine ⟨nI (aC τ A), g2, _, (τ, aD τ A, kpB bh, 0, kpW W A bh, F, B, n, t, S, L, V, xx, yy), ?_, CI_lo (Dk_lo dk2) (CI_act C0 d2 f2 A2 (ca2 _)), KI_act (KI_hi (Da_hi d2) K0) dk2 rfl A2 k3', fun Q => ?_, fun Q => ?_⟩
    · exact ⟨(kp_ok (cq_a H) O1 O2).1, (kp_ok (cq_a H) O1 O2).2, O3⟩
    · simp only [u124_0, u124_1, u124_4, u124_7, u124_10, u124_13, u124_14, u124_15, u124_16, u124_19, u124_20, u124_23, eq_self, q_nl0, q_nlI, q_nlR, not_false_eq_true, q_nz0, q_nz1, q_zv0, q_zv1, q_tl1, q_tl0, q_wif, q_swc, q_swn, List.cons_append, List.nil_append, if_true, if_false, e10, e01, Bool.false_eq_true, sh_1, sh_38, sh_44, p_1_3 hp, gd, lt, p_1_5 hp, cw]
      simp only [u124_26, u124_27, u124_30, u124_31, u124_34, u124_37, eq_self, q_nl0, q_nlI, q_nlR, not_false_eq_true, q_nz0, q_nz1, q_zv0, q_zv1, q_tl1, q_tl0, q_wif, q_swc, q_swn, List.cons_append, List.nil_append, if_true, if_false, e10, e01, Bool.false_eq_true, sh_1, shT_0 hT, cq_T H1, p_1_3 (cq_p H1), f3]
    · simp only [u259_0, u259_1, u259_4, u259_6, u259_7, u259_10, u259_13, u259_14, u259_15, u259_16, eq_self, q_nl0, q_nlI, q_nlR, not_false_eq_true, q_nz0, q_nz1, q_zv0, q_zv1, q_tl1, q_tl0, q_wif, q_swc, q_swn, List.cons_append, List.nil_append, if_true, if_false, e10, e01, Bool.false_eq_true, sh_195, sh_227, p_195_47 (mq_p KHi), in18, cl18, mq_A KHi, y2, ne, k4]
      simp only [u259_19, u259_20, u259_23, u259_25, u259_26, u259_27, u259_28, eq_self, q_nl0, q_nlI, q_nlR, not_false_eq_true, q_nz0, q_nz1, q_zv0, q_zv1, q_tl1, q_tl0, q_wif, q_swc, q_swn, List.cons_append, List.nil_append, if_true, if_false, e10, e01, Bool.false_eq_true, sh_195, sh_227, p_195_47 (mq_p KH3), in16, cl16, mq_A KH3, e]
      simp only [u259_31, u259_32, u259_35, u259_37, u259_38, u259_39, u259_40, eq_self, q_nl0, q_nlI, q_nlR, not_false_eq_true, q_nz0, q_nz1, q_zv0, q_zv1, q_tl1, q_tl0, q_wif, q_swc, q_swn, List.cons_append, List.nil_append, if_true, if_false, e10, e01, Bool.false_eq_true, sh_195, sh_227, gR_hK, p_195_47 (mq_p KH3), in16, cl16, gI_hK227, e16]
/-! undo, redo -/
theorem hC_2 {h : HT} {a w : Nat → Int32} {k : Nat} {v : Int32} : m_sI (hC (hC h 227 a) 228 w) 227 k v = hC (hC h 227 (up a k v)) 228 w := by
  apply hx
  · intro c j
    show (if c = 227 ∧ j = k then v else if c = 228 then w j else if c = 227 then a j else h.1 c j) = if c = 228 then w j else if c = 227 then (if j = k then v else a j) else h.1 c j
    by_cases z : c = 227
    · by_cases y : j = k
      · rw [if_pos ⟨z, y⟩, if_neg (by omega), if_pos z, if_pos y]
      · rw [if_neg (fun q => y q.2), if_neg (by omega), if_pos z, if_neg (by omega), if_pos z, if_neg y]
    · rw [if_neg (fun q => z q.1)]
      by_cases y : c = 228
      · rw [if_pos y, if_pos y]
      · rw [if_neg y, if_neg z, if_neg y, if_neg z]
  · rfl
theorem k_exch {X : XT} {d p : Nat} {g : HT} {Q : QT} {A : Nat → Int32} (hp : Ptr g) (h50 : m_gI g 195 50 = nI p) (hpl : p < 41) (hA : m_gI g 227 = A) : wq X d 264 0 [some (.ref 195), none, none] [] g Q = Q none (hC (hC g 227 (cpL A (fun k => m_gI g 228 (20 * p + k)) 20)) 228 (ptL A (m_gI g 228) (20 * p) 20)) := by
  simp only [u264_0, u264_1, eq_self, q_nl0, q_nlI, q_nlR, not_false_eq_true, q_nz0, q_nz1, q_zv0, q_zv1, q_tl1, q_tl0, q_wif, q_swc, q_swn, List.cons_append, List.nil_append, if_true, if_false, e10, e01, Bool.false_eq_true]
  obtain ⟨l', e⟩ := q_loopL (fun i (l2 : Option Value) => wq X d 264 2 [some (.ref 195), some (.int (nI i)), l2] [] (hC (hC g 227 (cpL A (fun k => m_gI g 228 (20 * p + k)) i)) 228 (ptL A (m_gI g 228) (20 * p) i)) Q) 20 (by
    intro i hi l2
    refine ⟨some (.int (m_gI g 228 (20 * p + i))), ?_⟩
    have e1 : (nI i < 20) = True := eq_true (nI_lt (b := 20) (by omega) (by omega))
    have e3 : m_in (nI i) 20 = true := q_in (by omega) (by decide)
    have e4 : (nI i).toNatClampNeg = i := q_cl (by omega)
    have e5 : m_in (nI (20 * p + i)) 820 = true := q_in (by omega) (by decide)
    have e6 : (nI (20 * p + i)).toNatClampNeg = 20 * p + i := q_cl (by omega)
    have g50 : ∀ a v, m_gI (hC (hC g 227 a) 228 v) 195 50 = nI p := fun a v => (gI_hCo (by decide)).trans ((gI_hCo (by decide)).trans h50)
    have g27 : ∀ a v, m_gI (hC (hC g 227 a) 228 v) 227 i = a i := fun a v => (gI_hCo (by decide)).trans gI_hC
    have p1 : ptL A (m_gI g 228) (20 * p) i (20 * p + i) = m_gI g 228 (20 * p + i) := if_neg (by omega)
    have p2 : cpL A (fun k => m_gI g 228 (20 * p + k)) i i = A i := if_neg (by omega)
    show wq X d 264 2 _ _ _ _ = _
    rw [u264_2]
    simp only [u264_3, u264_5, u264_8, u264_9, u264_12, u264_14, u264_15, u264_18, u264_19, u264_20, u264_21, u264_22, u264_23, u264_24, u264_27, u264_29, u264_30, u264_33, u264_34, u264_35, u264_36, u264_37, u264_40, u264_41, u264_42, u264_43, u264_44, u264_47, u264_48, u264_49, u264_50, u264_53, eq_self, q_nl0, q_nlI, q_nlR, not_false_eq_true, q_nz0, q_nz1, q_zv0, q_zv1, q_tl1, q_tl0, q_wif, q_swc, q_swn, List.cons_append, List.nil_append, if_true, if_false, e10, e01, Bool.false_eq_true, sh_195, sh_227, sh_228, gR_hC, p_195_47 hp, p_195_49 hp, e1, g50, nI_20b, e3, e4, e5, e6, gI_hC, p1, g27, p2, sI_hC, hC_2, nI_1, ptL_s, cpL_s]) none
  have e0 : hC (hC g 227 (cpL A (fun k => m_gI g 228 (20 * p + k)) 0)) 228 (ptL A (m_gI g 228) (20 * p) 0) = g := by
    rw [cpL_0, ptL_0, hC_A hA, hC_id]
  rw [e0] at e
  refine Eq.trans e ?_
  show wq X d 264 2 _ _ _ _ = _
  rw [u264_2]
  simp only [u264_3, u264_5, u264_56, eq_self, q_nl0, q_nlI, q_nlR, not_false_eq_true, q_nz0, q_nz1, q_zv0, q_zv1, q_tl1, q_tl0, q_wif, q_swc, q_swn, List.cons_append, List.nil_append, if_true, if_false, e10, e01, Bool.false_eq_true, eq_false (show ¬ nI 20 < 20 by decide)]
theorem s_undo {X : XT} {d : Nat} {h : HT} {σ : ST} (C : CI h σ) (K : KI h σ) (O : OKs σ) : Pi X (d + 10) 125 [some (.ref 1)] 263 [some (.ref 195)] h := by
  obtain ⟨τ, A, bh, ah, W, F, B, n, t, S, L, V, xx, yy⟩ := σ
  have C0 := C
  have K0 := K
  obtain ⟨⟨T, H, H1'⟩, ⟨o, HA⟩, H3, H4, H5, H6⟩ := C
  obtain ⟨⟨b, f, KH⟩, KA, K3, K4, K5, K6⟩ := K
  obtain ⟨O1, O2, O3⟩ := O
  have hp := cq_p H
  have hk := cq_k H
  obtain ⟨ho, ⟨f1, f2, f3⟩, r1, r2, r3⟩ := HA
  by_cases z : bh = 0
  · subst z
    refine Pi_of C0 K0 ⟨O1, O2, O3⟩ (Pr_pure 0 (fun Q => ?_) (fun Q => ?_))
    · simp only [u125_0, u125_1, u125_4, u125_5, u125_8, u125_11, u126_0, u126_1, u126_4, u126_7, u126_8, eq_self, q_nl0, q_nlI, q_nlR, not_false_eq_true, q_nz0, q_nz1, q_zv0, q_zv1, q_tl1, q_tl0, q_wif, q_swc, q_swn, List.cons_append, List.nil_append, if_true, if_false, e10, e01, Bool.false_eq_true, sh_1, sh_38, sh_44, p_1_5 hp, p_1_3 hp, f2, eq_true (show nI 0 = 0 from rfl)]
    · simp only [u263_0, u263_1, u263_4, u263_7, u263_8, eq_self, q_nl0, q_nlI, q_nlR, not_false_eq_true, q_nz0, q_nz1, q_zv0, q_zv1, q_tl1, q_tl0, q_wif, q_swc, q_swn, List.cons_append, List.nil_append, if_true, if_false, e10, e01, Bool.false_eq_true, sh_195, KA.1, eq_true (show nI 0 = 0 from rfl)]
  · obtain ⟨p, rfl⟩ : ∃ p, bh = p + 1 := ⟨bh - 1, by omega⟩
    have ne : (nI (p + 1) = 0) = False := eq_false (nI_ne0 (by omega) (by omega))
    -- the class
    have bd := rg_bd (o := o) (j := p + 1)
    have bd0 := rg_bd (o := o) (j := p)
    have ch := fun (Q : QT) => c_here (X := X) (d := d + 7) (Q := Q) hp ho (show p + 1 ≤ 40 by omega) f1 f2
    have s0 : ∀ j, (m_sh KS (rg o j)).1 = 7 := fun j => by rw [shS_0 rg_S]
    have cc := fun (Q : QT) => c_copy (X := X) (d := d + 8) (h := h) (Q := Q) (rg_S (o := o) (j := p + 1)) is38 rg_38 hp
    have a1 : Da h (pS h (rg o (p + 1)) (rCopy (gS h (rg o (p + 1))) (gS h 38))) := Da_pS (by omega) bd.2
    have q44 : ∀ k, m_gI (pS h (rg o (p + 1)) (rCopy (gS h (rg o (p + 1))) (gS h 38))) 44 k = m_gI h 44 k := fun k => gI_pSo (by omega)
    have q38 : gS (pS h (rg o (p + 1)) (rCopy (gS h (rg o (p + 1))) (gS h 38))) 38 = gS h 38 := gS_pSo (by omega)
    have qb : gS (pS h (rg o (p + 1)) (rCopy (gS h (rg o (p + 1))) (gS h 38))) (rg o (p + 1)) = rCopy (gS h (rg o (p + 1))) (gS h 38) := gS_pS
    have qo : ∀ j, j < 41 → j ≠ p + 1 → gS (pS h (rg o (p + 1)) (rCopy (gS h (rg o (p + 1))) (gS h 38))) (rg o j) = gS h (rg o j) := fun j hj nn => gS_pSo (by
      have := isS_apart (rg_S (o := o) (j := j)) (rg_S (o := o) (j := p + 1)) (rg_ne hj (by omega) nn)
      omega)
    have Rb : Rep τ (rCopy (gS h (rg o (p + 1))) (gS h 38)) A := Rep_copy hk (cq_r H)
    generalize pS h (rg o (p + 1)) (rCopy (gS h (rg o (p + 1))) (gS h 38)) = h1 at cc a1 q44 q38 qb qo
    have q1 : m_gI h1 44 1 = nI o := (q44 1).trans f1
    have q2 : m_gI h1 44 2 = nI (p + 1) := (q44 2).trans f2
    have q3 : m_gI h1 44 3 = nI ah := (q44 3).trans f3
    have hp1 : Ptr h1 := Ptr_of hp a1.1
    have a2 : Da h (m_sI (m_sI h1 44 2 (nI p)) 44 3 (nI (ah + 1))) := Da_tr a1 (Da_tr (Da_sI (by omega) (by omega)) (Da_sI (by omega) (by omega)))
    have eg : ∀ c, c < 44 ∨ 45 ≤ c → c + 3 ≤ 44 ∨ 45 ≤ c → gS (m_sI (m_sI h1 44 2 (nI p)) 44 3 (nI (ah + 1))) c = gS h1 c := fun c z1 z2 => by
      rw [gS_sI (by omega), gS_sI (by omega)]
    have w1 : m_gI (m_sI (m_sI h1 44 2 (nI p)) 44 3 (nI (ah + 1))) 44 1 = nI o := by
      rw [gI_sI, if_neg (by omega), gI_sI, if_neg (by omega), q1]
    have w2 : m_gI (m_sI (m_sI h1 44 2 (nI p)) 44 3 (nI (ah + 1))) 44 2 = nI p := by
      rw [gI_sI, if_neg (by omega), gI_sI, if_pos ⟨rfl, rfl⟩]
    have w3 : m_gI (m_sI (m_sI h1 44 2 (nI p)) 44 3 (nI (ah + 1))) 44 3 = nI (ah + 1) := by
      rw [gI_sI, if_pos ⟨rfl, rfl⟩]
    have g3' : m_gI (m_sI h1 44 2 (nI p)) 44 3 = nI ah := by
      rw [gI_sI, if_neg (by omega), q3]
    generalize hh2 : m_sI (m_sI h1 44 2 (nI p)) 44 3 (nI (ah + 1)) = h2 at a2 eg w1 w2 w3
    have hp2 : Ptr h2 := Ptr_of hp a2.1
    have ch2 := fun (Q : QT) => c_here (X := X) (d := d + 7) (h := h2) (Q := Q) hp2 ho (show p ≤ 40 by omega) w1 w2
    have cc2 := fun (Q : QT) => c_copy (X := X) (d := d + 8) (h := h2) (Q := Q) is38 (rg_S (o := o) (j := p)) (fun e => rg_38 e.symm) hp2
    have e38 : gS h2 (rg o p) = gS h (rg o p) := by rw [eg _ (by omega) (by omega), qo p (by omega) (by omega)]
    rw [e38] at cc2
    have Rw := r1 p (by omega)
    have d3 : Da h (pS h2 38 (rCopy (gS h2 38) (gS h (rg o p)))) := Da_tr a2 (Da_pS (by omega) (by omega))
    have A2 : aOk τ 999 (cpL A (W p) 20) := aOk_cg hk (fun k hk2 => if_pos hk2) (O2 p (by omega))
    have R2 : Rep τ (rCopy (gS h2 38) (gS h (rg o p))) (cpL A (W p) 20) := Rep_cg hk (fun k hk2 => if_pos hk2) (Rep_copy hk Rw)
    have CA : CAct τ (pS h2 38 (rCopy (gS h2 38) (gS h (rg o p)))) o p (ah + 1) (fun j => if j = p then A else W j) (cpL A (W p) 20) := by
      refine CAct_38 ⟨ho, ⟨w1, w2, w3⟩, fun j hj => ?_, fun j h1' h2' => ?_, fun _ => ?_⟩
      · show Rep τ _ (if j = p then A else W j)
        have bj := rg_bd (o := o) (j := j)
        rw [if_neg (by omega), eg _ (by omega) (by omega), qo j (by omega) (by omega)]
        exact r1 j (by omega)
      · show Rep τ _ (if j = p then A else W j)
        have bj := rg_bd (o := o) (j := j + 1)
        rw [eg _ (by omega) (by omega)]
        by_cases y : j = p
        · rw [if_pos y, y, qb]
          exact Rb
        · rw [if_neg y, qo (j + 1) (by omega) (by omega)]
          exact r2 j (by omega) (by omega)
      · rw [e38]
        exact Rep_cg hk (fun k hk2 => if_pos hk2) Rw
    -- the model
    have KHi := KQ_hi (Da_hi d3) KH
    have KAi : KAct (pS h2 38 (rCopy (gS h2 38) (gS h (rg o p)))) (p + 1) ah W := KAct_eq (fun c k z => (Da_hi d3).2 c k (by omega)) KA
    have KIi := KI_hi (Da_hi d3) K0
    generalize hg2 : pS h2 38 (rCopy (gS h2 38) (gS h (rg o p))) = g2 at cc2 d3 CA KHi KAi KIi
    have rp : gS g2 38 = rCopy (gS h2 38) (gS h (rg o p)) := by
      rw [← hg2]
      exact gS_pS
    have v50 : m_gI (m_sI (m_sI g2 195 50 (nI p)) 195 51 (nI (ah + 1))) 195 50 = nI p := by
      rw [gI_sI, if_neg (by omega), gI_sI, if_pos ⟨rfl, rfl⟩]
    have v51 : m_gI (m_sI (m_sI g2 195 50 (nI p)) 195 51 (nI (ah + 1))) 195 51 = nI (ah + 1) := by
      rw [gI_sI, if_pos ⟨rfl, rfl⟩]
    have v28 : m_gI (m_sI (m_sI g2 195 50 (nI p)) 195 51 (nI (ah + 1))) 228 = m_gI g2 228 := by
      funext k
      rw [gI_sI, if_neg (by omega), gI_sI, if_neg (by omega)]
    have v27 : m_gI (m_sI (m_sI g2 195 50 (nI p)) 195 51 (nI (ah + 1))) 227 = A := by
      funext k
      rw [gI_sI, if_neg (by omega), gI_sI, if_neg (by omega)]
      exact mq_A KHi k
    have dk1 : Dk g2 (m_sI (m_sI g2 195 50 (nI p)) 195 51 (nI (ah + 1))) := Dk_tr Dk_s50 Dk_s51
    have g51 : m_gI (m_sI g2 195 50 (nI p)) 195 51 = nI ah := by
      rw [gI_sI, if_neg (by omega)]
      exact KAi.2.1
    generalize hh3 : m_sI (m_sI g2 195 50 (nI p)) 195 51 (nI (ah + 1)) = h3 at v50 v51 v28 v27 dk1
    have ke := fun (Q : QT) => k_exch (X := X) (d := d + 9) (Q := Q) (Ptr_rf (Rf_of dk1.1) (mq_p KHi)) v50 (show p < 41 by omega) v27
    have cp : cpL A (fun k => m_gI h3 228 (20 * p + k)) 20 = cpL A (W p) 20 := by
      funext k
      show (if k < 20 then m_gI h3 228 (20 * p + k) else A k) = if k < 20 then W p k else A k
      by_cases y : k < 20
      · rw [if_pos y, if_pos y, v28]
        exact KAi.2.2 p (by omega) k y
      · rw [if_neg y, if_neg y]
    rw [cp] at ke
    have dk2 : Dk g2 (hC (hC h3 227 (cpL A (W p) 20)) 228 (ptL A (m_gI h3 228) (20 * p) 20)) := Dk_tr dk1 (Dk_tr Dk_hC27 Dk_hC28)
    have KA2 : KAct (hC (hC h3 227 (cpL A (W p) 20)) 228 (ptL A (m_gI h3 228) (20 * p) 20)) p (ah + 1) (fun j => if j = p then A else W j) := by
      refine ⟨?_, ?_, fun j hj k hk2 => ?_⟩
      · rw [gI_hCo (by omega), gI_hCo (by omega), v50]
      · rw [gI_hCo (by omega), gI_hCo (by omega), v51]
      · rw [gI_hC]
        show (if 20 * p ≤ 20 * j + k ∧ 20 * j + k < 20 * p + 20 then A (20 * j + k - 20 * p) else m_gI h3 228 (20 * j + k)) = (if j = p then A else W j) k
        by_cases y : j = p
        · rw [if_pos (by omega), if_pos y, show 20 * j + k - 20 * p = k by omega]
        · rw [if_neg (by omega), if_neg y, v28]
          exact KAi.2.2 j (by omega) k hk2
    refine ⟨1, g2, _, (τ, cpL A (W p) 20, p, ah + 1, (fun j => if j = p then A else W j), F, B, n, t, S, L, V, xx, yy), ?_, CI_lo (Dk_lo dk2) (CI_act C0 d3 (by rw [rp]; exact R2) A2 CA), KI_act KIi dk2 (funext fun k => (gI_hCo (by omega)).trans gI_hC) A2 KA2, fun Q => ?_, fun Q => ?_⟩
    · refine ⟨by omega, fun j hj => ?_, O3⟩
      show aOk τ 999 (if j = p then A else W j)
      by_cases y : j = p
      · rw [if_pos y]
        exact cq_a H
      · rw [if_neg y]
        exact O2 j (by omega)
    · simp only [u125_0, u125_1, u125_4, u125_5, u125_8, u125_11, u126_0, u126_1, u126_4, u126_7, u126_8, u126_9, u126_10, u126_13, u126_14, eq_self, q_nl0, q_nlI, q_nlR, not_false_eq_true, q_nz0, q_nz1, q_zv0, q_zv1, q_tl1, q_tl0, q_wif, q_swc, q_swn, List.cons_append, List.nil_append, if_true, if_false, e10, e01, Bool.false_eq_true, sh_1, sh_38, sh_44, p_1_5 hp, p_1_3 hp, f2, ne, ch, s0, cc]
      simp only [u126_17, u126_18, u126_19, u126_22, u126_23, u126_24, u126_27, u126_28, u126_29, u126_32, u126_33, u126_34, u126_37, u126_38, u126_39, u126_42, eq_self, q_nl0, q_nlI, q_nlR, not_false_eq_true, q_nz0, q_nz1, q_zv0, q_zv1, q_tl1, q_tl0, q_wif, q_swc, q_swn, List.cons_append, List.nil_append, if_true, if_false, e10, e01, Bool.false_eq_true, sh_38, sh_44, q2, nI_dn, g3', nI_1, hh2, ch2, s0, cc2, hg2]
      simp only [u126_45, u126_46, u125_11, eq_self, q_nl0, q_nlI, q_nlR, not_false_eq_true, q_nz0, q_nz1, q_zv0, q_zv1, q_tl1, q_tl0, q_wif, q_swc, q_swn, List.cons_append, List.nil_append, if_true, if_false, e10, e01, Bool.false_eq_true]
    · simp only [u263_0, u263_1, u263_4, u263_7, u263_8, u263_9, u263_10, u263_11, u263_14, u263_15, u263_16, u263_19, u263_20, u263_21, u263_24, u263_25, u263_26, u263_29, u263_30, eq_self, q_nl0, q_nlI, q_nlR, not_false_eq_true, q_nz0, q_nz1, q_zv0, q_zv1, q_tl1, q_tl0, q_wif, q_swc, q_swn, List.cons_append, List.nil_append, if_true, if_false, e10, e01, Bool.false_eq_true, sh_195, KAi.1, ne, nI_dn, g51, nI_1, hh3, ke]
      simp only [u263_33, u263_34, eq_self, q_nl0, q_nlI, q_nlR, not_false_eq_true, q_nz0, q_nz1, q_zv0, q_zv1, q_tl1, q_tl0, q_wif, q_swc, q_swn, List.cons_append, List.nil_append, if_true, if_false, e10, e01, Bool.false_eq_true]
theorem s_redo {X : XT} {d : Nat} {h : HT} {σ : ST} (C : CI h σ) (K : KI h σ) (O : OKs σ) : Pi X (d + 10) 127 [some (.ref 1)] 265 [some (.ref 195)] h := by
  obtain ⟨τ, A, bh, ah, W, F, B, n, t, S, L, V, xx, yy⟩ := σ
  have C0 := C
  have K0 := K
  obtain ⟨⟨T, H, H1'⟩, ⟨o, HA⟩, H3, H4, H5, H6⟩ := C
  obtain ⟨⟨b, f, KH⟩, KA, K3, K4, K5, K6⟩ := K
  obtain ⟨O1, O2, O3⟩ := O
  have hp := cq_p H
  have hk := cq_k H
  obtain ⟨ho, ⟨f1, f2, f3⟩, r1, r2, r3⟩ := HA
  by_cases z : ah = 0
  · subst z
    refine Pi_of C0 K0 ⟨O1, O2, O3⟩ (Pr_pure 0 (fun Q => ?_) (fun Q => ?_))
    · simp only [u127_0, u127_1, u127_4, u127_5, u127_8, u127_11, u128_0, u128_1, u128_4, u128_7, u128_8, eq_self, q_nl0, q_nlI, q_nlR, not_false_eq_true, q_nz0, q_nz1, q_zv0, q_zv1, q_tl1, q_tl0, q_wif, q_swc, q_swn, List.cons_append, List.nil_append, if_true, if_false, e10, e01, Bool.false_eq_true, sh_1, sh_38, sh_44, p_1_5 hp, p_1_3 hp, f3, eq_true (show nI 0 = 0 from rfl)]
    · simp only [u265_0, u265_1, u265_4, u265_7, u265_8, eq_self, q_nl0, q_nlI, q_nlR, not_false_eq_true, q_nz0, q_nz1, q_zv0, q_zv1, q_tl1, q_tl0, q_wif, q_swc, q_swn, List.cons_append, List.nil_append, if_true, if_false, e10, e01, Bool.false_eq_true, sh_195, KA.2.1, eq_true (show nI 0 = 0 from rfl)]
  · obtain ⟨q, rfl⟩ : ∃ q, ah = q + 1 := ⟨ah - 1, by omega⟩
    have ne : (nI (q + 1) = 0) = False := eq_false (nI_ne0 (by omega) (by omega))
    have bd := rg_bd (o := o) (j := bh + 1)
    have s0 : ∀ j, (m_sh KS (rg o j)).1 = 7 := fun j => by rw [shS_0 rg_S]
    have a2 : Da h (m_sI (m_sI h 44 2 (nI (bh + 1))) 44 3 (nI q)) := Da_tr (Da_sI (by omega) (by omega)) (Da_sI (by omega) (by omega))
    have eg : ∀ c, c + 3 ≤ 44 ∨ 45 ≤ c → gS (m_sI (m_sI h 44 2 (nI (bh + 1))) 44 3 (nI q)) c = gS h c := fun c z2 => by
      rw [gS_sI (by omega), gS_sI (by omega)]
    have w1 : m_gI (m_sI (m_sI h 44 2 (nI (bh + 1))) 44 3 (nI q)) 44 1 = nI o := by
      rw [gI_sI, if_neg (by omega), gI_sI, if_neg (by omega), f1]
    have w2 : m_gI (m_sI (m_sI h 44 2 (nI (bh + 1))) 44 3 (nI q)) 44 2 = nI (bh + 1) := by
      rw [gI_sI, if_neg (by omega), gI_sI, if_pos ⟨rfl, rfl⟩]
    have w3 : m_gI (m_sI (m_sI h 44 2 (nI (bh + 1))) 44 3 (nI q)) 44 3 = nI q := by
      rw [gI_sI, if_pos ⟨rfl, rfl⟩]
    have g3' : m_gI (m_sI h 44 2 (nI (bh + 1))) 44 3 = nI (q + 1) := by
      rw [gI_sI, if_neg (by omega), f3]
    generalize hh2 : m_sI (m_sI h 44 2 (nI (bh + 1))) 44 3 (nI q) = h2 at a2 eg w1 w2 w3
    have hp2 : Ptr h2 := Ptr_of hp a2.1
    have ch2 := fun (Q : QT) => c_here (X := X) (d := d + 7) (h := h2) (Q := Q) hp2 ho (show bh + 1 ≤ 40 by omega) w1 w2
    have cc2 := fun (Q : QT) => c_copy (X := X) (d := d + 8) (h := h2) (Q := Q) is38 (rg_S (o := o) (j := bh + 1)) (fun e => rg_38 e.symm) hp2
    have e38 : gS h2 (rg o (bh + 1)) = gS h (rg o (bh + 1)) := eg _ (by omega)
    rw [e38] at cc2
    have Rw := r2 bh (Nat.le_refl _) (by omega)
    have d3 : Da h (pS h2 38 (rCopy (gS h2 38) (gS h (rg o (bh + 1))))) := Da_tr a2 (Da_pS (by omega) (by omega))
    have A2 : aOk τ 999 (cpL A (W bh) 20) := aOk_cg hk (fun k hk2 => if_pos hk2) (O2 bh (by omega))
    have R2 : Rep τ (rCopy (gS h2 38) (gS h (rg o (bh + 1)))) (cpL A (W bh) 20) := Rep_cg hk (fun k hk2 => if_pos hk2) (Rep_copy hk Rw)
    have CA : CAct τ (pS h2 38 (rCopy (gS h2 38) (gS h (rg o (bh + 1))))) o (bh + 1) q (fun j => if j = bh then A else W j) (cpL A (W bh) 20) := by
      refine CAct_38 ⟨ho, ⟨w1, w2, w3⟩, fun j hj => ?_, fun j h1' h2' => ?_, fun _ => ?_⟩
      · show Rep τ _ (if j = bh then A else W j)
        have bj := rg_bd (o := o) (j := j)
        rw [eg _ (by omega)]
        by_cases y : j = bh
        · rw [if_pos y, y]
          exact r3 (by omega)
        · rw [if_neg y]
          exact r1 j (by omega)
      · show Rep τ _ (if j = bh then A else W j)
        have bj := rg_bd (o := o) (j := j + 1)
        rw [eg _ (by omega), if_neg (by omega)]
        exact r2 j (by omega) (by omega)
      · rw [e38]
        exact Rep_cg hk (fun k hk2 => if_pos hk2) Rw
    have KHi := KQ_hi (Da_hi d3) KH
    have KAi : KAct (pS h2 38 (rCopy (gS h2 38) (gS h (rg o (bh + 1))))) bh (q + 1) W := KAct_eq (fun c k z => (Da_hi d3).2 c k (by omega)) KA
    have KIi := KI_hi (Da_hi d3) K0
    generalize hg2 : pS h2 38 (rCopy (gS h2 38) (gS h (rg o (bh + 1)))) = g2 at cc2 d3 CA KHi KAi KIi
    have rp : gS g2 38 = rCopy (gS h2 38) (gS h (rg o (bh + 1))) := by
      rw [← hg2]
      exact gS_pS
    have ke := fun (Q : QT) => k_exch (X := X) (d := d + 9) (Q := Q) (mq_p KHi) KAi.1 (show bh < 41 by omega) KHi.2.2.2.1
    have cp : cpL A (fun k => m_gI g2 228 (20 * bh + k)) 20 = cpL A (W bh) 20 := by
      funext k
      show (if k < 20 then m_gI g2 228 (20 * bh + k) else A k) = if k < 20 then W bh k else A k
      by_cases y : k < 20
      · rw [if_pos y, if_pos y]
        exact KAi.2.2 bh (by omega) k y
      · rw [if_neg y, if_neg y]
    rw [cp] at ke
    have dk1 : Dk g2 (hC (hC g2 227 (cpL A (W bh) 20)) 228 (ptL A (m_gI g2 228) (20 * bh) 20)) := Dk_tr Dk_hC27 Dk_hC28
    have x50 : m_gI (hC (hC g2 227 (cpL A (W bh) 20)) 228 (ptL A (m_gI g2 228) (20 * bh) 20)) 195 50 = nI bh := by
      rw [gI_hCo (by omega), gI_hCo (by omega)]
      exact KAi.1
    have x51 : m_gI (hC (hC g2 227 (cpL A (W bh) 20)) 228 (ptL A (m_gI g2 228) (20 * bh) 20)) 195 51 = nI (q + 1) := by
      rw [gI_hCo (by omega), gI_hCo (by omega)]
      exact KAi.2.1
    have x27 : m_gI (hC (hC g2 227 (cpL A (W bh) 20)) 228 (ptL A (m_gI g2 228) (20 * bh) 20)) 227 = cpL A (W bh) 20 := funext fun k => (gI_hCo (by omega)).trans gI_hC
    have x28 : ∀ k, m_gI (hC (hC g2 227 (cpL A (W bh) 20)) 228 (ptL A (m_gI g2 228) (20 * bh) 20)) 228 k = ptL A (m_gI g2 228) (20 * bh) 20 k := fun k => gI_hC
    generalize hC (hC g2 227 (cpL A (W bh) 20)) 228 (ptL A (m_gI g2 228) (20 * bh) 20) = h3 at ke dk1 x50 x51 x27 x28
    have g51 : m_gI (m_sI h3 195 50 (nI (bh + 1))) 195 51 = nI (q + 1) := by
      rw [gI_sI, if_neg (by omega), x51]
    have dk2 : Dk g2 (m_sI (m_sI h3 195 50 (nI (bh + 1))) 195 51 (nI q)) := Dk_tr dk1 (Dk_tr Dk_s50 Dk_s51)
    have KA2 : KAct (m_sI (m_sI h3 195 50 (nI (bh + 1))) 195 51 (nI q)) (bh + 1) q (fun j => if j = bh then A else W j) := by
      refine ⟨?_, ?_, fun j hj k hk2 => ?_⟩
      · rw [gI_sI, if_neg (by omega), gI_sI, if_pos ⟨rfl, rfl⟩]
      · rw [gI_sI, if_pos ⟨rfl, rfl⟩]
      · rw [gI_sI, if_neg (by omega), gI_sI, if_neg (by omega), x28]
        show (if 20 * bh ≤ 20 * j + k ∧ 20 * j + k < 20 * bh + 20 then A (20 * j + k - 20 * bh) else m_gI g2 228 (20 * j + k)) = (if j = bh then A else W j) k
        by_cases y : j = bh
        · rw [if_pos (by omega), if_pos y, show 20 * j + k - 20 * bh = k by omega]
        · rw [if_neg (by omega), if_neg y]
          exact KAi.2.2 j (by omega) k hk2
    refine ⟨1, g2, _, (τ, cpL A (W bh) 20, bh + 1, q, (fun j => if j = bh then A else W j), F, B, n, t, S, L, V, xx, yy), ?_, CI_lo (Dk_lo dk2) (CI_act C0 d3 (by rw [rp]; exact R2) A2 CA), KI_act KIi dk2 (funext fun k => by rw [gI_sI, if_neg (by omega), gI_sI, if_neg (by omega), x27]) A2 KA2, fun Q => ?_, fun Q => ?_⟩
    · refine ⟨by omega, fun j hj => ?_, O3⟩
      show aOk τ 999 (if j = bh then A else W j)
      by_cases y : j = bh
      · rw [if_pos y]
        exact cq_a H
      · rw [if_neg y]
        exact O2 j (by omega)
    · simp only [u127_0, u127_1, u127_4, u127_5, u127_8, u127_11, u128_0, u128_1, u128_4, u128_7, u128_8, u128_9, u128_10, u128_11, u128_14, u128_15, u128_16, u128_19, u128_20, u128_21, u128_24, u128_25, u128_26, u128_29, u128_30, u128_31, u128_34, eq_self, q_nl0, q_nlI, q_nlR, not_false_eq_true, q_nz0, q_nz1, q_zv0, q_zv1, q_tl1, q_tl0, q_wif, q_swc, q_swn, List.cons_append, List.nil_append, if_true, if_false, e10, e01, Bool.false_eq_true, sh_1, sh_38, sh_44, p_1_5 hp, p_1_3 hp, f3, ne, f2, nI_1, g3', nI_dn, hh2, ch2, s0, cc2, hg2]
      simp only [u128_37, u128_38, u127_11, eq_self, q_nl0, q_nlI, q_nlR, not_false_eq_true, q_nz0, q_nz1, q_zv0, q_zv1, q_tl1, q_tl0, q_wif, q_swc, q_swn, List.cons_append, List.nil_append, if_true, if_false, e10, e01, Bool.false_eq_true]
    · simp only [u265_0, u265_1, u265_4, u265_7, u265_8, u265_9, u265_10, eq_self, q_nl0, q_nlI, q_nlR, not_false_eq_true, q_nz0, q_nz1, q_zv0, q_zv1, q_tl1, q_tl0, q_wif, q_swc, q_swn, List.cons_append, List.nil_append, if_true, if_false, e10, e01, Bool.false_eq_true, sh_195, KAi.2.1, ne, ke]
      simp only [u265_13, u265_14, u265_15, u265_18, u265_19, u265_20, u265_23, u265_24, u265_25, u265_28, u265_29, u265_30, u265_33, u265_34, eq_self, q_nl0, q_nlI, q_nlR, not_false_eq_true, q_nz0, q_nz1, q_zv0, q_zv1, q_tl1, q_tl0, q_wif, q_swc, q_swn, List.cons_append, List.nil_append, if_true, if_false, e10, e01, Bool.false_eq_true, sh_195, x50, nI_1, g51, nI_dn]
