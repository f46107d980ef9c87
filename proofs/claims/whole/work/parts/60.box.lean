/-! BOXES -/
theorem CQ_eq5 {h g : HT} {T N N' : Nat} {τ : CT} {A A' : Nat → Int32} (r : ∀ c k, m_gR g c k = m_gR h c k) (e : ∀ c k, 5 ≤ c → c < 38 → isP c k = false → m_gI g c k = m_gI h c k) (H : CQ h T τ N A) (R : Rep τ (gS g 38) A') (K : aOk τ N' A') : CQ g T τ N' A' := by
  have hT := ct_T (cq_t H)
  refine ⟨⟨hT, Ptr_of (cq_p H) r, cq_k H, CCity_of (fun j k h1 h2 h3 => e _ _ ?_ ?_ ?_) (cq_t H).2.2.2⟩, cq_f H, (r 1 2).trans (cq_T H), R, K⟩
  · rcases hT with t | t <;> omega
  · rcases hT with t | t <;> omega
  · unfold isP
    simp only [Bool.or_eq_false_iff, decide_eq_false_iff_not]
    rcases hT with t | t <;> omega
theorem KQ_gen {h g : HT} {b f N N' : Nat} {τ : CT} {A A' : Nat → Int32} (p : Ptr g) (e : ∀ c k, c = 195 ∧ k = 40 ∨ 198 ≤ c ∧ c ≤ 223 → m_gI g c k = m_gI h c k) (H : KQ h b f τ N A) (e7 : m_gI g 227 = A') (K : aOk τ N' A') : KQ g b f τ N' A' := by
  have e1 : ∀ c k, 198 ≤ c → c ≤ 223 → m_gI g c k = m_gI h c k := fun c k h1 h2 => e c k (Or.inr ⟨h1, h2⟩)
  refine ⟨⟨p, H.1.2.1, ⟨H.1.2.2.1.1, (e 195 40 (Or.inl ⟨rfl, rfl⟩)).trans H.1.2.2.1.2⟩, ?_⟩, ?_, H.2.2.1, e7, K⟩
  · have H' := H.1.2.2.2
    unfold MCity at *
    simp only [e1 198 _ (by omega) (by omega), e1 199 _ (by omega) (by omega), e1 200 _ (by omega) (by omega), e1 201 _ (by omega) (by omega), e1 202 _ (by omega) (by omega), e1 203 _ (by omega) (by omega), e1 204 _ (by omega) (by omega), e1 205 _ (by omega) (by omega), e1 206 _ (by omega) (by omega), e1 207 _ (by omega) (by omega), e1 208 _ (by omega) (by omega), e1 209 _ (by omega) (by omega), e1 210 _ (by omega) (by omega), e1 211 _ (by omega) (by omega), e1 212 _ (by omega) (by omega), e1 213 _ (by omega) (by omega)]
    exact H'
  · have H' := H.2.1
    unfold MRule at *
    simp only [e1 214 _ (by omega) (by omega), e1 215 _ (by omega) (by omega), e1 216 _ (by omega) (by omega), e1 222 _ (by omega) (by omega), e1 223 _ (by omega) (by omega)]
    exact H'
theorem p_box {h : HT} (hp : Ptr h) {j : Nat} (hj : j < 3) : m_gR h 169 j = 186 + 3 * j := by
  have : ∀ j, j < 3 → (169, j, 186 + 3 * j) ∈ PT := by decide +kernel
  exact hp _ (this j hj)
theorem vn1 : vp_nar .boolean 1 = 1 := by decide
theorem vn0 : vp_nar .boolean 0 = 0 := by decide
theorem ix3 {x : Int32} : (ixB x 3 = true ∨ ixB x 3 = false) := by
  cases ixB x 3
  · exact Or.inr rfl
  · exact Or.inl rfl
theorem c3_f {x : Int32} (ix : ixB x 3 = false) (h0 : ¬ x < 0) : ¬ x < 3 := fun x1 => by
  have h1 : ¬ x.toInt < 0 := fun z => h0 (Int32.lt_iff_toInt_lt.mpr z)
  have h2 := Int32.lt_iff_toInt_lt.mp x1
  have h3 : x.toInt < 3 := h2
  have : ixB x 3 = true := decide_eq_true ⟨by omega, by omega⟩
  rw [this] at ix
  cases ix
theorem s_image {X : XT} {d : Nat} {h : HT} {σ : ST} (C : CI h σ) (K : KI h σ) (O : OKs σ) (x : Int32) : Pi X (d + 10) 184 [some (.ref 1), some (.int x)] 310 [some (.ref 195), some (.int x), none] h := by
  obtain ⟨τ, A, bh, ah, W, F, B, n, t, S, L, V, xx, yy⟩ := σ
  have C0 := C
  have K0 := K
  obtain ⟨⟨T, H, H1'⟩, ⟨o, HA⟩, H3, H4, H5, H6⟩ := C
  obtain ⟨⟨b, f, KH⟩, KA, K3, K4, K5, K6⟩ := K
  obtain ⟨O1, O2, O3, O4⟩ := O
  have hp := cq_p H
  have hk := cq_k H
  have ki := fun (Q : QT) (h : HT) => k_isIn (X := X) (d := d + 9) (h := h) (Q := Q) (x := x) (a := 0) (b := 2)
  have hx := ix_k1 (x := x) (k := 3) (by decide) (by decide)
  rw [show nI (3 - 1) = 2 from rfl] at hx
  simp only [hx] at ki
  rcases ix_cases x (k := 3) (by decide) with ⟨m, hm, rfl, ix⟩ | ix
  · simp only [ix, if_true] at ki
    have e0 : (nI m < 0) = False := oI_lt0 (by omega)
    have e1 : (nI m < 3) = True := eq_true (nI_lt (b := 3) hm (by omega))
    have e3 : m_in (nI m) 3 = true := q_in hm (by decide)
    have e4 : (nI m).toNatClampNeg = m := q_cl (by omega)
    have bS := isS_box m hm
    have s0 : (m_sh KS (186 + 3 * m)).1 = 7 := by rw [shS_0 bS]
    have cc := fun (Q : QT) => c_copy (X := X) (d := d + 9) (h := h) (Q := Q) bS is38 (by omega) hp
    have Rb : Rep τ (rCopy (gS h (186 + 3 * m)) (gS h 38)) A := Rep_copy hk (cq_r H)
    have q1 : ∀ c k, c < 186 + 3 * m ∨ 186 + 3 * m + 3 ≤ c → m_gI (pS h (186 + 3 * m) (rCopy (gS h (186 + 3 * m)) (gS h 38))) c k = m_gI h c k := fun c k z => gI_pSo z
    have q2 : gS (pS h (186 + 3 * m) (rCopy (gS h (186 + 3 * m)) (gS h 38))) (186 + 3 * m) = rCopy (gS h (186 + 3 * m)) (gS h 38) := gS_pS
    have q3 : ∀ c k, m_gR (pS h (186 + 3 * m) (rCopy (gS h (186 + 3 * m)) (gS h 38))) c k = m_gR h c k := fun c k => rfl
    generalize pS h (186 + 3 * m) (rCopy (gS h (186 + 3 * m)) (gS h 38)) = h1 at cc q1 q2 q3
    have r1 : ∀ c k, m_gR (m_sI h1 170 m 1) c k = m_gR h c k := fun c k => q3 c k
    have w1 : ∀ c k, c ≠ 170 → c < 186 ∨ 195 ≤ c → m_gI (m_sI h1 170 m 1) c k = m_gI h c k := fun c k z1 z2 => by
      rw [gI_sI, if_neg (by omega), q1 c k (by omega)]
    have hp1 : Ptr h1 := Ptr_of hp q3
    have g6 : m_gI (m_sI h1 170 m 1) 38 6 = A 18 := by
      rw [w1 38 6 (by omega) (by omega)]
      exact (cq_r H).1.2.2.2.2.1
    have CB : CBox τ (m_sI h1 170 m 1) (fun j => if j = m then true else F j) (fun j => if j = m then A else B j) := by
      intro j hj
      show m_gI (m_sI h1 170 m 1) 170 j = (if (if j = m then true else F j) = true then 1 else 0) ∧ ((if j = m then true else F j) = true → Rep τ (gS (m_sI h1 170 m 1) (186 + 3 * j)) (if j = m then A else B j))
      rw [gS_sI (by omega)]
      by_cases y : j = m
      · rw [gI_sI, if_pos ⟨rfl, y⟩, if_pos y, if_pos rfl, if_pos y, y, q2]
        exact ⟨rfl, fun _ => Rb⟩
      · rw [gI_sI, if_neg (fun z => y z.2), if_neg y, if_neg y, gS_eq (fun c k h1 h2 => q1 c k (by omega)), q1 170 j (by omega)]
        exact H3 j hj
    generalize hg2 : m_sI h1 170 m 1 = g2 at r1 w1 g6 CB
    have hpg : Ptr g2 := Ptr_of hp r1
    have Cg : CI g2 (τ, A, bh, ah, W, (fun j => if j = m then true else F j), (fun j => if j = m then A else B j), n, t, S, L, V, xx, yy) := by
      refine ⟨⟨T, CQ_eq5 r1 (fun c k h1 h2 _ => w1 c k (by omega) (by omega)) H ?_ (cq_a H), (r1 4 1).trans H1'⟩, ⟨o, CAct_eq (fun c k h1 h2 => w1 c k (by omega) (by omega)) HA⟩, CB, CSig_eq (fun c k z => w1 c k (by omega) (by omega)) H4, CTap_eq (fun c k z => w1 c k (by omega) (by omega)) H5, CFau_eq (fun k z => w1 4 k (by omega) (by omega)) H6⟩
      rw [gS_eq (fun c k h1 h2 => w1 c k (by omega) (by omega))]
      exact cq_r H
    have hi : Hi h g2 := ⟨fun c k => Or.inr (Or.inr (r1 c k)), fun c k z => w1 c k (by omega) (by omega)⟩
    have Kg := KI_hi hi K0
    obtain ⟨⟨b', f', KHg⟩, KAg, K3g, K4g, K5g, K6g⟩ := Kg
    have lp := fun (Q : QT) => q_loop (fun i => wq X (d + 10) 310 13 [some (.ref 195), some (.int (nI m)), some (.int (nI i))] [] (hC g2 236 (ptL A (m_gI g2 236) (20 * m) i)) Q) 20 (by
      intro i hi
      have f1 : (nI i < 20) = True := eq_true (nI_lt (b := 20) (by omega) (by omega))
      have f3 : m_in (nI i) 20 = true := q_in (by omega) (by decide)
      have f4 : (nI i).toNatClampNeg = i := q_cl (by omega)
      have f5 : m_in (nI (20 * m + i)) 60 = true := q_in (by omega) (by decide)
      have f6 : (nI (20 * m + i)).toNatClampNeg = 20 * m + i := q_cl (by omega)
      have g27 : ∀ v, m_gI (hC g2 236 v) 227 i = A i := fun v => (gI_hCo (by decide)).trans (mq_A KHg i)
      show wq X (d + 10) 310 13 _ _ _ _ = _
      rw [u310_13]
      simp only [u310_14, u310_16, u310_19, u310_20, u310_23, u310_25, u310_26, u310_27, u310_28, u310_29, u310_30, u310_33, u310_34, u310_35, u310_36, u310_39, eq_self, q_nl0, q_nlI, q_nlR, not_false_eq_true, q_nz0, q_nz1, q_zv0, q_zv1, q_tl1, q_tl0, q_wif, q_swc, q_swn, List.cons_append, List.nil_append, if_true, if_false, e10, e01, Bool.false_eq_true, sh_195, sh_227, sh_236, gR_hC, p_195_47 hpg, p_195_65 hpg, f1, nI_20b, f3, f4, f5, f6, g27, sI_hC, nI_1, ptL_s])
    have kr : ∀ c k, c ≠ 236 → c ≠ 237 → m_gI (m_sI (hC g2 236 (ptL A (m_gI g2 236) (20 * m) 20)) 237 m 1) c k = m_gI g2 c k := fun c k z1 z2 => by
      rw [gI_sI, if_neg (by omega), gI_hCo z1]
    have KB : KBox (m_sI (hC g2 236 (ptL A (m_gI g2 236) (20 * m) 20)) 237 m 1) (fun j => if j = m then true else F j) (fun j => if j = m then A else B j) := by
      intro j hj
      show m_gI _ 237 j = (if (if j = m then true else F j) = true then 1 else 0) ∧ ((if j = m then true else F j) = true → ∀ k, k < 20 → m_gI _ 236 (20 * j + k) = (if j = m then A else B j) k)
      by_cases y : j = m
      · rw [gI_sI, if_pos ⟨rfl, y⟩, if_pos y, if_pos rfl, if_pos y]
        refine ⟨rfl, fun _ k hk2 => ?_⟩
        rw [gI_sI, if_neg (by omega), gI_hC]
        show (if 20 * m ≤ 20 * j + k ∧ 20 * j + k < 20 * m + 20 then A (20 * j + k - 20 * m) else _) = _
        rw [if_pos (by omega), show 20 * j + k - 20 * m = k by omega]
      · rw [gI_sI, if_neg (fun z => y z.2), if_neg y, if_neg y, gI_hCo (by decide)]
        refine ⟨(K3g j hj).1, fun hf k hk2 => ?_⟩
        rw [gI_sI, if_neg (by omega), gI_hC]
        show (if 20 * m ≤ 20 * j + k ∧ 20 * j + k < 20 * m + 20 then A (20 * j + k - 20 * m) else m_gI g2 236 (20 * j + k)) = _
        rw [if_neg (by omega)]
        exact (K3g j hj).2 hf k hk2
    have lo : Lo g2 (m_sI (hC g2 236 (ptL A (m_gI g2 236) (20 * m) 20)) 237 m 1) := ⟨rfl, fun c k z => kr c k (by omega) (by omega)⟩
    have e18 : m_gI (m_sI (hC g2 236 (ptL A (m_gI g2 236) (20 * m) 20)) 237 m 1) 227 18 = A 18 := (kr 227 18 (by decide) (by decide)).trans (mq_A KHg 18)
    refine ⟨A 18, g2, _, (τ, A, bh, ah, W, (fun j => if j = m then true else F j), (fun j => if j = m then A else B j), n, t, S, L, V, xx, yy), ?_, CI_lo lo Cg, ⟨⟨b', f', KQ_gen (h := g2) hpg (fun c k z => kr c k (by omega) (by omega)) KHg (funext fun k => (kr 227 k (by decide) (by decide)).trans (mq_A KHg k)) (mq_a KHg)⟩, KAct_eq (fun c k z => kr c k (by omega) (by omega)) KAg, KB, KSig_eq (fun c k z => kr c k (by omega) (by omega)) K4g, KTap_eq (fun c k z => kr c k (by omega) (by omega)) K5g, KFau_eq (fun k z => kr 195 k (by omega) (by omega)) K6g⟩, fun Q => ?_, fun Q => ?_⟩
    · refine ⟨O1, O2, fun j hj hf => ?_, O4⟩
      show aOk τ 999 (if j = m then A else B j)
      by_cases y : j = m
      · rw [if_pos y]
        exact cq_a H
      · rw [if_neg y]
        have hf' : (if j = m then true else F j) = true := hf
        rw [if_neg y] at hf'
        exact O3 j hj hf'
    · simp only [u184_0, u184_1, u184_4, u184_5, u184_6, u184_9, u184_10, u184_11, u184_12, u184_15, u184_16, u184_17, u184_18, u184_21, eq_self, q_nl0, q_nlI, q_nlR, not_false_eq_true, q_nz0, q_nz1, q_zv0, q_zv1, q_tl1, q_tl0, q_wif, q_swc, q_swn, List.cons_append, List.nil_append, if_true, if_false, e10, e01, Bool.false_eq_true, sh_1, sh_169, e0, e1, p_1_6 hp, e3, e4, p_box hp hm, p_1_3 hp, s0, cc]
      simp only [u184_24, u184_25, u184_28, u184_29, u184_30z, u184_30b, u184_31, u184_32, u184_35, u184_38, eq_self, q_nl0, q_nlI, q_nlR, not_false_eq_true, q_nz0, q_nz1, q_zv0, q_zv1, q_tl1, q_tl0, q_wif, q_swc, q_swn, List.cons_append, List.nil_append, if_true, if_false, e10, e01, Bool.false_eq_true, sh_1, sh_38, sh_170, q3, p_1_7 hp, e3, e4, vn1, hg2, r1, p_1_3 hp, g6]
    · have e00 : wq X (d + 10) 310 13 [some (.ref 195), some (.int (nI m)), some (.int 0)] [] g2 Q = wq X (d + 10) 310 13 [some (.ref 195), some (.int (nI m)), some (.int (nI 0))] [] (hC g2 236 (ptL A (m_gI g2 236) (20 * m) 0)) Q := by
        rw [ptL_0, hC_id]
        rfl
      simp only [u310_0, u310_1, u310_2, u310_3, u310_6, u310_9, u310_10, u310_11, u310_12, eq_self, q_nl0, q_nlI, q_nlR, not_false_eq_true, q_nz0, q_nz1, q_zv0, q_zv1, q_tl1, q_tl0, q_wif, q_swc, q_swn, List.cons_append, List.nil_append, if_true, if_false, e10, e01, Bool.false_eq_true, ki]
      refine e00.trans ((lp Q).trans ?_)
      rw [u310_13]
      simp only [u310_14, u310_16, u310_42, u310_43, u310_46, u310_47, u310_48z, u310_48b, u310_49, u310_50, u310_53, u310_55, u310_56, eq_self, q_nl0, q_nlI, q_nlR, not_false_eq_true, q_nz0, q_nz1, q_zv0, q_zv1, q_tl1, q_tl0, q_wif, q_swc, q_swn, List.cons_append, List.nil_append, if_true, if_false, e10, e01, Bool.false_eq_true, sh_195, sh_227, sh_237, eq_false (show ¬ nI 20 < 20 by decide), gR_hC, p_195_66 hpg, e3, e4, vn1, gR_sI, p_195_47 hpg, in18, cl18, e18]
  · simp only [ix, Bool.false_eq_true, if_false] at ki
    refine Pi_of C0 K0 ⟨O1, O2, O3, O4⟩ (Pr_pure (-1) (fun Q => ?_) (fun Q => ?_))
    · by_cases x0 : x < 0
      · simp only [u184_0, u184_1, u184_4, u184_5, u184_6, u184_9, u184_10, eq_self, q_nl0, q_nlI, q_nlR, not_false_eq_true, q_nz0, q_nz1, q_zv0, q_zv1, q_tl1, q_tl0, q_wif, q_swc, q_swn, List.cons_append, List.nil_append, if_true, if_false, e10, e01, Bool.false_eq_true, eq_true x0]
      · simp only [u184_0, u184_1, u184_4, u184_5, u184_6, u184_9, u184_10, eq_self, q_nl0, q_nlI, q_nlR, not_false_eq_true, q_nz0, q_nz1, q_zv0, q_zv1, q_tl1, q_tl0, q_wif, q_swc, q_swn, List.cons_append, List.nil_append, if_true, if_false, e10, e01, Bool.false_eq_true, eq_false x0, eq_false (c3_f ix x0)]
    · simp only [u310_0, u310_1, u310_2, u310_3, u310_6, u310_9, u310_10, eq_self, q_nl0, q_nlI, q_nlR, not_false_eq_true, q_nz0, q_nz1, q_zv0, q_zv1, q_tl1, q_tl0, q_wif, q_swc, q_swn, List.cons_append, List.nil_append, if_true, if_false, e10, e01, Bool.false_eq_true, ki]
theorem s_back {X : XT} {d : Nat} {h : HT} {σ : ST} (C : CI h σ) (K : KI h σ) (O : OKs σ) (x : Int32) : Pi X (d + 10) 185 [some (.ref 1), some (.int x)] 311 [some (.ref 195), some (.int x), none] h := by
  obtain ⟨τ, A, bh, ah, W, F, B, n, t, S, L, V, xx, yy⟩ := σ
  have C0 := C
  have K0 := K
  obtain ⟨⟨T, H, H1'⟩, ⟨o, HA⟩, H3, H4, H5, H6⟩ := C
  obtain ⟨⟨b, f, KH⟩, KA, K3, K4, K5, K6⟩ := K
  obtain ⟨O1, O2, O3, O4⟩ := O
  have hp := cq_p H
  have hk := cq_k H
  have ki := fun (Q : QT) (h : HT) => k_isIn (X := X) (d := d + 9) (h := h) (Q := Q) (x := x) (a := 0) (b := 2)
  have hx := ix_k1 (x := x) (k := 3) (by decide) (by decide)
  rw [show nI (3 - 1) = 2 from rfl] at hx
  simp only [hx] at ki
  rcases ix_cases x (k := 3) (by decide) with ⟨m, hm, rfl, ix⟩ | ix
  · simp only [ix, if_true] at ki
    have e0 : (nI m < 0) = False := oI_lt0 (by omega)
    have e1 : (nI m < 3) = True := eq_true (nI_lt (b := 3) hm (by omega))
    have e3 : m_in (nI m) 3 = true := q_in hm (by decide)
    have e4 : (nI m).toNatClampNeg = m := q_cl (by omega)
    by_cases hf : F m = true
    · have f70 : m_gI h 170 m = 1 := (H3 m hm).1.trans (if_pos hf)
      have bS := isS_box m hm
      have s0 : (m_sh KS (186 + 3 * m)).1 = 7 := by rw [shS_0 bS]
      have cc := fun (Q : QT) => c_copy (X := X) (d := d + 9) (h := h) (Q := Q) is38 bS (by omega) hp
      have Rw := (H3 m hm).2 hf
      have A2 : aOk τ 999 (cpL A (B m) 20) := aOk_cg hk (fun k hk2 => if_pos hk2) (O3 m hm hf)
      have R2 : Rep τ (rCopy (gS h 38) (gS h (186 + 3 * m))) (cpL A (B m) 20) := Rep_cg hk (fun k hk2 => if_pos hk2) (Rep_copy hk Rw)
      have d1 : Da h (pS h 38 (rCopy (gS h 38) (gS h (186 + 3 * m)))) := Da_pS (by omega) (by omega)
      have q1 : ∀ k, m_gI (pS h 38 (rCopy (gS h 38) (gS h (186 + 3 * m)))) 44 k = m_gI h 44 k := fun k => gI_pSo (by omega)
      have q2 : gS (pS h 38 (rCopy (gS h 38) (gS h (186 + 3 * m)))) 38 = rCopy (gS h 38) (gS h (186 + 3 * m)) := gS_pS
      generalize pS h 38 (rCopy (gS h 38) (gS h (186 + 3 * m))) = h1 at cc d1 q1 q2
      have d2 : Da h (m_sI (m_sI h1 44 2 0) 44 3 0) := Da_tr d1 (Da_tr (Da_sI (by omega) (by omega)) (Da_sI (by omega) (by omega)))
      have hp1 : Ptr h1 := Ptr_of hp d1.1
      have R3 : Rep τ (gS (m_sI (m_sI h1 44 2 0) 44 3 0) 38) (cpL A (B m) 20) := by
        rw [gS_sI (by omega), gS_sI (by omega), q2]
        exact R2
      have CA : CAct τ (m_sI (m_sI h1 44 2 0) 44 3 0) o 0 0 W (cpL A (B m) 20) := by
        refine ⟨HA.1, ⟨?_, ?_, ?_⟩, fun j hj => absurd hj (by omega), fun j h1 h2 => absurd h2 (by omega), fun h0 => absurd h0 (by omega)⟩
        · rw [gI_sI, if_neg (by omega), gI_sI, if_neg (by omega), q1]
          exact HA.2.1.1
        · rw [gI_sI, if_neg (by omega), gI_sI, if_pos ⟨rfl, rfl⟩]
          rfl
        · rw [gI_sI, if_pos ⟨rfl, rfl⟩]
          rfl
      have g6 : m_gI (m_sI (m_sI h1 44 2 0) 44 3 0) 38 6 = cpL A (B m) 20 18 := R3.1.2.2.2.2.1
      have Cg := CI_act C0 d2 R3 A2 CA
      have Kg := KI_hi (Da_hi d2) K0
      have KHi := KQ_hi (Da_hi d2) KH
      have KB : KBox (m_sI (m_sI h1 44 2 0) 44 3 0) F B := KBox_eq (fun c k z => (Da_hi d2).2 c k (by omega)) K3
      generalize hg2 : m_sI (m_sI h1 44 2 0) 44 3 0 = g2 at d2 R3 g6 Cg Kg KHi KB
      have hpg : Ptr g2 := Ptr_of hp d2.1
      have lp := fun (Q : QT) => q_loop (fun i => wq X (d + 10) 311 22 [some (.ref 195), some (.int (nI m)), some (.int (nI i))] [] (hC g2 227 (cpL A (B m) i)) Q) 20 (by
        intro i hi
        have f1 : (nI i < 20) = True := eq_true (nI_lt (b := 20) (by omega) (by omega))
        have f3 : m_in (nI i) 20 = true := q_in (by omega) (by decide)
        have f4 : (nI i).toNatClampNeg = i := q_cl (by omega)
        have f5 : m_in (nI (20 * m + i)) 60 = true := q_in (by omega) (by decide)
        have f6 : (nI (20 * m + i)).toNatClampNeg = 20 * m + i := q_cl (by omega)
        have g36 : ∀ v, m_gI (hC g2 227 v) 236 (20 * m + i) = B m i := fun v => (gI_hCo (by decide)).trans ((KB m hm).2 hf i hi)
        show wq X (d + 10) 311 22 _ _ _ _ = _
        rw [u311_22]
        simp only [u311_23, u311_25, u311_28, u311_29, u311_32, u311_33, u311_34, u311_37, u311_39, u311_40, u311_41, u311_42, u311_43, u311_44, u311_45, u311_48, eq_self, q_nl0, q_nlI, q_nlR, not_false_eq_true, q_nz0, q_nz1, q_zv0, q_zv1, q_tl1, q_tl0, q_wif, q_swc, q_swn, List.cons_append, List.nil_append, if_true, if_false, e10, e01, Bool.false_eq_true, sh_195, sh_227, sh_236, gR_hC, p_195_47 hpg, p_195_65 hpg, f1, nI_20b, f3, f4, f5, f6, g36, sI_hC, nI_1, cpL_s])
      have dk2 : Dk g2 (m_sI (m_sI (hC g2 227 (cpL A (B m) 20)) 195 50 0) 195 51 0) := Dk_tr Dk_hC27 (Dk_tr Dk_s50 Dk_s51)
      have x27 : ∀ k, m_gI (m_sI (m_sI (hC g2 227 (cpL A (B m) 20)) 195 50 0) 195 51 0) 227 k = cpL A (B m) 20 k := fun k => by
        rw [gI_sI, if_neg (by omega), gI_sI, if_neg (by omega), gI_hC]
      have KA2 : KAct (m_sI (m_sI (hC g2 227 (cpL A (B m) 20)) 195 50 0) 195 51 0) 0 0 W := by
        refine ⟨?_, ?_, fun j hj => absurd hj (by omega)⟩
        · rw [gI_sI, if_neg (by omega), gI_sI, if_pos ⟨rfl, rfl⟩]
          rfl
        · rw [gI_sI, if_pos ⟨rfl, rfl⟩]
          rfl
      refine ⟨cpL A (B m) 20 18, g2, _, (τ, cpL A (B m) 20, 0, 0, W, F, B, n, t, S, L, V, xx, yy), ?_, CI_lo (Dk_lo dk2) Cg, KI_act Kg dk2 (funext x27) A2 KA2, fun Q => ?_, fun Q => ?_⟩
      · exact ⟨by omega, fun j hj => absurd hj (by omega), O3, O4⟩
      · simp only [u185_0, u185_1, u185_4, u185_5, u185_6, u185_9, u185_10, u185_13, u185_14z, u185_14b, u185_15, u185_18, u185_19, u185_20, u185_21, u185_24, u185_25, u185_28, u185_29, u185_30, eq_self, q_nl0, q_nlI, q_nlR, not_false_eq_true, q_nz0, q_nz1, q_zv0, q_zv1, q_tl1, q_tl0, q_wif, q_swc, q_swn, List.cons_append, List.nil_append, if_true, if_false, e10, e01, Bool.false_eq_true, sh_1, sh_38, sh_169, sh_170, e0, e1, p_1_7 hp, e3, e4, f70, p_1_3 hp, p_1_6 hp, p_box hp hm, s0, cc]
        simp only [u185_33, u185_34, u185_37, u185_40, u185_41, u185_44, u185_47, u78_0, u78_1, u78_2, u78_5, u78_6, u78_7, u78_10, eq_self, q_nl0, q_nlI, q_nlR, not_false_eq_true, q_nz0, q_nz1, q_zv0, q_zv1, q_tl1, q_tl0, q_wif, q_swc, q_swn, List.cons_append, List.nil_append, if_true, if_false, e10, e01, Bool.false_eq_true, sh_1, sh_38, sh_44, p_1_5 hp1, hg2, p_1_3 hpg, g6]
      · have e00 : wq X (d + 10) 311 22 [some (.ref 195), some (.int (nI m)), some (.int 0)] [] g2 Q = wq X (d + 10) 311 22 [some (.ref 195), some (.int (nI m)), some (.int (nI 0))] [] (hC g2 227 (cpL A (B m) 0)) Q := by
          rw [cpL_0, hC_A KHi.2.2.2.1]
          rfl
        have k37 : m_gI g2 237 m = 1 := (KB m hm).1.trans (if_pos hf)
        simp only [u311_0, u311_1, u311_2, u311_3, u311_6, u311_9, u311_10, u311_13, u311_14z, u311_14b, u311_15, u311_18, u311_19, u311_20, u311_21, eq_self, q_nl0, q_nlI, q_nlR, not_false_eq_true, q_nz0, q_nz1, q_zv0, q_zv1, q_tl1, q_tl0, q_wif, q_swc, q_swn, List.cons_append, List.nil_append, if_true, if_false, e10, e01, Bool.false_eq_true, sh_195, sh_237, ki, p_195_66 hpg, e3, e4, k37]
        refine e00.trans ((lp Q).trans ?_)
        rw [u311_22]
        simp only [u311_23, u311_25, u311_51, u311_52, u311_53, u311_56, u311_57, u311_58, u311_61, u311_62, u311_65, u311_67, u311_68, eq_self, q_nl0, q_nlI, q_nlR, not_false_eq_true, q_nz0, q_nz1, q_zv0, q_zv1, q_tl1, q_tl0, q_wif, q_swc, q_swn, List.cons_append, List.nil_append, if_true, if_false, e10, e01, Bool.false_eq_true, sh_195, sh_227, eq_false (show ¬ nI 20 < 20 by decide), gR_sI, gR_hC, p_195_47 hpg, in18, cl18, x27]
    · have f70 : m_gI h 170 m = 0 := (H3 m hm).1.trans (if_neg hf)
      have k37 : m_gI h 237 m = 0 := (K3 m hm).1.trans (if_neg hf)
      refine Pi_of C0 K0 ⟨O1, O2, O3, O4⟩ (Pr_pure (-1) (fun Q => ?_) (fun Q => ?_))
      · simp only [u185_0, u185_1, u185_4, u185_5, u185_6, u185_9, u185_10, u185_13, u185_14z, u185_14b, u185_15, u185_18, u185_19, eq_self, q_nl0, q_nlI, q_nlR, not_false_eq_true, q_nz0, q_nz1, q_zv0, q_zv1, q_tl1, q_tl0, q_wif, q_swc, q_swn, List.cons_append, List.nil_append, if_true, if_false, e10, e01, Bool.false_eq_true, sh_1, sh_170, e0, e1, p_1_7 hp, e3, e4, f70]
      · simp only [u311_0, u311_1, u311_2, u311_3, u311_6, u311_9, u311_10, u311_13, u311_14z, u311_14b, u311_15, u311_18, u311_19, eq_self, q_nl0, q_nlI, q_nlR, not_false_eq_true, q_nz0, q_nz1, q_zv0, q_zv1, q_tl1, q_tl0, q_wif, q_swc, q_swn, List.cons_append, List.nil_append, if_true, if_false, e10, e01, Bool.false_eq_true, sh_195, sh_237, ki, p_195_66 hp, e3, e4, k37]
  · simp only [ix, Bool.false_eq_true, if_false] at ki
    refine Pi_of C0 K0 ⟨O1, O2, O3, O4⟩ (Pr_pure (-1) (fun Q => ?_) (fun Q => ?_))
    · by_cases x0 : x < 0
      · simp only [u185_0, u185_1, u185_4, u185_5, u185_6, u185_9, u185_10, u185_13, u185_14z, u185_14b, u185_15, u185_18, u185_19, eq_self, q_nl0, q_nlI, q_nlR, not_false_eq_true, q_nz0, q_nz1, q_zv0, q_zv1, q_tl1, q_tl0, q_wif, q_swc, q_swn, List.cons_append, List.nil_append, if_true, if_false, e10, e01, Bool.false_eq_true, eq_true x0]
      · simp only [u185_0, u185_1, u185_4, u185_5, u185_6, u185_9, u185_10, u185_13, u185_14z, u185_14b, u185_15, u185_18, u185_19, eq_self, q_nl0, q_nlI, q_nlR, not_false_eq_true, q_nz0, q_nz1, q_zv0, q_zv1, q_tl1, q_tl0, q_wif, q_swc, q_swn, List.cons_append, List.nil_append, if_true, if_false, e10, e01, Bool.false_eq_true, eq_false x0, eq_false (c3_f ix x0)]
    · simp only [u311_0, u311_1, u311_2, u311_3, u311_6, u311_9, u311_10, u311_13, u311_14z, u311_14b, u311_15, u311_18, u311_19, eq_self, q_nl0, q_nlI, q_nlR, not_false_eq_true, q_nz0, q_nz1, q_zv0, q_zv1, q_tl1, q_tl0, q_wif, q_swc, q_swn, List.cons_append, List.nil_append, if_true, if_false, e10, e01, Bool.false_eq_true, ki]
