/-! about, fault, end, feed -/
theorem i32_n {v : Int32} {k : Int32} (n : v ≠ k) : (v.toInt = k.toInt) = False := eq_false (fun e => n (Int32.toInt_inj.mp e))
theorem s_fault {X : XT} {d : Nat} {h : HT} {σ : ST} (C : CI h σ) (K : KI h σ) (O : OKs σ) (v : Int32) : Pi X (d + 10) 80 [some (.ref 1), some (.int v)] 223 [some (.ref 195), some (.int v)] h := by
  obtain ⟨τ, A, bh, ah, W, F, B, n, t, S, L, V, x, y⟩ := σ
  have C0 := C
  have K0 := K
  obtain ⟨⟨T, H, H1'⟩, ⟨o, HA⟩, H3, H4, H5, H6⟩ := C
  obtain ⟨⟨b, f, KH⟩, KA, K3, K4, K5, K6⟩ := K
  have hp := cq_p H
  by_cases v0 : v = 0
  · subst v0
    refine Pi_of C0 K0 O (Pr_pure x (fun Q => ?_) (fun Q => ?_))
    · simp only [u80_0, u80_1, q_swc, q_t0, eq_self, q_nl0, q_nlI, q_nlR, not_false_eq_true, q_nz0, q_nz1, q_zv0, q_zv1, q_tl1, q_tl0, q_wif, q_swc, q_swn, List.cons_append, List.nil_append, if_true, if_false, e10, e01, Bool.false_eq_true]
      simp only [u80_28, u80_29, u80_32, u80_35, eq_self, q_nl0, q_nlI, q_nlR, not_false_eq_true, q_nz0, q_nz1, q_zv0, q_zv1, q_tl1, q_tl0, q_wif, q_swc, q_swn, List.cons_append, List.nil_append, if_true, if_false, e10, e01, Bool.false_eq_true, sh_1, sh_4, p_1_1 hp, H6.1]
    · simp only [u223_0, u223_1, u223_4, u223_5, u223_8, u223_24, eq_self, q_nl0, q_nlI, q_nlR, not_false_eq_true, q_nz0, q_nz1, q_zv0, q_zv1, q_tl1, q_tl0, q_wif, q_swc, q_swn, List.cons_append, List.nil_append, if_true, if_false, e10, e01, Bool.false_eq_true, sh_195, K6.1]
  · have n0 : (v.toInt = 0) = False := i32_n (k := 0) v0
    by_cases v1 : v = 1
    · subst v1
      refine Pi_of C0 K0 O (Pr_pure y (fun Q => ?_) (fun Q => ?_))
      · simp only [u80_0, u80_1, q_swc, n0, q_t1, eq_self, q_nl0, q_nlI, q_nlR, not_false_eq_true, q_nz0, q_nz1, q_zv0, q_zv1, q_tl1, q_tl0, q_wif, q_swc, q_swn, List.cons_append, List.nil_append, if_true, if_false, e10, e01, Bool.false_eq_true]
        simp only [u80_36, u80_37, u80_40, u80_43, eq_self, q_nl0, q_nlI, q_nlR, not_false_eq_true, q_nz0, q_nz1, q_zv0, q_zv1, q_tl1, q_tl0, q_wif, q_swc, q_swn, List.cons_append, List.nil_append, if_true, if_false, e10, e01, Bool.false_eq_true, sh_1, sh_4, p_1_1 hp, H6.2]
      · simp only [u223_0, u223_1, u223_4, u223_5, u223_8, u223_11, u223_12, u223_13, u223_16, u223_17, u223_20, u223_23, u223_24, eq_self, q_nl0, q_nlI, q_nlR, not_false_eq_true, q_nz0, q_nz1, q_zv0, q_zv1, q_tl1, q_tl0, q_wif, q_swc, q_swn, List.cons_append, List.nil_append, if_true, if_false, e10, e01, Bool.false_eq_true, sh_195, K6.2, show ((1 : Int32) = 0) = False from eq_false (by decide)]
    · have n1 : (v.toInt = 1) = False := i32_n (k := 1) v1
      refine Pi_of C0 K0 O (Pr_pure (-1) (fun Q => ?_) (fun Q => ?_))
      · simp only [u80_0, u80_1, q_swc, q_swn, n0, n1, eq_self, q_nl0, q_nlI, q_nlR, not_false_eq_true, q_nz0, q_nz1, q_zv0, q_zv1, q_tl1, q_tl0, q_wif, q_swc, q_swn, List.cons_append, List.nil_append, if_true, if_false, e10, e01, Bool.false_eq_true]
        simp only [u80_44, u80_45, eq_self, q_nl0, q_nlI, q_nlR, not_false_eq_true, q_nz0, q_nz1, q_zv0, q_zv1, q_tl1, q_tl0, q_wif, q_swc, q_swn, List.cons_append, List.nil_append, if_true, if_false, e10, e01, Bool.false_eq_true]
      · simp only [u223_0, u223_1, u223_4, u223_5, u223_8, u223_11, u223_12, u223_13, u223_16, u223_17, u223_20, u223_23, u223_24, eq_self, q_nl0, q_nlI, q_nlR, not_false_eq_true, q_nz0, q_nz1, q_zv0, q_zv1, q_tl1, q_tl0, q_wif, q_swc, q_swn, List.cons_append, List.nil_append, if_true, if_false, e10, e01, Bool.false_eq_true, eq_false v0, eq_false v1]
theorem KQ_tp {h g : HT} {b f N : Nat} {τ : CT} {A : Nat → Int32} (e : ∀ c k, ¬ (c = 195 ∧ k = 2) → c ≠ 196 → m_gI g c k = m_gI h c k) (r : g.2 = h.2) (H : KQ h b f τ N A) : KQ g b f τ N A := by
  have e1 : ∀ c k, 198 ≤ c → m_gI g c k = m_gI h c k := fun c k h1 => e c k (by omega) (by omega)
  refine ⟨⟨Ptr_rf (Rf_of r) H.1.1, H.1.2.1, ⟨H.1.2.2.1.1, (e 195 40 (by decide) (by decide)).trans H.1.2.2.1.2⟩, ?_⟩, ?_, H.2.2.1, (funext fun k => e1 227 k (by decide)).trans H.2.2.2.1, H.2.2.2.2⟩
  · have H' := H.1.2.2.2
    unfold MCity at *
    simp only [e1 198 _ (by omega), e1 199 _ (by omega), e1 200 _ (by omega), e1 201 _ (by omega), e1 202 _ (by omega), e1 203 _ (by omega), e1 204 _ (by omega), e1 205 _ (by omega), e1 206 _ (by omega), e1 207 _ (by omega), e1 208 _ (by omega), e1 209 _ (by omega), e1 210 _ (by omega), e1 211 _ (by omega), e1 212 _ (by omega), e1 213 _ (by omega)]
    exact H'
  · have H' := H.2.1
    unfold MRule at *
    simp only [e1 214 _ (by omega), e1 215 _ (by omega), e1 216 _ (by omega), e1 222 _ (by omega), e1 223 _ (by omega)]
    exact H'
theorem s_end {X : XT} {d : Nat} {h : HT} {σ : ST} (C : CI h σ) (K : KI h σ) (O : OKs σ) (v : Int32) : Pi X (d + 10) 13 [some (.ref 1), some (.int v)] 314 [some (.ref 195), some (.int v)] h := by
  obtain ⟨τ, A, bh, ah, W, F, B, n, t, S, L, V, x, y⟩ := σ
  have C0 := C
  have K0 := K
  obtain ⟨⟨T, H, H1'⟩, ⟨o, HA⟩, H3, H4, H5, H6⟩ := C
  obtain ⟨⟨b, f, KH⟩, KA, K3, K4, K5, K6⟩ := K
  obtain ⟨O1, O2, O3, O4, O5, O6, O7, O8⟩ := O
  have hp := cq_p H
  have hL : L < 2 ^ 31 := by omega
  rcases ix_cases v (k := L + 1) (by omega) with ⟨m, hm, rfl, ix⟩ | ix
  · have f0 : (nI m < 0) = False := eq_false (nI_nlt (b := 0) (Nat.zero_le m) (by omega))
    have f1 : (nI L < nI m) = False := eq_false (nI_nlt (by omega) (by omega))
    have hA : Hi h (m_sI h 2 1 (nI m)) := ⟨fun c k => Or.inr (Or.inr rfl), fun c k z => by rw [gI_sI, if_neg (by omega)]⟩
    have hB : Lo (m_sI h 2 1 (nI m)) (m_sI (m_sI h 2 1 (nI m)) 195 2 (nI m)) := ⟨rfl, fun c k z => by rw [gI_sI, if_neg (by omega)]⟩
    have e1 : ∀ c k, ¬ (c = 2 ∧ k = 1) → m_gI (m_sI h 2 1 (nI m)) c k = m_gI h c k := fun c k z => by rw [gI_sI, if_neg z]
    have e2 : ∀ c k, ¬ (c = 195 ∧ k = 2) → m_gI (m_sI (m_sI h 2 1 (nI m)) 195 2 (nI m)) c k = m_gI (m_sI h 2 1 (nI m)) c k := fun c k z => by rw [gI_sI, if_neg z]
    refine ⟨nI m, m_sI h 2 1 (nI m), m_sI (m_sI h 2 1 (nI m)) 195 2 (nI m), (τ, A, bh, ah, W, F, B, n, t, S, m, V, x, y), ⟨O1, O2, O3, O4, O5, O6, by omega, fun i hi => O8 i (by omega)⟩, ?_, ?_, fun Q => ?_, fun Q => ?_⟩
    · refine CI_lo hB (show CI (m_sI h 2 1 (nI m)) _ from ⟨⟨T, CQ_eq5 (h := h) (fun c k => rfl) (fun c k h1 h2 z => e1 c k (by omega)) H ?_ (cq_a H), H1'⟩, ⟨o, CAct_eq (fun c k h1 h2 => e1 c k (by omega)) HA⟩, CBox_eq (fun c k z => e1 c k (by omega)) H3, CSig_eq (fun c k z => e1 c k (by omega)) H4, ⟨?_, fun i hi => ?_⟩, CFau_eq (fun k z => e1 4 k (by omega)) H6⟩)
      · rw [gS_eq (fun c k h1 h2 => e1 c k (by omega))]
        exact cq_r H
      · rw [gI_sI, if_pos ⟨rfl, rfl⟩]
      · rw [e1 3 i (by omega)]
        exact H5.2 i (by omega)
    · refine ⟨⟨b, f, ?_⟩, KAct_eq (fun c k z => (e2 c k (by omega)).trans (e1 c k (by omega))) KA, KBox_eq (fun c k z => (e2 c k (by omega)).trans (e1 c k (by omega))) K3, KSig_eq (fun c k z => (e2 c k (by omega)).trans (e1 c k (by omega))) K4, ⟨?_, fun i hi => ?_⟩, KFau_eq (fun k z => (e2 195 k (by omega)).trans (e1 195 k (by omega))) K6⟩
      · exact KQ_tp (fun c k z _ => e2 c k z) rfl (KQ_hi hA KH)
      · rw [gI_sI, if_pos ⟨rfl, rfl⟩]
      · rw [e2 196 i (by omega), e1 196 i (by omega)]
        exact K5.2 i (by omega)
    · simp only [u13_0, u13_1, u13_4, u13_5, u13_6, u13_9, u13_12, eq_self, q_nl0, q_nlI, q_nlR, not_false_eq_true, q_nz0, q_nz1, q_zv0, q_zv1, q_tl1, q_tl0, q_wif, q_swc, q_swn, List.cons_append, List.nil_append, if_true, if_false, e10, e01, Bool.false_eq_true, sh_1, sh_2, f0, p_1_0 hp, H5.1, f1]
      simp only [u13_17, u13_18, u13_21, u13_22, u13_25, u13_26, eq_self, q_nl0, q_nlI, q_nlR, not_false_eq_true, q_nz0, q_nz1, q_zv0, q_zv1, q_tl1, q_tl0, q_wif, q_swc, q_swn, List.cons_append, List.nil_append, if_true, if_false, e10, e01, Bool.false_eq_true, sh_1, sh_2, p_1_0 hp]
    · have t2 : m_gI (m_sI h 2 1 (nI m)) 195 2 = nI L := (e1 195 2 (by decide)).trans K5.1
      simp only [u314_0, u314_1, u314_4, u314_5, u314_6, u314_9, eq_self, q_nl0, q_nlI, q_nlR, not_false_eq_true, q_nz0, q_nz1, q_zv0, q_zv1, q_tl1, q_tl0, q_wif, q_swc, q_swn, List.cons_append, List.nil_append, if_true, if_false, e10, e01, Bool.false_eq_true, sh_195, f0, t2, f1]
      simp only [u314_14, u314_15, u314_16, u314_19, u314_20, eq_self, q_nl0, q_nlI, q_nlR, not_false_eq_true, q_nz0, q_nz1, q_zv0, q_zv1, q_tl1, q_tl0, q_wif, q_swc, q_swn, List.cons_append, List.nil_append, if_true, if_false, e10, e01, Bool.false_eq_true, sh_195]
  · by_cases v0 : v < 0
    · refine Pi_of C0 K0 ⟨O1, O2, O3, O4, O5, O6, O7, O8⟩ (Pr_pure (-1) (fun Q => ?_) (fun Q => ?_))
      · simp only [u13_0, u13_1, u13_15, u13_16, eq_self, q_nl0, q_nlI, q_nlR, not_false_eq_true, q_nz0, q_nz1, q_zv0, q_zv1, q_tl1, q_tl0, q_wif, q_swc, q_swn, List.cons_append, List.nil_append, if_true, if_false, e10, e01, Bool.false_eq_true, eq_true v0]
      · simp only [u314_0, u314_1, u314_12, u314_13, eq_self, q_nl0, q_nlI, q_nlR, not_false_eq_true, q_nz0, q_nz1, q_zv0, q_zv1, q_tl1, q_tl0, q_wif, q_swc, q_swn, List.cons_append, List.nil_append, if_true, if_false, e10, e01, Bool.false_eq_true, eq_true v0]
    · have f1 : (nI L < v) = True := by
        apply eq_true
        rw [Int32.lt_iff_toInt_lt, nI_toInt hL]
        unfold ixB at ix
        have := of_decide_eq_false ix
        have v0' : ¬ v.toInt < 0 := fun z => v0 ((Int32.lt_iff_toInt_lt (y := 0)).mpr z)
        omega
      refine Pi_of C0 K0 ⟨O1, O2, O3, O4, O5, O6, O7, O8⟩ (Pr_pure (-1) (fun Q => ?_) (fun Q => ?_))
      · simp only [u13_0, u13_1, u13_4, u13_5, u13_6, u13_9, u13_12, u13_15, u13_16, eq_self, q_nl0, q_nlI, q_nlR, not_false_eq_true, q_nz0, q_nz1, q_zv0, q_zv1, q_tl1, q_tl0, q_wif, q_swc, q_swn, List.cons_append, List.nil_append, if_true, if_false, e10, e01, Bool.false_eq_true, sh_1, sh_2, eq_false v0, p_1_0 hp, H5.1, f1]
      · simp only [u314_0, u314_1, u314_4, u314_5, u314_6, u314_9, u314_12, u314_13, eq_self, q_nl0, q_nlI, q_nlR, not_false_eq_true, q_nz0, q_nz1, q_zv0, q_zv1, q_tl1, q_tl0, q_wif, q_swc, q_swn, List.cons_append, List.nil_append, if_true, if_false, e10, e01, Bool.false_eq_true, sh_195, eq_false v0, K5.1, f1]
theorem q_to {X : XT} {d M e t : Nat} {ps : List (Int × Nat)} {x : Int} {ls : LT} {st : List Value} {h : HT} {Q : QT} (z : m_swt ps e x = t) : wq X d M (m_swt ps e x) ls st h Q = wq X d M t ls st h Q := by rw [z]
theorem s_about {X : XT} {d : Nat} {h : HT} {σ : ST} (C : CI h σ) (K : KI h σ) (O : OKs σ) (v : Int32) : Pi X (d + 10) 115 [some (.ref 1), some (.int v)] 312 [some (.ref 195), some (.int v)] h := by
  refine Pi_of C K O ?_
  obtain ⟨τ, A, bh, ah, W, F, B, n, t, S, L, V, x, y⟩ := σ
  obtain ⟨⟨T, H, H1'⟩, ⟨o, HA⟩, H3, H4, H5, H6⟩ := C
  obtain ⟨⟨b, f, KH⟩, KA, K3, K4, K5, K6⟩ := K
  have hp := cq_p H
  have hT := ct_T (cq_t H)
  have hbb := mt_b (mq_t KH)
  have e1 : m_in (nI b) 2 = true := q_in hbb (by decide)
  have e2 : (nI b).toNatClampNeg = b := q_cl (by omega)
  have R := (cq_r H).1
  rcases ix_cases v (k := 14) (by decide) with ⟨m, hm, rfl, ix⟩ | ix
  · clear ix
    have hm' : m = 0 ∨ m = 1 ∨ m = 2 ∨ m = 3 ∨ m = 4 ∨ m = 5 ∨ m = 6 ∨ m = 7 ∨ m = 8 ∨ m = 9 ∨ m = 10 ∨ m = 11 ∨ m = 12 ∨ m = 13 := by omega
    rcases hm' with rfl | rfl | rfl | rfl | rfl | rfl | rfl | rfl | rfl | rfl | rfl | rfl | rfl | rfl
    · refine Pr_pure (nI (τ 0 1)) (fun Q => ?_) (fun Q => ?_)
      · refine Eq.trans (u115_0.trans (u115_1.trans (q_to (t := 72) (by decide)))) ?_
        simp only [u115_72, u115_73, u115_76, u115_79, eq_self, q_nl0, q_nlI, q_nlR, not_false_eq_true, q_nz0, q_nz1, q_zv0, q_zv1, q_tl1, q_tl0, q_wif, q_swc, q_swn, List.cons_append, List.nil_append, if_true, if_false, e10, e01, Bool.false_eq_true, sh_1, cq_T H, shT_0 hT, ct_mn (cq_t H)]
      · refine Eq.trans (u312_0.trans (u312_1.trans (q_to (t := 72) (by decide)))) ?_
        simp only [u312_72, u312_73, u312_76, eq_self, q_nl0, q_nlI, q_nlR, not_false_eq_true, q_nz0, q_nz1, q_zv0, q_zv1, q_tl1, q_tl0, q_wif, q_swc, q_swn, List.cons_append, List.nil_append, if_true, if_false, e10, e01, Bool.false_eq_true, sh_195, k_many (mq_t KH)]
    · refine Pr_pure (nI (τ 0 0)) (fun Q => ?_) (fun Q => ?_)
      · refine Eq.trans (u115_0.trans (u115_1.trans (q_to (t := 80) (by decide)))) ?_
        simp only [u115_80, u115_81, u115_84, u115_87, eq_self, q_nl0, q_nlI, q_nlR, not_false_eq_true, q_nz0, q_nz1, q_zv0, q_zv1, q_tl1, q_tl0, q_wif, q_swc, q_swn, List.cons_append, List.nil_append, if_true, if_false, e10, e01, Bool.false_eq_true, sh_1, cq_T H, shT_0 hT, ct_cr (cq_t H)]
      · refine Eq.trans (u312_0.trans (u312_1.trans (q_to (t := 77) (by decide)))) ?_
        simp only [u312_77, u312_78, u312_81, u312_82, u312_85, u312_86, eq_self, q_nl0, q_nlI, q_nlR, not_false_eq_true, q_nz0, q_nz1, q_zv0, q_zv1, q_tl1, q_tl0, q_wif, q_swc, q_swn, List.cons_append, List.nil_append, if_true, if_false, e10, e01, Bool.false_eq_true, sh_195, sh_198, p_195_11 hp, mt_k (mq_t KH), e1, e2, mt_cr (mq_t KH)]
    · refine Pr_pure (nI (τ 0 2)) (fun Q => ?_) (fun Q => ?_)
      · refine Eq.trans (u115_0.trans (u115_1.trans (q_to (t := 88) (by decide)))) ?_
        simp only [u115_88, u115_89, u115_92, u115_95, eq_self, q_nl0, q_nlI, q_nlR, not_false_eq_true, q_nz0, q_nz1, q_zv0, q_zv1, q_tl1, q_tl0, q_wif, q_swc, q_swn, List.cons_append, List.nil_append, if_true, if_false, e10, e01, Bool.false_eq_true, sh_1, cq_T H, shT_0 hT, ct_dm (cq_t H)]
      · refine Eq.trans (u312_0.trans (u312_1.trans (q_to (t := 87) (by decide)))) ?_
        simp only [u312_87, u312_88, u312_91, u312_92, u312_95, u312_96, eq_self, q_nl0, q_nlI, q_nlR, not_false_eq_true, q_nz0, q_nz1, q_zv0, q_zv1, q_tl1, q_tl0, q_wif, q_swc, q_swn, List.cons_append, List.nil_append, if_true, if_false, e10, e01, Bool.false_eq_true, sh_195, sh_200, p_195_13 hp, mt_k (mq_t KH), e1, e2, mt_dm (mq_t KH)]
    · refine Pr_pure (A 18) (fun Q => ?_) (fun Q => ?_)
      · refine Eq.trans (u115_0.trans (u115_1.trans (q_to (t := 96) (by decide)))) ?_
        simp only [u115_96, u115_97, u115_100, u115_103, eq_self, q_nl0, q_nlI, q_nlR, not_false_eq_true, q_nz0, q_nz1, q_zv0, q_zv1, q_tl1, q_tl0, q_wif, q_swc, q_swn, List.cons_append, List.nil_append, if_true, if_false, e10, e01, Bool.false_eq_true, sh_1, sh_38, p_1_3 hp, show m_gI h 38 6 = A 18 from R.2.2.2.2.1]
      · refine Eq.trans (u312_0.trans (u312_1.trans (q_to (t := 97) (by decide)))) ?_
        simp only [u312_97, u312_98, u312_101, u312_103, u312_104, eq_self, q_nl0, q_nlI, q_nlR, not_false_eq_true, q_nz0, q_nz1, q_zv0, q_zv1, q_tl1, q_tl0, q_wif, q_swc, q_swn, List.cons_append, List.nil_append, if_true, if_false, e10, e01, Bool.false_eq_true, sh_195, sh_227, p_195_47 hp, show m_in 18 20 = true from by decide, show (18 : Int32).toNatClampNeg = 18 from rfl, mq_A KH]
    · refine Pr_pure (A 19) (fun Q => ?_) (fun Q => ?_)
      · refine Eq.trans (u115_0.trans (u115_1.trans (q_to (t := 104) (by decide)))) ?_
        simp only [u115_104, u115_105, u115_108, u115_111, eq_self, q_nl0, q_nlI, q_nlR, not_false_eq_true, q_nz0, q_nz1, q_zv0, q_zv1, q_tl1, q_tl0, q_wif, q_swc, q_swn, List.cons_append, List.nil_append, if_true, if_false, e10, e01, Bool.false_eq_true, sh_1, sh_38, p_1_3 hp, show m_gI h 38 7 = A 19 from R.2.2.2.2.2]
      · refine Eq.trans (u312_0.trans (u312_1.trans (q_to (t := 105) (by decide)))) ?_
        simp only [u312_105, u312_106, u312_109, u312_111, u312_112, eq_self, q_nl0, q_nlI, q_nlR, not_false_eq_true, q_nz0, q_nz1, q_zv0, q_zv1, q_tl1, q_tl0, q_wif, q_swc, q_swn, List.cons_append, List.nil_append, if_true, if_false, e10, e01, Bool.false_eq_true, sh_195, sh_227, p_195_47 hp, show m_in 19 20 = true from by decide, show (19 : Int32).toNatClampNeg = 19 from rfl, mq_A KH]
    · refine Pr_pure (A 16) (fun Q => ?_) (fun Q => ?_)
      · refine Eq.trans (u115_0.trans (u115_1.trans (q_to (t := 112) (by decide)))) ?_
        simp only [u115_112, u115_113, u115_116, u115_119, eq_self, q_nl0, q_nlI, q_nlR, not_false_eq_true, q_nz0, q_nz1, q_zv0, q_zv1, q_tl1, q_tl0, q_wif, q_swc, q_swn, List.cons_append, List.nil_append, if_true, if_false, e10, e01, Bool.false_eq_true, sh_1, sh_38, p_1_3 hp, show m_gI h 38 3 = A 16 from R.2.1]
      · refine Eq.trans (u312_0.trans (u312_1.trans (q_to (t := 113) (by decide)))) ?_
        simp only [u312_113, u312_114, u312_117, u312_119, u312_120, eq_self, q_nl0, q_nlI, q_nlR, not_false_eq_true, q_nz0, q_nz1, q_zv0, q_zv1, q_tl1, q_tl0, q_wif, q_swc, q_swn, List.cons_append, List.nil_append, if_true, if_false, e10, e01, Bool.false_eq_true, sh_195, sh_227, p_195_47 hp, in16, cl16, mq_A KH]
    · refine Pr_pure (A 17) (fun Q => ?_) (fun Q => ?_)
      · refine Eq.trans (u115_0.trans (u115_1.trans (q_to (t := 120) (by decide)))) ?_
        simp only [u115_120, u115_121, u115_124, u115_127, eq_self, q_nl0, q_nlI, q_nlR, not_false_eq_true, q_nz0, q_nz1, q_zv0, q_zv1, q_tl1, q_tl0, q_wif, q_swc, q_swn, List.cons_append, List.nil_append, if_true, if_false, e10, e01, Bool.false_eq_true, sh_1, sh_38, p_1_3 hp, show m_gI h 38 4 = A 17 from R.2.2.1]
      · refine Eq.trans (u312_0.trans (u312_1.trans (q_to (t := 121) (by decide)))) ?_
        simp only [u312_121, u312_122, u312_125, u312_127, u312_128, eq_self, q_nl0, q_nlI, q_nlR, not_false_eq_true, q_nz0, q_nz1, q_zv0, q_zv1, q_tl1, q_tl0, q_wif, q_swc, q_swn, List.cons_append, List.nil_append, if_true, if_false, e10, e01, Bool.false_eq_true, sh_195, sh_227, p_195_47 hp, show m_in 17 20 = true from by decide, show (17 : Int32).toNatClampNeg = 17 from rfl, mq_A KH]
    · refine Pr_pure (nI (sShort τ (aN A))) (fun Q => ?_) (fun Q => ?_)
      · refine Eq.trans (u115_0.trans (u115_1.trans (q_to (t := 128) (by decide)))) ?_
        simp only [u115_128, u115_129, u115_132, u115_133, u115_136, u115_139, u115_142, eq_self, q_nl0, q_nlI, q_nlR, not_false_eq_true, q_nz0, q_nz1, q_zv0, q_zv1, q_tl1, q_tl0, q_wif, q_swc, q_swn, List.cons_append, List.nil_append, if_true, if_false, e10, e01, Bool.false_eq_true, sh_1, sh_38, cq_T H, shT_0 hT, p_1_3 hp, cq_o H, c_shortBy (cq_t H) (cq_n H)]
      · refine Eq.trans (u312_0.trans (u312_1.trans (q_to (t := 129) (by decide)))) ?_
        simp only [u312_129, u312_130, u312_131, u312_134, u312_136, u312_137, u312_140, eq_self, q_nl0, q_nlI, q_nlR, not_false_eq_true, q_nz0, q_nz1, q_zv0, q_zv1, q_tl1, q_tl0, q_wif, q_swc, q_swn, List.cons_append, List.nil_append, if_true, if_false, e10, e01, Bool.false_eq_true, sh_195, sh_227, p_195_47 hp, in14, cl14, mq_o KH, k_shortBy (mq_t KH) (mq_n KH)]
    · refine Pr_pure (nI bh) (fun Q => ?_) (fun Q => ?_)
      · refine Eq.trans (u115_0.trans (u115_1.trans (q_to (t := 143) (by decide)))) ?_
        simp only [u115_143, u115_144, u115_147, u115_150, eq_self, q_nl0, q_nlI, q_nlR, not_false_eq_true, q_nz0, q_nz1, q_zv0, q_zv1, q_tl1, q_tl0, q_wif, q_swc, q_swn, List.cons_append, List.nil_append, if_true, if_false, e10, e01, Bool.false_eq_true, sh_1, sh_44, p_1_5 hp, HA.2.1.2.1]
      · refine Eq.trans (u312_0.trans (u312_1.trans (q_to (t := 141) (by decide)))) ?_
        simp only [u312_141, u312_142, u312_145, eq_self, q_nl0, q_nlI, q_nlR, not_false_eq_true, q_nz0, q_nz1, q_zv0, q_zv1, q_tl1, q_tl0, q_wif, q_swc, q_swn, List.cons_append, List.nil_append, if_true, if_false, e10, e01, Bool.false_eq_true, sh_195, KA.1]
    · refine Pr_pure (nI ah) (fun Q => ?_) (fun Q => ?_)
      · refine Eq.trans (u115_0.trans (u115_1.trans (q_to (t := 151) (by decide)))) ?_
        simp only [u115_151, u115_152, u115_155, u115_158, eq_self, q_nl0, q_nlI, q_nlR, not_false_eq_true, q_nz0, q_nz1, q_zv0, q_zv1, q_tl1, q_tl0, q_wif, q_swc, q_swn, List.cons_append, List.nil_append, if_true, if_false, e10, e01, Bool.false_eq_true, sh_1, sh_44, p_1_5 hp, HA.2.1.2.2]
      · refine Eq.trans (u312_0.trans (u312_1.trans (q_to (t := 146) (by decide)))) ?_
        simp only [u312_146, u312_147, u312_150, eq_self, q_nl0, q_nlI, q_nlR, not_false_eq_true, q_nz0, q_nz1, q_zv0, q_zv1, q_tl1, q_tl0, q_wif, q_swc, q_swn, List.cons_append, List.nil_append, if_true, if_false, e10, e01, Bool.false_eq_true, sh_195, KA.2.1]
    · refine Pr_pure (nI n) (fun Q => ?_) (fun Q => ?_)
      · refine Eq.trans (u115_0.trans (u115_1.trans (q_to (t := 159) (by decide)))) ?_
        simp only [u115_159, u115_160, u115_163, u115_166, eq_self, q_nl0, q_nlI, q_nlR, not_false_eq_true, q_nz0, q_nz1, q_zv0, q_zv1, q_tl1, q_tl0, q_wif, q_swc, q_swn, List.cons_append, List.nil_append, if_true, if_false, e10, e01, Bool.false_eq_true, sh_1, sh_179, p_1_10 hp, H4.1]
      · refine Eq.trans (u312_0.trans (u312_1.trans (q_to (t := 151) (by decide)))) ?_
        simp only [u312_151, u312_152, u312_155, eq_self, q_nl0, q_nlI, q_nlR, not_false_eq_true, q_nz0, q_nz1, q_zv0, q_zv1, q_tl1, q_tl0, q_wif, q_swc, q_swn, List.cons_append, List.nil_append, if_true, if_false, e10, e01, Bool.false_eq_true, sh_195, K4.1]
    · refine Pr_pure (nI t) (fun Q => ?_) (fun Q => ?_)
      · refine Eq.trans (u115_0.trans (u115_1.trans (q_to (t := 167) (by decide)))) ?_
        simp only [u115_167, u115_168, u115_171, u115_174, eq_self, q_nl0, q_nlI, q_nlR, not_false_eq_true, q_nz0, q_nz1, q_zv0, q_zv1, q_tl1, q_tl0, q_wif, q_swc, q_swn, List.cons_append, List.nil_append, if_true, if_false, e10, e01, Bool.false_eq_true, sh_1, sh_179, p_1_10 hp, H4.2.1]
      · refine Eq.trans (u312_0.trans (u312_1.trans (q_to (t := 156) (by decide)))) ?_
        simp only [u312_156, u312_157, u312_160, eq_self, q_nl0, q_nlI, q_nlR, not_false_eq_true, q_nz0, q_nz1, q_zv0, q_zv1, q_tl1, q_tl0, q_wif, q_swc, q_swn, List.cons_append, List.nil_append, if_true, if_false, e10, e01, Bool.false_eq_true, sh_195, K4.2.1]
    · refine Pr_pure (nI L) (fun Q => ?_) (fun Q => ?_)
      · refine Eq.trans (u115_0.trans (u115_1.trans (q_to (t := 175) (by decide)))) ?_
        simp only [u115_175, u115_176, u115_179, u115_182, eq_self, q_nl0, q_nlI, q_nlR, not_false_eq_true, q_nz0, q_nz1, q_zv0, q_zv1, q_tl1, q_tl0, q_wif, q_swc, q_swn, List.cons_append, List.nil_append, if_true, if_false, e10, e01, Bool.false_eq_true, sh_1, sh_2, p_1_0 hp, H5.1]
      · refine Eq.trans (u312_0.trans (u312_1.trans (q_to (t := 161) (by decide)))) ?_
        simp only [u312_161, u312_162, u312_165, eq_self, q_nl0, q_nlI, q_nlR, not_false_eq_true, q_nz0, q_nz1, q_zv0, q_zv1, q_tl1, q_tl0, q_wif, q_swc, q_swn, List.cons_append, List.nil_append, if_true, if_false, e10, e01, Bool.false_eq_true, sh_195, K5.1]
    · refine Pr_pure (nI (τ 0 8)) (fun Q => ?_) (fun Q => ?_)
      · refine Eq.trans (u115_0.trans (u115_1.trans (q_to (t := 183) (by decide)))) ?_
        simp only [u115_183, u115_184, u115_187, u115_190, u115_193, eq_self, q_nl0, q_nlI, q_nlR, not_false_eq_true, q_nz0, q_nz1, q_zv0, q_zv1, q_tl1, q_tl0, q_wif, q_swc, q_swn, List.cons_append, List.nil_append, if_true, if_false, e10, e01, Bool.false_eq_true, sh_1, cq_T H, shT_0 hT, shT_10 hT, pT_13 hT hp, ct_fu (cq_t H)]
      · refine Eq.trans (u312_0.trans (u312_1.trans (q_to (t := 166) (by decide)))) ?_
        simp only [u312_166, u312_167, u312_170, u312_171, u312_174, u312_175, eq_self, q_nl0, q_nlI, q_nlR, not_false_eq_true, q_nz0, q_nz1, q_zv0, q_zv1, q_tl1, q_tl0, q_wif, q_swc, q_swn, List.cons_append, List.nil_append, if_true, if_false, e10, e01, Bool.false_eq_true, sh_195, sh_201, p_195_14 hp, mt_k (mq_t KH), e1, e2, mt_fu (mq_t KH)]
  · have z : ∀ k : Int, 0 ≤ k → k < 14 → (v.toInt = k) = False := fun k h1 h2 => eq_false (fun e => by
      have := of_decide_eq_false ix
      omega)
    have sw : ∀ a0 a1 a2 a3 a4 a5 a6 a7 a8 a9 a10 a11 a12 a13 e : Nat, m_swt [(0, a0), (1, a1), (2, a2), (3, a3), (4, a4), (5, a5), (6, a6), (7, a7), (8, a8), (9, a9), (10, a10), (11, a11), (12, a12), (13, a13)] e v.toInt = e := fun a0 a1 a2 a3 a4 a5 a6 a7 a8 a9 a10 a11 a12 a13 e => by
      simp only [q_swc, q_swn, z 0 (by decide) (by decide), z 1 (by decide) (by decide), z 2 (by decide) (by decide), z 3 (by decide) (by decide), z 4 (by decide) (by decide), z 5 (by decide) (by decide), z 6 (by decide) (by decide), z 7 (by decide) (by decide), z 8 (by decide) (by decide), z 9 (by decide) (by decide), z 10 (by decide) (by decide), z 11 (by decide) (by decide), z 12 (by decide) (by decide), z 13 (by decide) (by decide), if_false]
    refine Pr_pure (-1) (fun Q => ?_) (fun Q => ?_)
    · simp only [u115_0, u115_1, sw, u115_194, u115_195, eq_self, q_nl0, q_nlI, q_nlR, not_false_eq_true, q_nz0, q_nz1, q_zv0, q_zv1, q_tl1, q_tl0, q_wif, q_swc, q_swn, List.cons_append, List.nil_append, if_true, if_false, e10, e01, Bool.false_eq_true]
    · simp only [u312_0, u312_1, sw, u312_176, u312_177, eq_self, q_nl0, q_nlI, q_nlR, not_false_eq_true, q_nz0, q_nz1, q_zv0, q_zv1, q_tl1, q_tl0, q_wif, q_swc, q_swn, List.cons_append, List.nil_append, if_true, if_false, e10, e01, Bool.false_eq_true]
