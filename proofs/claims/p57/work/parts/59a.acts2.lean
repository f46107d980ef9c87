theorem a_day {X : XT} {d : Nat} {h : HT} {τ : CT} {A : Nat → Int32} {bh ah : Nat} {W : Nat → Nat → Int32} {F : Nat → Bool} {B : Nat → Nat → Int32} {n t : Nat} {S : Nat → Nat → Int32} {L : Nat} {V : Nat → Nat} {xx yy : Int32} {y : Nat} (C : CI h (τ, A, bh, ah, W, F, B, n, t, S, L, V, xx, yy)) (O : OKs (τ, A, bh, ah, W, F, B, n, t, S, L, V, xx, yy)) (y1 : y < 999) (y2 : A 18 = nI y) : Ac X (d + 10) 124 [some (.ref 1)] h (nI (aC τ A)) (τ, aD τ A, kpB bh, 0, kpW W A bh, F, B, n, t, S, L, V, xx, yy) := by
  have C0 := C
  obtain ⟨⟨T, H, H1'⟩, ⟨o, HA⟩, H3, H4, H5, H6⟩ := C
  obtain ⟨O1, O2, O3⟩ := O
  have hp := cq_p H
  have hk := cq_k H
  have hT := ct_T (cq_t H)
  obtain ⟨y', _, y2', hd'⟩ := (cq_a H).2.2.2
  have hd : ∀ m, m < τ 0 1 → ∃ z, z ≤ y ∧ A (7 + m) = nI z ∧ ((aN A).testBit m = false → z = 0) := by
    have e : y' = y := (nI_eq (by omega) (by omega)).mp (y2'.symm.trans y2)
    rw [← e]
    exact hd'
  have z : ¬ y = 999 := by omega
  have gd : m_gI h 38 6 = nI y := (cq_r H).1.2.2.2.2.1.trans y2
  have lt : (nI y < 999) = True := eq_true (nI_lt (b := 999) (by omega) (by omega))
  have ne : (nI y = 999) = False := eq_false (fun w => z ((nI_eq (b := 999) (by omega) (by decide)).mp w))
  have K998 : aOk τ 998 A := ⟨(cq_a H).1, (cq_a H).2.1, (cq_a H).2.2.1, y, by omega, y2, hd⟩
  obtain ⟨g1, o', d1, e38, ca, cw⟩ := c_keep (X := X) (d := d + 7) H HA O1
  have R1 : Rep τ (gS g1 38) A := by rw [e38]; exact cq_r H
  have H1 := CQ_da d1 H R1 K998
  obtain ⟨g2, f1, f2, f3⟩ := c_day38 (X := X) (d := d + 5) H1
  have A2 : aOk τ 999 (aD τ A) := d_ok hk K998
  have d2 : Da h g2 := Da_tr d1 (Fr_Da f1)
  have ca2 : ∀ A', CAct τ g2 o' (kpB bh) 0 (kpW W A bh) A' := fun A' => CAct_eq (fun c k h1 h2 => f1.2 c k (Or.inr (by omega)) (isP_ge (by omega))) (ca A')
  have e16 : aD τ A 16 - A 16 = nI (aC τ A) := by rw [aD_16 hk (cq_a H), add_sub_l]
  refine ⟨⟨(kp_ok (cq_a H) O1 O2).1, (kp_ok (cq_a H) O1 O2).2, O3⟩, g2, Da_hi d2, CI_act C0 d2 f2 A2 (ca2 _), fun Q => ?_⟩
  simp only [u124_0, u124_1, u124_4, u124_7, u124_10, u124_13, u124_14, u124_15, u124_16, u124_19, u124_20, u124_23, eq_self, q_nl0, q_nlI, q_nlR, not_false_eq_true, q_nz0, q_nz1, q_zv0, q_zv1, q_tl1, q_tl0, q_wif, q_swc, q_swn, List.cons_append, List.nil_append, if_true, if_false, e10, e01, Bool.false_eq_true, sh_1, sh_38, sh_44, p_1_3 hp, gd, lt, p_1_5 hp, cw]
  simp only [u124_26, u124_27, u124_30, u124_31, u124_34, u124_37, eq_self, q_nl0, q_nlI, q_nlR, not_false_eq_true, q_nz0, q_nz1, q_zv0, q_zv1, q_tl1, q_tl0, q_wif, q_swc, q_swn, List.cons_append, List.nil_append, if_true, if_false, e10, e01, Bool.false_eq_true, sh_1, shT_0 hT, cq_T H1, p_1_3 (cq_p H1), f3]
theorem a_undo {X : XT} {d : Nat} {h : HT} {τ : CT} {A : Nat → Int32} {ah : Nat} {W : Nat → Nat → Int32} {F : Nat → Bool} {B : Nat → Nat → Int32} {n t : Nat} {S : Nat → Nat → Int32} {L : Nat} {V : Nat → Nat} {xx yy : Int32} {p : Nat} (C : CI h (τ, A, p + 1, ah, W, F, B, n, t, S, L, V, xx, yy)) (O : OKs (τ, A, p + 1, ah, W, F, B, n, t, S, L, V, xx, yy)) : Ac X (d + 10) 125 [some (.ref 1)] h (1) (τ, cpL A (W p) 20, p, ah + 1, (fun j => if j = p then A else W j), F, B, n, t, S, L, V, xx, yy) := by
  have C0 := C
  obtain ⟨⟨T, H, H1'⟩, ⟨o, HA⟩, H3, H4, H5, H6⟩ := C
  obtain ⟨O1, O2, O3⟩ := O
  have hp := cq_p H
  have hk := cq_k H
  obtain ⟨ho, ⟨f1, f2, f3⟩, r1, r2, r3⟩ := HA
  have ne : (nI (p + 1) = 0) = False := eq_false (nI_ne0 (by omega) (by omega))
  -- the class
  have bd := rg_bd (o := o) (j := p + 1)
  have bd0 := rg_bd (o := o) (j := p)
  have ch := fun (Q : QT) => c_here (X := X) (d := d + 7) (Q := Q) hp ho (show p + 1 ≤ 40 by omega) f1 f2
  have s0 : ∀ j, (m_sh (KS X) (rg o j)).1 = 7 := fun j => by rw [shS_0 rg_S]
  have cc := fun (Q : QT) => c_copy (X := X) (d := d + 8) (h := h) (Q := Q) (rg_S (o := o) (j := p + 1)) is38 rg_38 hp
  have a1 : Da h (pS h (rg o (p + 1)) (rCopy (gS h (rg o (p + 1))) (gS h 38))) := Da_pS (by omega) bd.2
  have q44 : ∀ k, m_gI (pS h (rg o (p + 1)) (rCopy (gS h (rg o (p + 1))) (gS h 38))) 44 k = m_gI h 44 k := fun k => gI_pSo (by omega)
  have q38 : gS (pS h (rg o (p + 1)) (rCopy (gS h (rg o (p + 1))) (gS h 38))) 38 = gS h 38 := gS_pSo (by omega)
  have qb : gS (pS h (rg o (p + 1)) (rCopy (gS h (rg o (p + 1))) (gS h 38))) (rg o (p + 1)) = rCopy (gS h (rg o (p + 1))) (gS h 38) := gS_pS
  have qo : ∀ j, j < 41 → j ≠ p + 1 → gS (pS h (rg o (p + 1)) (rCopy (gS h (rg o (p + 1))) (gS h 38))) (rg o j) = gS h (rg o j) := fun j hj nn => gS_pSo (by
    have := isS_apart (rg_S (o := o) (j := j)) (rg_S (o := o) (j := p + 1)) (rg_ne hj (by omega) nn)
    omega)
  have Rb : Rep τ (rCopy (gS h (rg o (p + 1))) (gS h 38)) A := Rep_copy hk (cq_r H)
  generalize pS h (rg o (p + 1)) (rCopy (gS h (rg o (p + 1))) (gS h 38)) = h1 at cc a1 q44 q38 qb qo
  have q1 : m_gI h1 44 1 = nI o := (q44 1).trans f1
  have q2 : m_gI h1 44 2 = nI (p + 1) := (q44 2).trans f2
  have q3 : m_gI h1 44 3 = nI ah := (q44 3).trans f3
  have hp1 : Ptr h1 := Ptr_of hp a1.1
  have a2 : Da h (m_sI (m_sI h1 44 2 (nI p)) 44 3 (nI (ah + 1))) := Da_tr a1 (Da_tr (Da_sI (by omega) (by omega)) (Da_sI (by omega) (by omega)))
  have eg : ∀ c, c < 44 ∨ 45 ≤ c → c + 3 ≤ 44 ∨ 45 ≤ c → gS (m_sI (m_sI h1 44 2 (nI p)) 44 3 (nI (ah + 1))) c = gS h1 c := fun c z1 z2 => by
    rw [gS_sI (by omega), gS_sI (by omega)]
  have w1 : m_gI (m_sI (m_sI h1 44 2 (nI p)) 44 3 (nI (ah + 1))) 44 1 = nI o := by
    rw [gI_sI, if_neg (by omega), gI_sI, if_neg (by omega), q1]
  have w2 : m_gI (m_sI (m_sI h1 44 2 (nI p)) 44 3 (nI (ah + 1))) 44 2 = nI p := by
    rw [gI_sI, if_neg (by omega), gI_sI, if_pos ⟨rfl, rfl⟩]
  have w3 : m_gI (m_sI (m_sI h1 44 2 (nI p)) 44 3 (nI (ah + 1))) 44 3 = nI (ah + 1) := by
    rw [gI_sI, if_pos ⟨rfl, rfl⟩]
  have g3' : m_gI (m_sI h1 44 2 (nI p)) 44 3 = nI ah := by
    rw [gI_sI, if_neg (by omega), q3]
  generalize hh2 : m_sI (m_sI h1 44 2 (nI p)) 44 3 (nI (ah + 1)) = h2 at a2 eg w1 w2 w3
  have hp2 : Ptr h2 := Ptr_of hp a2.1
  have ch2 := fun (Q : QT) => c_here (X := X) (d := d + 7) (h := h2) (Q := Q) hp2 ho (show p ≤ 40 by omega) w1 w2
  have cc2 := fun (Q : QT) => c_copy (X := X) (d := d + 8) (h := h2) (Q := Q) is38 (rg_S (o := o) (j := p)) (fun e => rg_38 e.symm) hp2
  have e38 : gS h2 (rg o p) = gS h (rg o p) := by rw [eg _ (by omega) (by omega), qo p (by omega) (by omega)]
  rw [e38] at cc2
  have Rw := r1 p (by omega)
  have d3 : Da h (pS h2 38 (rCopy (gS h2 38) (gS h (rg o p)))) := Da_tr a2 (Da_pS (by omega) (by omega))
  have A2 : aOk τ 999 (cpL A (W p) 20) := aOk_cg hk (fun k hk2 => if_pos hk2) (O2 p (by omega))
  have R2 : Rep τ (rCopy (gS h2 38) (gS h (rg o p))) (cpL A (W p) 20) := Rep_cg hk (fun k hk2 => if_pos hk2) (Rep_copy hk Rw)
  have CA : CAct τ (pS h2 38 (rCopy (gS h2 38) (gS h (rg o p)))) o p (ah + 1) (fun j => if j = p then A else W j) (cpL A (W p) 20) := by
    refine CAct_38 ⟨ho, ⟨w1, w2, w3⟩, fun j hj => ?_, fun j h1' h2' => ?_, fun _ => ?_⟩
    · show Rep τ _ (if j = p then A else W j)
      have bj := rg_bd (o := o) (j := j)
      rw [if_neg (by omega), eg _ (by omega) (by omega), qo j (by omega) (by omega)]
      exact r1 j (by omega)
    · show Rep τ _ (if j = p then A else W j)
      have bj := rg_bd (o := o) (j := j + 1)
      rw [eg _ (by omega) (by omega)]
      by_cases y : j = p
      · rw [if_pos y, y, qb]
        exact Rb
      · rw [if_neg y, qo (j + 1) (by omega) (by omega)]
        exact r2 j (by omega) (by omega)
    · rw [e38]
      exact Rep_cg hk (fun k hk2 => if_pos hk2) Rw
  -- the model
  generalize hg2 : pS h2 38 (rCopy (gS h2 38) (gS h (rg o p))) = g2 at cc2 d3 CA
  have rp : gS g2 38 = rCopy (gS h2 38) (gS h (rg o p)) := by
    rw [← hg2]
    exact gS_pS
  refine ⟨?_, g2, Da_hi d3, CI_act C0 d3 (by rw [rp]; exact R2) A2 CA, fun Q => ?_⟩
  · refine ⟨by omega, fun j hj => ?_, O3⟩
    show aOk τ 999 (if j = p then A else W j)
    by_cases y : j = p
    · rw [if_pos y]
      exact cq_a H
    · rw [if_neg y]
      exact O2 j (by omega)
  · simp only [u125_0, u125_1, u125_4, u125_5, u125_8, u125_11, u126_0, u126_1, u126_4, u126_7, u126_8, u126_9, u126_10, u126_13, u126_14, eq_self, q_nl0, q_nlI, q_nlR, not_false_eq_true, q_nz0, q_nz1, q_zv0, q_zv1, q_tl1, q_tl0, q_wif, q_swc, q_swn, List.cons_append, List.nil_append, if_true, if_false, e10, e01, Bool.false_eq_true, sh_1, sh_38, sh_44, p_1_5 hp, p_1_3 hp, f2, ne, ch, s0, cc]
    simp only [u126_17, u126_18, u126_19, u126_22, u126_23, u126_24, u126_27, u126_28, u126_29, u126_32, u126_33, u126_34, u126_37, u126_38, u126_39, u126_42, eq_self, q_nl0, q_nlI, q_nlR, not_false_eq_true, q_nz0, q_nz1, q_zv0, q_zv1, q_tl1, q_tl0, q_wif, q_swc, q_swn, List.cons_append, List.nil_append, if_true, if_false, e10, e01, Bool.false_eq_true, sh_38, sh_44, q2, nI_dn, g3', nI_1, hh2, ch2, s0, cc2, hg2]
    simp only [u126_45, u126_46, u125_11, eq_self, q_nl0, q_nlI, q_nlR, not_false_eq_true, q_nz0, q_nz1, q_zv0, q_zv1, q_tl1, q_tl0, q_wif, q_swc, q_swn, List.cons_append, List.nil_append, if_true, if_false, e10, e01, Bool.false_eq_true]
