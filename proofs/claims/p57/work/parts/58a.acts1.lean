/-! WHAT THE CLASS DOES, one call at a time: answer and state behind it -/
def Ac (X : XT) (d M : Nat) (L : LT) (h : HT) (v : Int32) (σ : ST) : Prop := OKs σ ∧ ∃ g, Hi h g ∧ CI g σ ∧ ∀ Q : QT, wq X d M 0 L [] h Q = Q (some (.int v)) g
theorem Same_Hi {h g : HT} (a : Same h g) : Hi h g := ⟨fun c k => Or.inr (Or.inr (Same_R a c k)), fun c k z => a.2 c k (isJ_mid (by omega))⟩
theorem Ac_of {X : XT} {d M : Nat} {L : LT} {h : HT} {v : Int32} {σ : ST} (C : CI h σ) (O : OKs σ) (P : An X d M L h v) : Ac X d M L h v σ := by
  obtain ⟨g, s, e⟩ := P
  exact ⟨O, g, Same_Hi s, CI_same s C, e⟩
theorem a_leave {X : XT} {d : Nat} {h : HT} {τ : CT} {A : Nat → Int32} {bh ah : Nat} {W : Nat → Nat → Int32} {F : Nat → Bool} {B : Nat → Nat → Int32} {n t : Nat} {S : Nat → Nat → Int32} {L : Nat} {V : Nat → Nat} {xx yy : Int32} {m : Nat} (C : CI h (τ, A, bh, ah, W, F, B, n, t, S, L, V, xx, yy)) (O : OKs (τ, A, bh, ah, W, F, B, n, t, S, L, V, xx, yy)) (hm : m < τ 0 1) (z : ¬ (aN A).testBit m = true) : Ac X (d + 10) 116 [some (.ref 1), some (.int (nI m))] h (nI (pcN (aN A ||| 2 ^ m))) (τ, plA A (2 ^ m), kpB bh, 0, kpW W A bh, F, B, n, t, S, L, V, xx, yy) := by
  have C0 := C
  obtain ⟨⟨T, H, H1'⟩, ⟨o, HA⟩, H3, H4, H5, H6⟩ := C
  obtain ⟨O1, O2, O3⟩ := O
  have hp := cq_p H
  have hk := cq_k H
  have h7 := o_mn hk
  have h8 := p2_7 h7
  have hn := cq_n H
  have s38 : (m_sh (KS X) 38).1 = 7 := by rw [sh_38]
  have ix : ixB (nI m) (τ 0 1) = true := ixB_in hm (by omega)
  have hb := bit01 hn (show m < 8 by omega)
  have zf : (aN A).testBit m = false := by simpa using z
  have hs := p2_set hm
  have hs8 : 2 ^ m < 128 := by omega
  obtain ⟨g1, o', d1, e38, ca, cw⟩ := c_keep (X := X) (d := d + 7) H HA O1
  have R1 : Rep τ (gS g1 38) A := by rw [e38]; exact cq_r H
  have H1 := CQ_da d1 H R1 (cq_a H)
  have R2 : Rep τ (rWalk (gS g1 38) (2 ^ m)) (plA A (2 ^ m)) := plA_rep hk hs (p2_and0 _ hn m (by omega) zf) (cq_a H) R1
  have A2 := plA_ok hk hs (cq_a H)
  have d2 : Da h (pS g1 38 (rWalk (gS g1 38) (2 ^ m))) := Da_tr d1 (Da_pS (by omega) (by omega))
  have hu := or_128 hn hs8
  have go : m_gI (pS g1 38 (rWalk (gS g1 38) (2 ^ m))) 38 0 = nI (aN A ||| 2 ^ m) := by
    rw [gI_pS0]
    show m_gI g1 38 0 ||| nI (2 ^ m) = _
    rw [cq_o H1, nI_or]
  refine ⟨⟨(kp_ok (cq_a H) O1 O2).1, (kp_ok (cq_a H) O1 O2).2, O3⟩, pS g1 38 (rWalk (gS g1 38) (2 ^ m)), Da_hi d2, CI_act C0 d2 (by rw [gS_pS]; exact R2) A2 (CAct_38 (ca _)), fun Q => ?_⟩
  have cwo := fun (Q : QT) => c_walkOut (X := X) (d := d + 9) (h := g1) (Q := Q) is38 (cq_p H1) hs8
  simp only [u116_0, u116_1, u116_2, u116_5, u116_8, u116_9, u116_12, u116_13, u116_16, u116_19, u116_20, u116_21, u116_22, u116_25, u116_26, u116_29, eq_self, q_nl0, q_nlI, q_nlR, not_false_eq_true, q_nz0, q_nz1, q_zv0, q_zv1, q_tl1, q_tl0, q_wif, q_swc, q_swn, List.cons_append, List.nil_append, if_true, if_false, e10, e01, Bool.false_eq_true, sh_1, sh_38, sh_44, c_isIx (cq_t H) (cq_T H), ix, p_1_3 hp, c_isOut s38, cq_o H, hb, z, p_1_5 hp, cw]
  simp only [u116_32, u116_33, u116_36, u116_37, u116_38, u116_39, u116_42, u116_43, u116_46, u116_49, u116_52, eq_self, q_nl0, q_nlI, q_nlR, not_false_eq_true, q_nz0, q_nz1, q_zv0, q_zv1, q_tl1, q_tl0, q_wif, q_swc, q_swn, List.cons_append, List.nil_append, if_true, if_false, e10, e01, Bool.false_eq_true, sh_1, sh_38, p_1_3 (cq_p H1), nI_sh m (by omega), cwo, gR_pS, go, c_bitCount hu]
theorem a_leaveO {X : XT} {d : Nat} {h : HT} {τ : CT} {A : Nat → Int32} {bh ah : Nat} {W : Nat → Nat → Int32} {F : Nat → Bool} {B : Nat → Nat → Int32} {n t : Nat} {S : Nat → Nat → Int32} {L : Nat} {V : Nat → Nat} {xx yy : Int32} {m : Nat} (C : CI h (τ, A, bh, ah, W, F, B, n, t, S, L, V, xx, yy)) (O : OKs (τ, A, bh, ah, W, F, B, n, t, S, L, V, xx, yy)) (hm : m < τ 0 1) (z : (aN A).testBit m = true) : An X (d + 10) 116 [some (.ref 1), some (.int (nI m))] h (-1) := by
  have C0 := C
  obtain ⟨⟨T, H, H1'⟩, ⟨o, HA⟩, H3, H4, H5, H6⟩ := C
  obtain ⟨O1, O2, O3⟩ := O
  have hp := cq_p H
  have hk := cq_k H
  have h7 := o_mn hk
  have h8 := p2_7 h7
  have hn := cq_n H
  have s38 : (m_sh (KS X) 38).1 = 7 := by rw [sh_38]
  have ix : ixB (nI m) (τ 0 1) = true := ixB_in hm (by omega)
  have hb := bit01 hn (show m < 8 by omega)
  refine An_pure (fun Q => ?_)
  simp only [u116_0, u116_1, u116_2, u116_5, u116_8, u116_9, u116_12, u116_13, u116_16, u116_19, u116_20, eq_self, q_nl0, q_nlI, q_nlR, not_false_eq_true, q_nz0, q_nz1, q_zv0, q_zv1, q_tl1, q_tl0, q_wif, q_swc, q_swn, List.cons_append, List.nil_append, if_true, if_false, e10, e01, Bool.false_eq_true, sh_1, sh_38, c_isIx (cq_t H) (cq_T H), ix, p_1_3 hp, c_isOut s38, cq_o H, hb, z]
theorem a_leaveN {X : XT} {d : Nat} {h : HT} {τ : CT} {A : Nat → Int32} {bh ah : Nat} {W : Nat → Nat → Int32} {F : Nat → Bool} {B : Nat → Nat → Int32} {n t : Nat} {S : Nat → Nat → Int32} {L : Nat} {V : Nat → Nat} {xx yy : Int32} {x : Int32} (C : CI h (τ, A, bh, ah, W, F, B, n, t, S, L, V, xx, yy)) (O : OKs (τ, A, bh, ah, W, F, B, n, t, S, L, V, xx, yy)) (ix : ixB x (τ 0 1) = false) : An X (d + 10) 116 [some (.ref 1), some (.int x)] h (-1) := by
  have C0 := C
  obtain ⟨⟨T, H, H1'⟩, ⟨o, HA⟩, H3, H4, H5, H6⟩ := C
  obtain ⟨O1, O2, O3⟩ := O
  have hp := cq_p H
  have hk := cq_k H
  have h7 := o_mn hk
  have h8 := p2_7 h7
  have hn := cq_n H
  have s38 : (m_sh (KS X) 38).1 = 7 := by rw [sh_38]
  refine An_pure (fun Q => ?_)
  simp only [u116_0, u116_1, u116_2, u116_5, u116_8, u116_9, u116_12, u116_13, u116_16, u116_19, u116_20, eq_self, q_nl0, q_nlI, q_nlR, not_false_eq_true, q_nz0, q_nz1, q_zv0, q_zv1, q_tl1, q_tl0, q_wif, q_swc, q_swn, List.cons_append, List.nil_append, if_true, if_false, e10, e01, Bool.false_eq_true, sh_1, c_isIx (cq_t H) (cq_T H), ix]
theorem a_home {X : XT} {d : Nat} {h : HT} {τ : CT} {A : Nat → Int32} {bh ah : Nat} {W : Nat → Nat → Int32} {F : Nat → Bool} {B : Nat → Nat → Int32} {n t : Nat} {S : Nat → Nat → Int32} {L : Nat} {V : Nat → Nat} {xx yy : Int32} {m : Nat} (C : CI h (τ, A, bh, ah, W, F, B, n, t, S, L, V, xx, yy)) (O : OKs (τ, A, bh, ah, W, F, B, n, t, S, L, V, xx, yy)) (hm : m < τ 0 1) (z : (aN A).testBit m = true) : Ac X (d + 10) 120 [some (.ref 1), some (.int (nI m)), none] h (A (7 + m)) (τ, aHome τ A (aN A) (2 ^ m), kpB bh, 0, kpW W A bh, F, B, n, t, S, L, V, xx, yy) := by
  have C0 := C
  obtain ⟨⟨T, H, H1'⟩, ⟨o, HA⟩, H3, H4, H5, H6⟩ := C
  obtain ⟨O1, O2, O3⟩ := O
  have hp := cq_p H
  have hk := cq_k H
  have h7 := o_mn hk
  have h8 := p2_7 h7
  have hn := cq_n H
  have s38 : (m_sh (KS X) 38).1 = 7 := by rw [sh_38]
  have ix : ixB (nI m) (τ 0 1) = true := ixB_in hm (by omega)
  have hb := bit01 hn (show m < 8 by omega)
  have hs := p2_set hm
  have hs8 : 2 ^ m < 128 := by omega
  obtain ⟨g1, o', d1, e38, ca, cw⟩ := c_keep (X := X) (d := d + 7) H HA O1
  have R1 : Rep τ (gS g1 38) A := by rw [e38]; exact cq_r H
  have H1 := CQ_da d1 H R1 (cq_a H)
  have R2 : Rep τ (rHome (gS g1 38) (nI (2 ^ m))) (aHome τ A (aN A) (2 ^ m)) := aHome_rep hk hs8 (cq_a H) R1
  have A2 := aHome_ok (g := 2 ^ m) hk (cq_a H)
  have d2 : Da h (pS g1 38 (rHome (gS g1 38) (nI (2 ^ m)))) := Da_tr d1 (Da_pS (by omega) (by omega))
  have e3 : m_in (nI m) 7 = true := q_in (by omega) (by decide)
  have e4 : (nI m).toNatClampNeg = m := q_cl (by omega)
  have e5 : m_in (nI (7 + m)) 20 = true := q_in (by omega) (by decide)
  have e6 : (nI (7 + m)).toNatClampNeg = 7 + m := q_cl (by omega)
  refine ⟨⟨(kp_ok (cq_a H) O1 O2).1, (kp_ok (cq_a H) O1 O2).2, O3⟩, pS g1 38 (rHome (gS g1 38) (nI (2 ^ m))), Da_hi d2, CI_act C0 d2 (by rw [gS_pS]; exact R2) A2 (CAct_38 (ca _)), fun Q => ?_⟩
  simp only [u120_0, u120_1, u120_2, u120_5, u120_8, u120_9, u120_12, u120_13, u120_16, u120_19, u120_20, u120_21, u120_22, u120_25, u120_26, u120_29, eq_self, q_nl0, q_nlI, q_nlR, not_false_eq_true, q_nz0, q_nz1, q_zv0, q_zv1, q_tl1, q_tl0, q_wif, q_swc, q_swn, List.cons_append, List.nil_append, if_true, if_false, e10, e01, Bool.false_eq_true, sh_1, sh_38, sh_44, c_isIx (cq_t H) (cq_T H), ix, p_1_3 hp, c_isOut s38, cq_o H, hb, z, p_1_5 hp, cw]
  simp only [u120_32, u120_33, u120_36, u120_39, u120_40, u120_41, u120_42, u120_43, u120_46, u120_47, u120_48, u120_49, u120_52, u120_53, eq_self, q_nl0, q_nlI, q_nlR, not_false_eq_true, q_nz0, q_nz1, q_zv0, q_zv1, q_tl1, q_tl0, q_wif, q_swc, q_swn, List.cons_append, List.nil_append, if_true, if_false, e10, e01, Bool.false_eq_true, sh_1, sh_38, shS_1 is38, pS_1 is38 (cq_p H1), p_1_3 (cq_p H1), e3, e4, cq_dy H1 m hm z, nI_sh m (by omega), c_goHome is38]
theorem a_homeI {X : XT} {d : Nat} {h : HT} {τ : CT} {A : Nat → Int32} {bh ah : Nat} {W : Nat → Nat → Int32} {F : Nat → Bool} {B : Nat → Nat → Int32} {n t : Nat} {S : Nat → Nat → Int32} {L : Nat} {V : Nat → Nat} {xx yy : Int32} {m : Nat} (C : CI h (τ, A, bh, ah, W, F, B, n, t, S, L, V, xx, yy)) (O : OKs (τ, A, bh, ah, W, F, B, n, t, S, L, V, xx, yy)) (hm : m < τ 0 1) (z : ¬ (aN A).testBit m = true) : An X (d + 10) 120 [some (.ref 1), some (.int (nI m)), none] h (-1) := by
  have C0 := C
  obtain ⟨⟨T, H, H1'⟩, ⟨o, HA⟩, H3, H4, H5, H6⟩ := C
  obtain ⟨O1, O2, O3⟩ := O
  have hp := cq_p H
  have hk := cq_k H
  have h7 := o_mn hk
  have h8 := p2_7 h7
  have hn := cq_n H
  have s38 : (m_sh (KS X) 38).1 = 7 := by rw [sh_38]
  have ix : ixB (nI m) (τ 0 1) = true := ixB_in hm (by omega)
  have hb := bit01 hn (show m < 8 by omega)
  refine An_pure (fun Q => ?_)
  simp only [u120_0, u120_1, u120_2, u120_5, u120_8, u120_9, u120_12, u120_13, u120_16, u120_19, u120_20, eq_self, q_nl0, q_nlI, q_nlR, not_false_eq_true, q_nz0, q_nz1, q_zv0, q_zv1, q_tl1, q_tl0, q_wif, q_swc, q_swn, List.cons_append, List.nil_append, if_true, if_false, e10, e01, Bool.false_eq_true, sh_1, sh_38, c_isIx (cq_t H) (cq_T H), ix, p_1_3 hp, c_isOut s38, cq_o H, hb, z]
theorem a_homeN {X : XT} {d : Nat} {h : HT} {τ : CT} {A : Nat → Int32} {bh ah : Nat} {W : Nat → Nat → Int32} {F : Nat → Bool} {B : Nat → Nat → Int32} {n t : Nat} {S : Nat → Nat → Int32} {L : Nat} {V : Nat → Nat} {xx yy : Int32} {x : Int32} (C : CI h (τ, A, bh, ah, W, F, B, n, t, S, L, V, xx, yy)) (O : OKs (τ, A, bh, ah, W, F, B, n, t, S, L, V, xx, yy)) (ix : ixB x (τ 0 1) = false) : An X (d + 10) 120 [some (.ref 1), some (.int x), none] h (-1) := by
  have C0 := C
  obtain ⟨⟨T, H, H1'⟩, ⟨o, HA⟩, H3, H4, H5, H6⟩ := C
  obtain ⟨O1, O2, O3⟩ := O
  have hp := cq_p H
  have hk := cq_k H
  have h7 := o_mn hk
  have h8 := p2_7 h7
  have hn := cq_n H
  have s38 : (m_sh (KS X) 38).1 = 7 := by rw [sh_38]
  refine An_pure (fun Q => ?_)
  simp only [u120_0, u120_1, u120_2, u120_5, u120_8, u120_9, u120_12, u120_13, u120_16, u120_19, u120_20, eq_self, q_nl0, q_nlI, q_nlR, not_false_eq_true, q_nz0, q_nz1, q_zv0, q_zv1, q_tl1, q_tl0, q_wif, q_swc, q_swn, List.cons_append, List.nil_append, if_true, if_false, e10, e01, Bool.false_eq_true, sh_1, c_isIx (cq_t H) (cq_T H), ix]
theorem a_give {X : XT} {d : Nat} {h : HT} {τ : CT} {A : Nat → Int32} {bh ah : Nat} {W : Nat → Nat → Int32} {F : Nat → Bool} {B : Nat → Nat → Int32} {n t : Nat} {S : Nat → Nat → Int32} {L : Nat} {V : Nat → Nat} {xx yy : Int32} {m : Nat} {v : Int32} (C : CI h (τ, A, bh, ah, W, F, B, n, t, S, L, V, xx, yy)) (O : OKs (τ, A, bh, ah, W, F, B, n, t, S, L, V, xx, yy)) (hm : m < τ 0 1) (v1 : ¬ v < 1) (v2 : ¬ 99 < v) : Ac X (d + 10) 121 [some (.ref 1), some (.int (nI m)), some (.int v)] h (upL A m v m) (τ, upL A m v, kpB bh, 0, kpW W A bh, F, B, n, t, S, L, V, xx, yy) := by
  have C0 := C
  obtain ⟨⟨T, H, H1'⟩, ⟨o, HA⟩, H3, H4, H5, H6⟩ := C
  obtain ⟨O1, O2, O3⟩ := O
  have hp := cq_p H
  have hk := cq_k H
  have h7 := o_mn hk
  have ix : ixB (nI m) (τ 0 1) = true := ixB_in hm (by omega)
  obtain ⟨g1, o', d1, e38, ca, cw⟩ := c_keep (X := X) (d := d + 7) H HA O1
  have R1 : Rep τ (gS g1 38) A := by rw [e38]; exact cq_r H
  have H1 := CQ_da d1 H R1 (cq_a H)
  have R2 := upL_rep (v := v) hk hm R1
  have A2 := upL_ok (v := v) hk hm (cq_a H)
  have d2 : Da h (pS g1 38 (rLoaves (gS g1 38) m v)) := Da_tr d1 (Da_pS (by omega) (by omega))
  have e1 : m_in (nI m) 7 = true := q_in (by omega) (by decide)
  have e3 : m_in (nI m) 20 = true := q_in (by omega) (by decide)
  have e4 : (nI m).toNatClampNeg = m := q_cl (by omega)
  have gl : m_gI (pS g1 38 (rLoaves (gS g1 38) m v)) (38 + 2) m = upL A m v m := by
    rw [gI_pS2]
    exact R2.2.1 m hm
  refine ⟨⟨(kp_ok (cq_a H) O1 O2).1, (kp_ok (cq_a H) O1 O2).2, O3⟩, pS g1 38 (rLoaves (gS g1 38) m v), Da_hi d2, CI_act C0 d2 (by rw [gS_pS]; exact R2) A2 (CAct_38 (ca _)), fun Q => ?_⟩
  simp only [u121_0, u121_1, u121_2, u121_5, u121_8, u121_9, u121_10, u121_13, u121_14, u121_16, u121_19, u121_20, u121_21, u121_22, u121_25, u121_26, u121_29, eq_self, q_nl0, q_nlI, q_nlR, not_false_eq_true, q_nz0, q_nz1, q_zv0, q_zv1, q_tl1, q_tl0, q_wif, q_swc, q_swn, List.cons_append, List.nil_append, if_true, if_false, e10, e01, Bool.false_eq_true, sh_1, sh_44, c_isIx (cq_t H) (cq_T H), ix, eq_false v1, eq_false v2, p_1_5 hp, p_1_3 hp, cw]
  simp only [u121_32, u121_33, u121_36, u121_37, u121_38, u121_41, u121_42, u121_45, u121_48, u121_49, u121_50, eq_self, q_nl0, q_nlI, q_nlR, not_false_eq_true, q_nz0, q_nz1, q_zv0, q_zv1, q_tl1, q_tl0, q_wif, q_swc, q_swn, List.cons_append, List.nil_append, if_true, if_false, e10, e01, Bool.false_eq_true, sh_1, sh_38, p_1_3 (cq_p H1), c_getLoaves is38 (cq_p H1) (show m < 7 by omega), gR_pS, shS_2 is38, pS_2 is38 (cq_p H1), e1, e4, gl]
theorem a_giveN {X : XT} {d : Nat} {h : HT} {τ : CT} {A : Nat → Int32} {bh ah : Nat} {W : Nat → Nat → Int32} {F : Nat → Bool} {B : Nat → Nat → Int32} {n t : Nat} {S : Nat → Nat → Int32} {L : Nat} {V : Nat → Nat} {xx yy : Int32} {x v : Int32} (C : CI h (τ, A, bh, ah, W, F, B, n, t, S, L, V, xx, yy)) (O : OKs (τ, A, bh, ah, W, F, B, n, t, S, L, V, xx, yy)) (ix : ixB x (τ 0 1) = false) : An X (d + 10) 121 [some (.ref 1), some (.int x), some (.int v)] h (-1) := by
  have C0 := C
  obtain ⟨⟨T, H, H1'⟩, ⟨o, HA⟩, H3, H4, H5, H6⟩ := C
  obtain ⟨O1, O2, O3⟩ := O
  have hp := cq_p H
  have hk := cq_k H
  have h7 := o_mn hk
  refine An_pure (fun Q => ?_)
  simp only [u121_0, u121_1, u121_2, u121_5, u121_8, u121_9, u121_10, u121_13, u121_14, u121_16, u121_19, u121_20, eq_self, q_nl0, q_nlI, q_nlR, not_false_eq_true, q_nz0, q_nz1, q_zv0, q_zv1, q_tl1, q_tl0, q_wif, q_swc, q_swn, List.cons_append, List.nil_append, if_true, if_false, e10, e01, Bool.false_eq_true, sh_1, c_isIx (cq_t H) (cq_T H), ix]
theorem a_grant {X : XT} {d : Nat} {h : HT} {τ : CT} {A : Nat → Int32} {bh ah : Nat} {W : Nat → Nat → Int32} {F : Nat → Bool} {B : Nat → Nat → Int32} {n t : Nat} {S : Nat → Nat → Int32} {L : Nat} {V : Nat → Nat} {xx yy : Int32} {m g : Nat} (C : CI h (τ, A, bh, ah, W, F, B, n, t, S, L, V, xx, yy)) (O : OKs (τ, A, bh, ah, W, F, B, n, t, S, L, V, xx, yy)) (hm : m < τ 0 2) (hg' : g < 2 ^ τ 0 2) (eg : A 15 = nI g) (z : ¬ g.testBit m = true) : Ac X (d + 10) 123 [some (.ref 1), some (.int (nI m))] h (A 16 + nI (τ 7 m)) (τ, grA τ A g m, kpB bh, 0, kpW W A bh, F, B, n, t, S, L, V, xx, yy) := by
  have C0 := C
  obtain ⟨⟨T, H, H1'⟩, ⟨o, HA⟩, H3, H4, H5, H6⟩ := C
  obtain ⟨O1, O2, O3⟩ := O
  have hp := cq_p H
  have hk := cq_k H
  have h5 := o_dm hk
  have hT := ct_T (cq_t H)
  have hg := aGr_128 hk hg'
  have ix : ixB (nI m) (τ 0 2) = true := ixB_in hm (by omega)
  have hb := bit01 (show g < 128 by omega) (show m < 8 by omega)
  have e1 : m_in (nI m) 5 = true := q_in (by omega) (by decide)
  have e2 : (nI m).toNatClampNeg = m := q_cl (by omega)
  obtain ⟨g1, o', d1, e38, ca, cw⟩ := c_keep (X := X) (d := d + 7) H HA O1
  have R1 : Rep τ (gS g1 38) A := by rw [e38]; exact cq_r H
  have H1 := CQ_da d1 H R1 (cq_a H)
  have R2 := grA_rep (q := m) hk eg R1
  have A2 := grA_ok hk hg' hm (cq_a H)
  have es : m_sI (m_sI g1 38 5 (m_gI g1 38 5 ||| nI (2 ^ m))) 38 3 (m_gI g1 38 3 + nI (τ 7 m)) = pS g1 38 (grR τ (gS g1 38) m) := by
    have q1 := sI_pS0 (h := g1) (a := 38) (r := gS g1 38) (k := 5) (v := m_gI g1 38 5 ||| nI (2 ^ m))
    rw [pS_gS] at q1
    rw [q1, sI_pS0]
    rfl
  have d2 : Da h (pS g1 38 (grR τ (gS g1 38) m)) := Da_tr d1 (Da_pS (by omega) (by omega))
  have g3' : ∀ v, m_gI (m_sI g1 38 5 v) 38 3 = m_gI g1 38 3 := fun v => by rw [gI_sI, if_neg (by decide)]
  have gc : ∀ v, m_gI (m_sI g1 38 5 v) (T + 8) m = nI (τ 7 m) := fun v => by
    rw [gI_sI, if_neg (by rcases hT with t | t <;> omega)]
    exact ct_co (cq_t H1) m hm
  have gl : m_gI (pS g1 38 (grR τ (gS g1 38) m)) 38 3 = A 16 + nI (τ 7 m) := by
    rw [gI_pS0]
    exact R2.1.2.1
  refine ⟨⟨(kp_ok (cq_a H) O1 O2).1, (kp_ok (cq_a H) O1 O2).2, O3⟩, pS g1 38 (grR τ (gS g1 38) m), Da_hi d2, CI_act C0 d2 (by rw [gS_pS]; exact R2) A2 (CAct_38 (ca _)), fun Q => ?_⟩
  simp only [u123_0, u123_1, u123_2, u123_5, u123_8, u123_9, u123_12, u123_15, u123_16, u123_17, u123_18, u123_19, u123_20, u123_23, u123_24, u123_25, u123_26, u123_29, u123_30, u123_33, eq_self, q_nl0, q_nlI, q_nlR, not_false_eq_true, q_nz0, q_nz1, q_zv0, q_zv1, q_tl1, q_tl0, q_wif, q_swc, q_swn, List.cons_append, List.nil_append, if_true, if_false, e10, e01, Bool.false_eq_true, sh_1, sh_38, sh_44, c_isDemand (cq_t H) (cq_T H), ix, p_1_3 hp, cq_g H, eg, hb, z, p_1_5 hp, cw]
  simp only [u123_36, u123_37, u123_40, u123_41, u123_44, u123_45, u123_46, u123_47, u123_48, u123_51, u123_52, u123_55, u123_56, u123_59, u123_60, u123_63, u123_66, u123_67, u123_68, u123_69, u123_72, u123_73, u123_76, u123_79, eq_self, q_nl0, q_nlI, q_nlR, not_false_eq_true, q_nz0, q_nz1, q_zv0, q_zv1, q_tl1, q_tl0, q_wif, q_swc, q_swn, List.cons_append, List.nil_append, if_true, if_false, e10, e01, Bool.false_eq_true, sh_1, sh_38, shT_0 hT, shT_8 hT, gR_sI, pT_11 hT (cq_p H1), p_1_3 (cq_p H1), nI_sh m (by omega), g3', cq_T H1, e1, e2, gc, es, gR_pS, gl]
theorem a_grantO {X : XT} {d : Nat} {h : HT} {τ : CT} {A : Nat → Int32} {bh ah : Nat} {W : Nat → Nat → Int32} {F : Nat → Bool} {B : Nat → Nat → Int32} {n t : Nat} {S : Nat → Nat → Int32} {L : Nat} {V : Nat → Nat} {xx yy : Int32} {m g : Nat} (C : CI h (τ, A, bh, ah, W, F, B, n, t, S, L, V, xx, yy)) (O : OKs (τ, A, bh, ah, W, F, B, n, t, S, L, V, xx, yy)) (hm : m < τ 0 2) (hg' : g < 2 ^ τ 0 2) (eg : A 15 = nI g) (z : g.testBit m = true) : An X (d + 10) 123 [some (.ref 1), some (.int (nI m))] h (-1) := by
  have C0 := C
  obtain ⟨⟨T, H, H1'⟩, ⟨o, HA⟩, H3, H4, H5, H6⟩ := C
  obtain ⟨O1, O2, O3⟩ := O
  have hp := cq_p H
  have hk := cq_k H
  have h5 := o_dm hk
  have hT := ct_T (cq_t H)
  have hg := aGr_128 hk hg'
  have ix : ixB (nI m) (τ 0 2) = true := ixB_in hm (by omega)
  have hb := bit01 (show g < 128 by omega) (show m < 8 by omega)
  have e1 : m_in (nI m) 5 = true := q_in (by omega) (by decide)
  have e2 : (nI m).toNatClampNeg = m := q_cl (by omega)
  refine An_pure (fun Q => ?_)
  simp only [u123_0, u123_1, u123_2, u123_5, u123_8, u123_9, u123_12, u123_15, u123_16, u123_17, u123_18, u123_19, u123_20, u123_23, u123_24, eq_self, q_nl0, q_nlI, q_nlR, not_false_eq_true, q_nz0, q_nz1, q_zv0, q_zv1, q_tl1, q_tl0, q_wif, q_swc, q_swn, List.cons_append, List.nil_append, if_true, if_false, e10, e01, Bool.false_eq_true, sh_1, sh_38, c_isDemand (cq_t H) (cq_T H), ix, p_1_3 hp, cq_g H, eg, hb, z]
theorem a_grantN {X : XT} {d : Nat} {h : HT} {τ : CT} {A : Nat → Int32} {bh ah : Nat} {W : Nat → Nat → Int32} {F : Nat → Bool} {B : Nat → Nat → Int32} {n t : Nat} {S : Nat → Nat → Int32} {L : Nat} {V : Nat → Nat} {xx yy : Int32} {x : Int32} (C : CI h (τ, A, bh, ah, W, F, B, n, t, S, L, V, xx, yy)) (O : OKs (τ, A, bh, ah, W, F, B, n, t, S, L, V, xx, yy)) (ix : ixB x (τ 0 2) = false) : An X (d + 10) 123 [some (.ref 1), some (.int x)] h (-1) := by
  have C0 := C
  obtain ⟨⟨T, H, H1'⟩, ⟨o, HA⟩, H3, H4, H5, H6⟩ := C
  obtain ⟨O1, O2, O3⟩ := O
  have hp := cq_p H
  have hk := cq_k H
  have h5 := o_dm hk
  have hT := ct_T (cq_t H)
  obtain ⟨g, hg', eg⟩ := (cq_a H).2.1
  have hg := aGr_128 hk hg'
  refine An_pure (fun Q => ?_)
  simp only [u123_0, u123_1, u123_2, u123_5, u123_8, u123_9, u123_12, u123_15, u123_16, u123_17, u123_18, u123_19, u123_20, u123_23, u123_24, eq_self, q_nl0, q_nlI, q_nlR, not_false_eq_true, q_nz0, q_nz1, q_zv0, q_zv1, q_tl1, q_tl0, q_wif, q_swc, q_swn, List.cons_append, List.nil_append, if_true, if_false, e10, e01, Bool.false_eq_true, sh_1, c_isDemand (cq_t H) (cq_T H), ix]
