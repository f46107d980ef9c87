theorem a_about0 {X : XT} {d : Nat} {h : HT} {τ : CT} {A : Nat → Int32} {bh ah : Nat} {W : Nat → Nat → Int32} {F : Nat → Bool} {B : Nat → Nat → Int32} {n t : Nat} {S : Nat → Nat → Int32} {L : Nat} {V : Nat → Nat} {x y : Int32} {w : Int32} (C : CI h (τ, A, bh, ah, W, F, B, n, t, S, L, V, x, y)) (O : OKs (τ, A, bh, ah, W, F, B, n, t, S, L, V, x, y)) (w0 : w = nI 0) : An X (d + 10) 115 [some (.ref 1), some (.int w)] h (nI (τ 0 1)) := by
  subst w0
  obtain ⟨⟨T, H, H1'⟩, ⟨o, HA⟩, H3, H4, H5, H6⟩ := C
  have hp := cq_p H
  have hT := ct_T (cq_t H)
  have R := (cq_r H).1
  refine An_pure (fun Q => ?_)
  refine Eq.trans (u115_0.trans (u115_1.trans (q_to (t := 72) (by decide)))) ?_
  simp only [u115_72, u115_73, u115_76, u115_79, eq_self, q_nl0, q_nlI, q_nlR, not_false_eq_true, q_nz0, q_nz1, q_zv0, q_zv1, q_tl1, q_tl0, q_wif, q_swc, q_swn, List.cons_append, List.nil_append, if_true, if_false, e10, e01, Bool.false_eq_true, sh_1, cq_T H, shT_0 hT, ct_mn (cq_t H)]
theorem a_about1 {X : XT} {d : Nat} {h : HT} {τ : CT} {A : Nat → Int32} {bh ah : Nat} {W : Nat → Nat → Int32} {F : Nat → Bool} {B : Nat → Nat → Int32} {n t : Nat} {S : Nat → Nat → Int32} {L : Nat} {V : Nat → Nat} {x y : Int32} {w : Int32} (C : CI h (τ, A, bh, ah, W, F, B, n, t, S, L, V, x, y)) (O : OKs (τ, A, bh, ah, W, F, B, n, t, S, L, V, x, y)) (w1 : w = nI 1) : An X (d + 10) 115 [some (.ref 1), some (.int w)] h (nI (τ 0 0)) := by
  subst w1
  obtain ⟨⟨T, H, H1'⟩, ⟨o, HA⟩, H3, H4, H5, H6⟩ := C
  have hp := cq_p H
  have hT := ct_T (cq_t H)
  have R := (cq_r H).1
  refine An_pure (fun Q => ?_)
  refine Eq.trans (u115_0.trans (u115_1.trans (q_to (t := 80) (by decide)))) ?_
  simp only [u115_80, u115_81, u115_84, u115_87, eq_self, q_nl0, q_nlI, q_nlR, not_false_eq_true, q_nz0, q_nz1, q_zv0, q_zv1, q_tl1, q_tl0, q_wif, q_swc, q_swn, List.cons_append, List.nil_append, if_true, if_false, e10, e01, Bool.false_eq_true, sh_1, cq_T H, shT_0 hT, ct_cr (cq_t H)]
theorem a_about2 {X : XT} {d : Nat} {h : HT} {τ : CT} {A : Nat → Int32} {bh ah : Nat} {W : Nat → Nat → Int32} {F : Nat → Bool} {B : Nat → Nat → Int32} {n t : Nat} {S : Nat → Nat → Int32} {L : Nat} {V : Nat → Nat} {x y : Int32} {w : Int32} (C : CI h (τ, A, bh, ah, W, F, B, n, t, S, L, V, x, y)) (O : OKs (τ, A, bh, ah, W, F, B, n, t, S, L, V, x, y)) (w2 : w = nI 2) : An X (d + 10) 115 [some (.ref 1), some (.int w)] h (nI (τ 0 2)) := by
  subst w2
  obtain ⟨⟨T, H, H1'⟩, ⟨o, HA⟩, H3, H4, H5, H6⟩ := C
  have hp := cq_p H
  have hT := ct_T (cq_t H)
  have R := (cq_r H).1
  refine An_pure (fun Q => ?_)
  refine Eq.trans (u115_0.trans (u115_1.trans (q_to (t := 88) (by decide)))) ?_
  simp only [u115_88, u115_89, u115_92, u115_95, eq_self, q_nl0, q_nlI, q_nlR, not_false_eq_true, q_nz0, q_nz1, q_zv0, q_zv1, q_tl1, q_tl0, q_wif, q_swc, q_swn, List.cons_append, List.nil_append, if_true, if_false, e10, e01, Bool.false_eq_true, sh_1, cq_T H, shT_0 hT, ct_dm (cq_t H)]
theorem a_about3 {X : XT} {d : Nat} {h : HT} {τ : CT} {A : Nat → Int32} {bh ah : Nat} {W : Nat → Nat → Int32} {F : Nat → Bool} {B : Nat → Nat → Int32} {n t : Nat} {S : Nat → Nat → Int32} {L : Nat} {V : Nat → Nat} {x y : Int32} {w : Int32} (C : CI h (τ, A, bh, ah, W, F, B, n, t, S, L, V, x, y)) (O : OKs (τ, A, bh, ah, W, F, B, n, t, S, L, V, x, y)) (w3 : w = nI 3) : An X (d + 10) 115 [some (.ref 1), some (.int w)] h (A 18) := by
  subst w3
  obtain ⟨⟨T, H, H1'⟩, ⟨o, HA⟩, H3, H4, H5, H6⟩ := C
  have hp := cq_p H
  have hT := ct_T (cq_t H)
  have R := (cq_r H).1
  refine An_pure (fun Q => ?_)
  refine Eq.trans (u115_0.trans (u115_1.trans (q_to (t := 96) (by decide)))) ?_
  simp only [u115_96, u115_97, u115_100, u115_103, eq_self, q_nl0, q_nlI, q_nlR, not_false_eq_true, q_nz0, q_nz1, q_zv0, q_zv1, q_tl1, q_tl0, q_wif, q_swc, q_swn, List.cons_append, List.nil_append, if_true, if_false, e10, e01, Bool.false_eq_true, sh_1, sh_38, p_1_3 hp, show m_gI h 38 6 = A 18 from R.2.2.2.2.1]
theorem a_about4 {X : XT} {d : Nat} {h : HT} {τ : CT} {A : Nat → Int32} {bh ah : Nat} {W : Nat → Nat → Int32} {F : Nat → Bool} {B : Nat → Nat → Int32} {n t : Nat} {S : Nat → Nat → Int32} {L : Nat} {V : Nat → Nat} {x y : Int32} {w : Int32} (C : CI h (τ, A, bh, ah, W, F, B, n, t, S, L, V, x, y)) (O : OKs (τ, A, bh, ah, W, F, B, n, t, S, L, V, x, y)) (w4 : w = nI 4) : An X (d + 10) 115 [some (.ref 1), some (.int w)] h (A 19) := by
  subst w4
  obtain ⟨⟨T, H, H1'⟩, ⟨o, HA⟩, H3, H4, H5, H6⟩ := C
  have hp := cq_p H
  have hT := ct_T (cq_t H)
  have R := (cq_r H).1
  refine An_pure (fun Q => ?_)
  refine Eq.trans (u115_0.trans (u115_1.trans (q_to (t := 104) (by decide)))) ?_
  simp only [u115_104, u115_105, u115_108, u115_111, eq_self, q_nl0, q_nlI, q_nlR, not_false_eq_true, q_nz0, q_nz1, q_zv0, q_zv1, q_tl1, q_tl0, q_wif, q_swc, q_swn, List.cons_append, List.nil_append, if_true, if_false, e10, e01, Bool.false_eq_true, sh_1, sh_38, p_1_3 hp, show m_gI h 38 7 = A 19 from R.2.2.2.2.2]
theorem a_about5 {X : XT} {d : Nat} {h : HT} {τ : CT} {A : Nat → Int32} {bh ah : Nat} {W : Nat → Nat → Int32} {F : Nat → Bool} {B : Nat → Nat → Int32} {n t : Nat} {S : Nat → Nat → Int32} {L : Nat} {V : Nat → Nat} {x y : Int32} {w : Int32} (C : CI h (τ, A, bh, ah, W, F, B, n, t, S, L, V, x, y)) (O : OKs (τ, A, bh, ah, W, F, B, n, t, S, L, V, x, y)) (w5 : w = nI 5) : An X (d + 10) 115 [some (.ref 1), some (.int w)] h (A 16) := by
  subst w5
  obtain ⟨⟨T, H, H1'⟩, ⟨o, HA⟩, H3, H4, H5, H6⟩ := C
  have hp := cq_p H
  have hT := ct_T (cq_t H)
  have R := (cq_r H).1
  refine An_pure (fun Q => ?_)
  refine Eq.trans (u115_0.trans (u115_1.trans (q_to (t := 112) (by decide)))) ?_
  simp only [u115_112, u115_113, u115_116, u115_119, eq_self, q_nl0, q_nlI, q_nlR, not_false_eq_true, q_nz0, q_nz1, q_zv0, q_zv1, q_tl1, q_tl0, q_wif, q_swc, q_swn, List.cons_append, List.nil_append, if_true, if_false, e10, e01, Bool.false_eq_true, sh_1, sh_38, p_1_3 hp, show m_gI h 38 3 = A 16 from R.2.1]
theorem a_about6 {X : XT} {d : Nat} {h : HT} {τ : CT} {A : Nat → Int32} {bh ah : Nat} {W : Nat → Nat → Int32} {F : Nat → Bool} {B : Nat → Nat → Int32} {n t : Nat} {S : Nat → Nat → Int32} {L : Nat} {V : Nat → Nat} {x y : Int32} {w : Int32} (C : CI h (τ, A, bh, ah, W, F, B, n, t, S, L, V, x, y)) (O : OKs (τ, A, bh, ah, W, F, B, n, t, S, L, V, x, y)) (w6 : w = nI 6) : An X (d + 10) 115 [some (.ref 1), some (.int w)] h (A 17) := by
  subst w6
  obtain ⟨⟨T, H, H1'⟩, ⟨o, HA⟩, H3, H4, H5, H6⟩ := C
  have hp := cq_p H
  have hT := ct_T (cq_t H)
  have R := (cq_r H).1
  refine An_pure (fun Q => ?_)
  refine Eq.trans (u115_0.trans (u115_1.trans (q_to (t := 120) (by decide)))) ?_
  simp only [u115_120, u115_121, u115_124, u115_127, eq_self, q_nl0, q_nlI, q_nlR, not_false_eq_true, q_nz0, q_nz1, q_zv0, q_zv1, q_tl1, q_tl0, q_wif, q_swc, q_swn, List.cons_append, List.nil_append, if_true, if_false, e10, e01, Bool.false_eq_true, sh_1, sh_38, p_1_3 hp, show m_gI h 38 4 = A 17 from R.2.2.1]
theorem a_about7 {X : XT} {d : Nat} {h : HT} {τ : CT} {A : Nat → Int32} {bh ah : Nat} {W : Nat → Nat → Int32} {F : Nat → Bool} {B : Nat → Nat → Int32} {n t : Nat} {S : Nat → Nat → Int32} {L : Nat} {V : Nat → Nat} {x y : Int32} {w : Int32} (C : CI h (τ, A, bh, ah, W, F, B, n, t, S, L, V, x, y)) (O : OKs (τ, A, bh, ah, W, F, B, n, t, S, L, V, x, y)) (w7 : w = nI 7) : An X (d + 10) 115 [some (.ref 1), some (.int w)] h (nI (sShort τ (aN A))) := by
  subst w7
  obtain ⟨⟨T, H, H1'⟩, ⟨o, HA⟩, H3, H4, H5, H6⟩ := C
  have hp := cq_p H
  have hT := ct_T (cq_t H)
  have R := (cq_r H).1
  refine An_pure (fun Q => ?_)
  refine Eq.trans (u115_0.trans (u115_1.trans (q_to (t := 128) (by decide)))) ?_
  simp only [u115_128, u115_129, u115_132, u115_133, u115_136, u115_139, u115_142, eq_self, q_nl0, q_nlI, q_nlR, not_false_eq_true, q_nz0, q_nz1, q_zv0, q_zv1, q_tl1, q_tl0, q_wif, q_swc, q_swn, List.cons_append, List.nil_append, if_true, if_false, e10, e01, Bool.false_eq_true, sh_1, sh_38, cq_T H, shT_0 hT, p_1_3 hp, cq_o H, c_shortBy (cq_t H) (cq_n H)]
