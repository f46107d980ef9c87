/-! THE LAW'S build answers 1 -/
section BUILT2
variable {X : XT} {d : Nat} {h : HT} {t : Nat → Int32}
theorem ra_TR {τ : CT} (R : RA X τ) (Z : RZ X t) (e : m_gI h 195 = t) : TR h τ (nB X) := by
  obtain ⟨⟨a0, a1, a2, a3, a4, a5, a6⟩, ac, am, ad, _⟩ := R
  obtain ⟨⟨z0, z1, z2, z3, z4, z5, z6, z7⟩, zc, zm, zd⟩ := Z
  unfold TR
  rw [e, a0, a1, a2, a3, a4, a5, a6]
  refine ⟨⟨z0, z1, z2, z3, z4, z5, z6, z7⟩, fun c hc => ?_, fun m hm => ?_, fun q hq => ?_⟩
  · obtain ⟨x1, x2⟩ := ac c hc
    rw [x1, x2]
    exact zc c hc
  · obtain ⟨x1, x2, x3, x4⟩ := am m hm
    obtain ⟨y1, y2, y3, y4⟩ := zm m hm
    rw [x1, x2, x3, x4]
    exact ⟨y1, y2, y3, y4⟩
  · obtain ⟨x1, x2⟩ := ad q hq
    rw [x1, x2]
    exact zd q hq
theorem ra_LB {τ : CT} (R : RA X τ) (K : cOk τ) : LB τ (nB X) := by
  refine ⟨K, ?_, ?_, ?_, nB_3, fun n _ l y m _ _ => rb_go R.2.2.2.2 nB_3⟩
  · rw [R.1.1]
    exact nC_3
  · rw [R.1.2.1]
    exact nM_5
  · rw [R.1.2.2.1]
    exact nD_3
theorem built (hX1 : X.1 ≤ 260) (W : TW h [] t) : ∃ g τ C, WW g τ (nB X) C (aNew τ (fun _ => 0)) 3 (aNew τ (fun _ => 0)) none ∧ LB τ (nB X) ∧ RA X τ ∧ ∀ Q : QT, wq X (d + 112) 102 0 [some (.ref 1), some (.ref 195), some (.ref 10000), none, none, none, none, none, none] [] h Q = Q (some (.int 1)) g := by
  obtain ⟨g1, t', l4, l5, l6, l7, l8, W1, Z, q1⟩ := written (X := X) (d := d + 99) hX1 W
  obtain ⟨τ0, A0, bh, ah, w, F, B, n, S, V, x, y, c, o, e, r⟩ := W1
  have H : St V (RT X).length 0 (RT X) := ⟨Nat.zero_add _, fun k hk => by
    rw [Nat.zero_add]
    exact e k hk⟩
  obtain ⟨s, τ, e1, R⟩ := read_all H
  obtain ⟨lo, o2, g2, i2, c2, q2⟩ := a_city (X := X) (d := d) c o e1
  have r2 : m_gI g2 195 = t' := (funext fun k => i2.2 195 k (by omega)).trans r
  have T2 := ra_TR R Z r2
  have L2 := ra_LB R lo.1
  have V2 : WW g2 τ (nB X) (m_gI g2 196) (aNew τ (fun _ => 0)) 3 (aNew τ (fun _ => 0)) none := ⟨⟨_, _, _, _, _, _, _, _, _, _, c2, o2, fun h => absurd h (by decide), fun _ h => nomatch h⟩, T2, rfl⟩
  obtain ⟨g3, V3, q3⟩ := w_ab (X := X) (d := d + 101) (w := 0) V2 (fun _ _ _ _ _ _ _ _ _ _ c o => a_about0 c o rfl)
  obtain ⟨g4, V4, q4⟩ := w_ab (X := X) (d := d + 101) (w := 1) V3 (fun _ _ _ _ _ _ _ _ _ _ c o => a_about1 c o rfl)
  obtain ⟨g5, V5, q5⟩ := w_ab (X := X) (d := d + 101) (w := 2) V4 (fun _ _ _ _ _ _ _ _ _ _ c o => a_about2 c o rfl)
  obtain ⟨g6, V6, q6⟩ := w_about4 (X := X) (d := d + 101) V5
  obtain ⟨g7, V7, q7⟩ := w_out (X := X) (d := d + 101) V6
  have t2 := (ww_T V2).1
  have t3 := (ww_T V3).1
  have t4 := (ww_T V4).1
  have t5 := (ww_T V5).1
  have t6 := (ww_T V6).1
  have t7 := (ww_T V7).1
  have a19 : aNew τ (fun _ => 0) 19 = nI (τ 0 5) := if_pos rfl
  have a14 : nI (aN (aNew τ (fun _ => 0))) = nI (τ 0 6) := ((ww_a V2).1.1.symm).trans ((if_neg (by decide)).trans (if_pos rfl))
  refine ⟨g7, τ, _, V7, L2, R, fun Q => ?_⟩
  refine (q1 Q).trans ?_
  show wq X (d + 112) 102 781 _ _ _ _ = _
  simp only [u102_781, u102_782, eq_self, q_nl0, q_nlI, q_nlR, not_false_eq_true, q_nz0, q_nz1, q_zv0, q_zv1, q_tl1, q_tl0, q_wif, q_swc, q_swn, List.cons_append, List.nil_append, if_true, if_false, e10, e01, Bool.false_eq_true, sh_1, q2]
  simp only [u102_785, u102_786, u102_787, u102_788, u102_791, u102_792, u102_793, eq_self, q_nl0, q_nlI, q_nlR, not_false_eq_true, q_nz0, q_nz1, q_zv0, q_zv1, q_tl1, q_tl0, q_wif, q_swc, q_swn, List.cons_append, List.nil_append, if_true, if_false, e10, e01, Bool.false_eq_true, sh_1, sh_195, t_in1, t_cl1, t2.2.1, q3]
  simp only [u102_796, u102_797, u102_798, u102_799, u102_802, u102_803, u102_804, eq_self, q_nl0, q_nlI, q_nlR, not_false_eq_true, q_nz0, q_nz1, q_zv0, q_zv1, q_tl1, q_tl0, q_wif, q_swc, q_swn, List.cons_append, List.nil_append, if_true, if_false, e10, e01, Bool.false_eq_true, sh_1, sh_195, t_in1, t_cl1, t3.2.1, q4]
  simp only [u102_807, u102_808, u102_809, u102_810, u102_813, u102_814, u102_815, eq_self, q_nl0, q_nlI, q_nlR, not_false_eq_true, q_nz0, q_nz1, q_zv0, q_zv1, q_tl1, q_tl0, q_wif, q_swc, q_swn, List.cons_append, List.nil_append, if_true, if_false, e10, e01, Bool.false_eq_true, sh_1, sh_195, t_in0, t_cl0, t4.1, q5]
  simp only [u102_818, u102_819, u102_820, u102_821, u102_824, u102_825, u102_826, eq_self, q_nl0, q_nlI, q_nlR, not_false_eq_true, q_nz0, q_nz1, q_zv0, q_zv1, q_tl1, q_tl0, q_wif, q_swc, q_swn, List.cons_append, List.nil_append, if_true, if_false, e10, e01, Bool.false_eq_true, sh_1, sh_195, t_in2, t_cl2, t5.2.2.1, q6]
  simp only [u102_829, u102_830, u102_832, u102_833, u102_836, u102_837, eq_self, q_nl0, q_nlI, q_nlR, not_false_eq_true, q_nz0, q_nz1, q_zv0, q_zv1, q_tl1, q_tl0, q_wif, q_swc, q_swn, List.cons_append, List.nil_append, if_true, if_false, e10, e01, Bool.false_eq_true, sh_1, sh_195, t_in6, t_cl6, t6.2.2.2.2.2.2.1, a19, q7]
  simp only [u102_840, u102_841, u102_843, u102_844, u102_847, u102_848, u102_851, u102_852, eq_self, q_nl0, q_nlI, q_nlR, not_false_eq_true, q_nz0, q_nz1, q_zv0, q_zv1, q_tl1, q_tl0, q_wif, q_swc, q_swn, List.cons_append, List.nil_append, if_true, if_false, e10, e01, Bool.false_eq_true, sh_195, t_in7, t_cl7, t7.2.2.2.2.2.2.2, a14]
end BUILT2
