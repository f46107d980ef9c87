/-! LINES, as the model reads them -/
section MREAD
variable {X : XT} {d R L s : Nat} {h : HT} {V : Nat → Nat} {τ : CT}
theorem KD_up {h g : HT} {R : Nat} {τ τ' : CT} (D : KD h R τ) (e : ∀ c k, ¬ (c = 195 ∧ 4 ≤ k ∧ k ≤ 9) → ¬ ((c = 202 ∨ c = 203 ∨ c = 204 ∨ c = 217 ∨ c = 218) ∧ k = R) → m_gI g c k = m_gI h c k) (eL : ∀ c k, 219 ≤ c ∧ c ≤ 221 → m_gL g c k = m_gL h c k) (r : ∀ r j, r ≠ 0 → τ' r j = τ r j) (z : ∀ j, j ≠ 3 → j ≠ 4 → j ≠ 5 → j ≠ 10 → j ≠ 11 → τ' 0 j = τ 0 j) (x3 : m_gI g 202 R = nI (τ' 0 3)) (x4 : m_gI g 203 R = nI (τ' 0 4)) (x5 : m_gI g 204 R = nI (τ' 0 5)) (x10 : m_gI g 217 R = nI (τ' 0 10)) (x11 : m_gI g 218 R = nI (τ' 0 11)) : KD g R τ' := by
  have z0 := z 0 (by decide) (by decide) (by decide) (by decide) (by decide)
  have z1 := z 1 (by decide) (by decide) (by decide) (by decide) (by decide)
  have z2 := z 2 (by decide) (by decide) (by decide) (by decide) (by decide)
  have z6 := z 6 (by decide) (by decide) (by decide) (by decide) (by decide)
  have z7 := z 7 (by decide) (by decide) (by decide) (by decide) (by decide)
  have z8 := z 8 (by decide) (by decide) (by decide) (by decide) (by decide)
  have z9 := z 9 (by decide) (by decide) (by decide) (by decide) (by decide)
  refine ⟨⟨D.1.1, (e _ _ (by omega) (by omega)).trans D.1.2⟩, ⟨?_, ?_, ?_, x3, x4, x5, ?_⟩, ⟨?_, ?_, ?_, ?_, ?_, ?_, ?_, ?_⟩, ⟨?_, ?_, ?_, ?_⟩, ⟨?_, ?_, ?_⟩, ?_, x10, x11⟩
  · rw [z0]
    exact (e _ _ (by omega) (by omega)).trans D.2.1.1
  · rw [z1]
    exact (e _ _ (by omega) (by omega)).trans D.2.1.2.1
  · rw [z2]
    exact (e _ _ (by omega) (by omega)).trans D.2.1.2.2.1
  · rw [z6]
    exact (e _ _ (by omega) (by omega)).trans D.2.1.2.2.2.2.2.2
  · intro i hi
    rw [z0] at hi
    rw [r 1 i (by decide)]
    exact (e _ _ (by omega) (by omega)).trans (D.2.2.1.1 i hi)
  · intro i hi
    rw [z0] at hi
    rw [r 2 i (by decide)]
    exact (e _ _ (by omega) (by omega)).trans (D.2.2.1.2.1 i hi)
  · intro i hi
    rw [z1] at hi
    rw [r 3 i (by decide)]
    exact (e _ _ (by omega) (by omega)).trans (D.2.2.1.2.2.1 i hi)
  · intro i hi
    rw [z1] at hi
    rw [r 4 i (by decide)]
    exact (e _ _ (by omega) (by omega)).trans (D.2.2.1.2.2.2.1 i hi)
  · intro i hi
    rw [z1] at hi
    rw [r 5 i (by decide)]
    exact (e _ _ (by omega) (by omega)).trans (D.2.2.1.2.2.2.2.1 i hi)
  · intro i hi
    rw [z1] at hi
    rw [r 6 i (by decide)]
    exact (e _ _ (by omega) (by omega)).trans (D.2.2.1.2.2.2.2.2.1 i hi)
  · intro i hi
    rw [z2] at hi
    rw [r 7 i (by decide)]
    exact (e _ _ (by omega) (by omega)).trans (D.2.2.1.2.2.2.2.2.2.1 i hi)
  · intro i hi
    rw [z2] at hi
    rw [r 8 i (by decide)]
    exact (e _ _ (by omega) (by omega)).trans (D.2.2.1.2.2.2.2.2.2.2 i hi)
  · rw [z8]
    exact (e _ _ (by omega) (by omega)).trans D.2.2.2.1.1
  · rw [z9]
    exact (e _ _ (by omega) (by omega)).trans D.2.2.2.1.2.1
  · rw [z9]
    exact fun q => ⟨(e _ _ (by omega) (by omega)).trans (D.2.2.2.1.2.2.1 q).1, (e _ _ (by omega) (by omega)).trans (D.2.2.2.1.2.2.1 q).2⟩
  · intro i hi
    rw [z9] at hi
    rw [r 9 i (by decide), r 10 i (by decide)]
    exact ⟨(e _ _ (by omega) (by omega)).trans (D.2.2.2.1.2.2.2 i hi).1, (e _ _ (by omega) (by omega)).trans (D.2.2.2.1.2.2.2 i hi).2⟩
  · intro i hi
    rw [z0] at hi
    rw [r 11 i (by decide)]
    exact (eL _ _ (by omega)).trans (D.2.2.2.2.1.1 i hi)
  · intro i hi
    rw [z1] at hi
    rw [r 12 i (by decide)]
    exact (eL _ _ (by omega)).trans (D.2.2.2.2.1.2.1 i hi)
  · intro i hi
    rw [z2] at hi
    rw [r 13 i (by decide)]
    exact (eL _ _ (by omega)).trans (D.2.2.2.2.1.2.2 i hi)
  · rw [z7]
    exact (e _ _ (by omega) (by omega)).trans D.2.2.2.2.2.1
theorem k_foesM (H : KP h L V (.inr (nx V L s))) (D : KD h R τ) (w24 : isW V L s 24 = true) : ∃ g, FrL R h g ∧ KLr g R L V (liF V L s τ) ∧ ∀ (Q : QT) (l1 l2 : Option Value), wq X (d + 7) 198 103 [some (.ref 195), l1, l2] [] h Q = wq X (d + 7) 198 149 [some (.ref 195), l1, l2] [] g Q := by
  have hp : Ptr h := H.1.1.1
  have hR := D.1.1
  have hb := D.1.2
  have m2 : m_in (nI R) 2 = true := q_in hR (by decide)
  have cR : (nI R).toNatClampNeg = R := q_cl (by omega)
  have vn1 : vp_nar .boolean 1 = 1 := by decide
  have H1 := KP_sI (c := 217) (k := R) (v := 1) H (by decide)
  obtain ⟨g1, a1, a2, a3⟩ := k_numl (X := X) (d := d + 3) (m := 100) H1 (by decide)
  have ef : fP1 V L s = nuP V L 100 (.inr (nx V L s)) := by
    unfold fP1
    rw [show exW V L 24 (.inr s) = .inr (nx V L s) from if_pos w24]
  rw [← ef] at a2 a3
  have a4 := KP_sI (c := 202) (k := R) (v := nI (fP1 V L s).2) a2 (by decide)
  have hp1 : Ptr g1 := Ptr_of hp a1.1
  obtain ⟨g2, b1, b2, b3⟩ := k_afterP (X := X) (d := d + 2) (i := 25) (m := 999) (c := 1918986596) a4 (by decide) (by decide +kernel) (by decide)
  have b4 := KP_sI (c := 203) (k := R) (v := nI (fP2 V L s).2) b2 (by decide)
  have hp2 : Ptr g2 := Ptr_of hp1 b1.1
  have e41 : m_gI (m_sI g1 202 R (nI (fP1 V L s).2)) 195 41 = nI R := by
    rw [gI_sI, if_neg (by omega), a1.2.1 _ _ (by omega), gI_sI, if_neg (by omega)]
    exact hb
  refine ⟨m_sI g2 203 R (nI (fP2 V L s).2), FrL_tr (FrL_s (c := 217) (k := R) (v := 1) (by unfold exK; omega)) (FrL_tr (FrL_M a1) (FrL_tr (FrL_s (c := 202) (k := R) (v := nI (fP1 V L s).2) (by unfold exK; omega)) (FrL_tr (FrL_M b1) (FrL_s (c := 203) (k := R) (v := nI (fP2 V L s).2) (by unfold exK; omega))))), ?_, fun Q l1 l2 => ?_⟩
  · unfold liF
    change KP _ L V (fP2 V L s).1 at b4
    cases q : (fP2 V L s).1 with
    | inl e =>
      rw [q] at b4
      exact b4
    | inr s' =>
      rw [q] at b4
      have eI : ∀ c k, ¬ (c = 195 ∧ 4 ≤ k ∧ k ≤ 9) → ¬ ((c = 202 ∨ c = 203 ∨ c = 217) ∧ k = R) → m_gI (m_sI g2 203 R (nI (fP2 V L s).2)) c k = m_gI h c k := fun c k x y => by
        rw [gI_sI, if_neg (by omega), b1.2.1 c k x, gI_sI, if_neg (by omega), a1.2.1 c k x, gI_sI, if_neg (by omega)]
      refine ⟨b4, KD_up D (fun c k x y => eI c k x (by omega)) (fun c k x => ?_) (fun r j hr => if_neg hr) (fun j x3 x4 _ x10 _ => ?_) ?_ ?_ ?_ ?_ ?_⟩
      · rw [gL_sI, b1.2.2 _ _ (by omega), gL_sI, a1.2.2 _ _ (by omega), gL_sI]
      · show (if j = 3 then _ else if j = 4 then _ else if j = 10 then _ else τ 0 j) = τ 0 j
        rw [if_neg x3, if_neg x4, if_neg x10]
      · show _ = nI (fP1 V L s).2
        rw [gI_sI, if_neg (by omega), b1.2.1 _ _ (by omega), gI_sI, if_pos ⟨rfl, rfl⟩]
      · show _ = nI (fP2 V L s).2
        rw [gI_sI, if_pos ⟨rfl, rfl⟩]
      · exact (eI _ _ (by omega) (by omega)).trans D.2.1.2.2.2.2.2.1
      · show _ = nI 1
        rw [gI_sI, if_neg (by omega), b1.2.1 _ _ (by omega), gI_sI, if_neg (by omega), a1.2.1 _ _ (by omega), gI_sI, if_pos ⟨rfl, rfl⟩]
        rfl
      · exact (eI _ _ (by omega) (by omega)).trans D.2.2.2.2.2.2.2
  · have w1 : ∀ v, m_gI (m_sI h 217 R v) 195 41 = nI R := fun v => by
      rw [gI_sI, if_neg (by omega)]
      exact hb
    simp only [u198_103, u198_104, u198_107, u198_108, u198_111, u198_112z, u198_112b, u198_113, u198_114, u198_117, u198_118, u198_121, u198_122, u198_123, u198_125, eq_self, q_nl0, q_nlI, q_nlR, not_false_eq_true, q_nz0, q_nz1, q_zv0, q_zv1, q_tl1, q_tl0, q_wif, q_swc, q_swn, List.cons_append, List.nil_append, if_true, if_false, e10, e01, Bool.false_eq_true, sh_195, sh_217, p_195_30 hp, p_195_15 hp, hb, m2, cR, vn1, gR_sI, w1]
    refine (a3 _).trans ?_
    simp only [u198_128, u198_129, u198_130, u198_133, u198_134, u198_137, u198_138, u198_141, u198_142, u198_145, eq_self, q_nl0, q_nlI, q_nlR, not_false_eq_true, q_nz0, q_nz1, q_zv0, q_zv1, q_tl1, q_tl0, q_wif, q_swc, q_swn, List.cons_append, List.nil_append, if_true, if_false, e10, e01, Bool.false_eq_true, sh_195, sh_202, p_195_16 hp1, m2, cR, gR_sI, e41]
    refine (b3 _).trans ?_
    change wq X (d + 7) 198 148 _ [.int (nI (fP2 V L s).2), _, _] _ Q = _
    simp only [u198_148, eq_self, q_nl0, q_nlI, q_nlR, not_false_eq_true, q_nz0, q_nz1, q_zv0, q_zv1, q_tl1, q_tl0, q_wif, q_swc, q_swn, List.cons_append, List.nil_append, if_true, if_false, e10, e01, Bool.false_eq_true, sh_195, sh_203, m2, cR]
theorem k_drawM (H : KP h L V (.inr (nx V L s))) (D : KD h R τ) (w26 : isW V L s 26 = true) : ∃ g, FrL R h g ∧ KLr g R L V (liW V L s τ) ∧ ∀ (Q : QT) (l1 l2 : Option Value), wq X (d + 7) 198 157 [some (.ref 195), l1, l2] [] h Q = wq X (d + 7) 198 184 [some (.ref 195), l1, l2] [] g Q := by
  have hp : Ptr h := H.1.1.1
  have hR := D.1.1
  have hb := D.1.2
  have m2 : m_in (nI R) 2 = true := q_in hR (by decide)
  have cR : (nI R).toNatClampNeg = R := q_cl (by omega)
  have vn1 : vp_nar .boolean 1 = 1 := by decide
  have H1 := KP_sI (c := 218) (k := R) (v := 1) H (by decide)
  obtain ⟨g1, a1, a2, a3⟩ := k_numl (X := X) (d := d + 3) (m := 999) H1 (by decide)
  unfold liW
  rw [show exW V L 26 (.inr s) = .inr (nx V L s) from if_pos w26]
  have a4 := KP_sI (c := 204) (k := R) (v := nI (nuP V L 999 (.inr (nx V L s))).2) a2 (by decide)
  refine ⟨m_sI g1 204 R (nI (nuP V L 999 (.inr (nx V L s))).2), FrL_tr (FrL_s (c := 218) (k := R) (v := 1) (by unfold exK; omega)) (FrL_tr (FrL_M a1) (FrL_s (c := 204) (k := R) (v := nI (nuP V L 999 (.inr (nx V L s))).2) (by unfold exK; omega))), ?_, fun Q l1 l2 => ?_⟩
  · cases q : (nuP V L 999 (.inr (nx V L s))).1 with
    | inl e =>
      rw [q] at a4
      exact a4
    | inr s' =>
      rw [q] at a4
      have eI : ∀ c k, ¬ (c = 195 ∧ 4 ≤ k ∧ k ≤ 9) → ¬ ((c = 204 ∨ c = 218) ∧ k = R) → m_gI (m_sI g1 204 R (nI (nuP V L 999 (.inr (nx V L s))).2)) c k = m_gI h c k := fun c k x y => by
        rw [gI_sI, if_neg (by omega), a1.2.1 c k x, gI_sI, if_neg (by omega)]
      refine ⟨a4, KD_up D (fun c k x y => eI c k x (by omega)) (fun c k x => ?_) (fun r j hr => if_neg hr) (fun j _ _ x5 _ x11 => ?_) ?_ ?_ ?_ ?_ ?_⟩
      · rw [gL_sI, a1.2.2 _ _ (by omega), gL_sI]
      · show (if j = 5 then _ else if j = 11 then _ else τ 0 j) = τ 0 j
        rw [if_neg x5, if_neg x11]
      · exact (eI _ _ (by omega) (by omega)).trans D.2.1.2.2.2.1
      · exact (eI _ _ (by omega) (by omega)).trans D.2.1.2.2.2.2.1
      · show _ = nI (nuP V L 999 (.inr (nx V L s))).2
        rw [gI_sI, if_pos ⟨rfl, rfl⟩]
      · exact (eI _ _ (by omega) (by omega)).trans D.2.2.2.2.2.2.1
      · show _ = nI 1
        rw [gI_sI, if_neg (by omega), a1.2.1 _ _ (by omega), gI_sI, if_pos ⟨rfl, rfl⟩]
        rfl
  · have w1 : ∀ v, m_gI (m_sI h 218 R v) 195 41 = nI R := fun v => by
      rw [gI_sI, if_neg (by omega)]
      exact hb
    simp only [u198_157, u198_158, u198_161, u198_162, u198_165, u198_166z, u198_166b, u198_167, u198_168, u198_171, u198_172, u198_175, u198_176, u198_177, u198_180, eq_self, q_nl0, q_nlI, q_nlR, not_false_eq_true, q_nz0, q_nz1, q_zv0, q_zv1, q_tl1, q_tl0, q_wif, q_swc, q_swn, List.cons_append, List.nil_append, if_true, if_false, e10, e01, Bool.false_eq_true, sh_195, sh_218, p_195_31 hp, p_195_17 hp, hb, m2, cR, vn1, gR_sI, w1]
    refine (a3 _).trans ?_
    simp only [u198_183, eq_self, q_nl0, q_nlI, q_nlR, not_false_eq_true, q_nz0, q_nz1, q_zv0, q_zv1, q_tl1, q_tl0, q_wif, q_swc, q_swn, List.cons_append, List.nil_append, if_true, if_false, e10, e01, Bool.false_eq_true, sh_195, sh_204, m2, cR]
theorem k_line (H : KP h L V (.inr s)) (D : KD h R τ) (O : lOk τ) (hv : ∀ i, i < L → V i < 256) : ∃ g, FrL R h g ∧ KLr g R L V (exL V L 59 (liX V L s τ)) ∧ ∀ Q : QT, wq X (d + 7) 198 0 [some (.ref 195), none, none] [] h Q = Q none g := by
  have hp : Ptr h := H.1.1.1
  have kt : TkK h L V s := H.1
  have n10 : ¬ ((1 : Int32) = 0) := by decide
  have e3 : (nI (mK V L s) = 3) = (mK V L s = 3) := nI_eqB (b := 3) (by have := mK_5 (V := V) (L := L) (s := s); omega) (by decide)
  have kf := fun (Q : QT) => k_isFull (X := X) (d := d + 5) H D O Q
  have bad : liX V L s τ = .inl (kdO V L s 2, s) → (¬ mK V L s = 3 ∨ fullB V L s τ = true) → ∃ g, FrL R h g ∧ KLr g R L V (exL V L 59 (liX V L s τ)) ∧ ∀ Q : QT, wq X (d + 7) 198 0 [some (.ref 195), none, none] [] h Q = Q none g := fun e o => by
    obtain ⟨b1, b2⟩ := KP_mis (L := L) (s := s) (h := h) (V := V) (k := 2) (by decide) kt
    rw [e]
    refine ⟨_, FrL_M b1, b2, fun Q => ?_⟩
    by_cases m : mK V L s = 3
    · rcases o with o | o
      · exact absurd m o
      · simp only [u198_0, u198_1, u198_4, u198_5, u198_6, u198_9, u198_10, u198_13, u198_14, u198_17, u198_20, u198_21, u198_24, u198_25, u198_28, u198_31, eq_self, q_nl0, q_nlI, q_nlR, not_false_eq_true, q_nz0, q_nz1, q_zv0, q_zv1, q_tl1, q_tl0, q_wif, q_swc, q_swn, List.cons_append, List.nil_append, if_true, if_false, e10, e01, Bool.false_eq_true, sh_195, kt.2.2.2.2.1, e3, eq_true m, kf, o, n10, k_misp (d := d + 5) kt H.2, k_ngood b2, Option.toList]
    · simp only [u198_0, u198_1, u198_4, u198_5, u198_6, u198_9, u198_10, u198_13, u198_14, u198_17, u198_20, u198_21, u198_24, u198_25, u198_28, u198_31, eq_self, q_nl0, q_nlI, q_nlR, not_false_eq_true, q_nz0, q_nz1, q_zv0, q_zv1, q_tl1, q_tl0, q_wif, q_swc, q_swn, List.cons_append, List.nil_append, if_true, if_false, e10, e01, Bool.false_eq_true, sh_195, kt.2.2.2.2.1, e3, eq_false m, k_misp (d := d + 5) kt H.2, k_ngood b2, Option.toList]
  obtain ⟨g1, a1, a2, a3⟩ := k_avP (X := X) (d := d + 4) H
  have D1 := KD_M a1 D
  have hp1 : Ptr g1 := Ptr_of hp a1.1
  -- the way in
  have go : mK V L s = 3 → fullB V L s τ = false → ∀ Q : QT, wq X (d + 7) 198 0 [some (.ref 195), none, none] [] h Q = wq X (d + 7) 198 36 [some (.ref 195), some (.long (m_gL h 195 10)), none] [] g1 Q := fun m o Q => by
    simp only [u198_0, u198_1, u198_4, u198_5, u198_6, u198_9, u198_10, u198_13, u198_14, u198_17, u198_20, u198_21, u198_24, u198_25, u198_28, u198_31, u198_32, u198_33, eq_self, q_nl0, q_nlI, q_nlR, not_false_eq_true, q_nz0, q_nz1, q_zv0, q_zv1, q_tl1, q_tl0, q_wif, q_swc, q_swn, List.cons_append, List.nil_append, if_true, if_false, e10, e01, Bool.false_eq_true, sh_195, kt.2.2.2.2.1, e3, eq_true m, kf, o, k_good H.2, n10, Option.toList]
    refine (a3 _).trans ?_
    rfl
  -- the way out
  have out : ∀ (r : RL) (g : HT), FrL R g1 g → KLr g R L V r → ∃ g', FrL R h g' ∧ KLr g' R L V (exL V L 59 r) ∧ ∀ (Q : QT) (l1 l2 : Option Value), wq X (d + 7) 198 184 [some (.ref 195), l1, l2] [] g Q = Q none g' := fun r g f K => by
    obtain ⟨g', b1, b2, v, b3, b4⟩ := k_semi (X := X) (d := d + 3) K (Ptr_of hp1 f.1)
    refine ⟨g', FrL_tr (FrL_M a1) (FrL_tr f (FrL_M b1)), b2, fun Q l1 l2 => ?_⟩
    simp only [u198_184, u198_185, u198_186, u198_188, eq_self, q_nl0, q_nlI, q_nlR, not_false_eq_true, q_nz0, q_nz1, q_zv0, q_zv1, q_tl1, q_tl0, q_wif, q_swc, q_swn, List.cons_append, List.nil_append, if_true, if_false, e10, e01, Bool.false_eq_true, sh_195]
    refine (b3 _).trans ?_
    simp only [u198_191, eq_self, q_nl0, q_nlI, q_nlR, not_false_eq_true, q_nz0, q_nz1, q_zv0, q_zv1, q_tl1, q_tl0, q_wif, q_swc, q_swn, List.cons_append, List.nil_append, if_true, if_false, e10, e01, Bool.false_eq_true, sh_195]
    refine (b4 _).trans ?_
    simp only [u198_194, eq_self, q_nl0, q_nlI, q_nlR, not_false_eq_true, q_nz0, q_nz1, q_zv0, q_zv1, q_tl1, q_tl0, q_wif, q_swc, q_swn, List.cons_append, List.nil_append, if_true, if_false, e10, e01, Bool.false_eq_true]
  have k1 := fun k => k_what (i := 1) (c := 427120748148) kt (by decide) (by decide +kernel) k
  have k5 := fun k => k_what (i := 5) (c := 7168366) kt (by decide) (by decide +kernel) k
  have k11 := fun k => k_what (i := 11) (c := 110386789576292) kt (by decide) (by decide +kernel) k
  have k14 := fun k => k_what (i := 14) (c := 1650549611) kt (by decide) (by decide +kernel) k
  have k24 := fun k => k_what (i := 24) (c := 1718576499) kt (by decide) (by decide +kernel) k
  have k26 := fun k => k_what (i := 26) (c := 1685217655) kt (by decide) (by decide +kernel) k
  have t1 : ∀ i, isW V L s i = true → tK V L s = 1 := fun i w => (of_decide_eq_true w).1
  have tx : ∀ i, i ∈ wIx → ∀ j, j ∈ wIx → i ≠ j → txW i ≠ txW j := by decide +kernel
  have x := fun i j (hi : i ∈ wIx) (hj : j ∈ wIx) (n : i ≠ j) (w : isW V L s i = true) => isW_x (j := j) w (tx i hi j hj n)
  generalize m_gL h 195 10 = wv at go k1 k5 k11 k14 k24 k26
  by_cases z1 : isW V L s 1 = true
  · have k := t1 _ z1
    have y5 := x 1 5 (by decide) (by decide) (by decide) z1
    have y11 := x 1 11 (by decide) (by decide) (by decide) z1
    have y14 := x 1 14 (by decide) (by decide) (by decide) z1
    have y24 := x 1 24 (by decide) (by decide) (by decide) z1
    have y26 := x 1 26 (by decide) (by decide) (by decide) z1
    have el : liX V L s τ = liC V L s τ := if_pos z1
    have ef : fullB V L s τ = decide (τ 0 0 = 4) := if_pos z1
    have p0 := O.1.1
    by_cases f : τ 0 0 = 4
    · exact bad (el.trans (if_pos (by omega))) (Or.inr (by rw [ef]; exact decide_eq_true f))
    · obtain ⟨g2, b1, b2, b3⟩ := k_readCraft (X := X) (d := d + 1) a2 D1 O.2.1 (by omega)
      obtain ⟨g3, c1, c2, c3⟩ := out _ g2 b1 b2
      rw [el]
      refine ⟨g3, c1, c2, fun Q => (go (isW_3 z1 (by decide)) (by rw [ef]; exact decide_eq_false f) Q).trans ?_⟩
      simp only [u198_36, u198_37, u198_40, u198_41, u198_44, u198_45, eq_self, q_nl0, q_nlI, q_nlR, not_false_eq_true, q_nz0, q_nz1, q_zv0, q_zv1, q_tl1, q_tl0, q_wif, q_swc, q_swn, List.cons_append, List.nil_append, if_true, if_false, e10, e01, Bool.false_eq_true, sh_195, lg_z, k1 k, z1]
      refine (b3 _).trans ?_
      simp only [u198_48, u198_49, u198_52, u198_53, u198_56, u198_57, u198_60, u198_61, u198_64, u198_65, u198_68, u198_69, u198_72, u198_73, u198_76, u198_77, u198_80, u198_81, u198_84, u198_85, u198_88, u198_89z, u198_89b, u198_90, u198_91, u198_92, u198_95, u198_96, u198_99, u198_100, u198_103, u198_104, u198_107, u198_108, u198_111, u198_112z, u198_112b, u198_113, u198_114, u198_117, u198_118, u198_121, u198_122, u198_123, u198_125, u198_128, u198_129, u198_130, u198_133, u198_134, u198_137, u198_138, u198_141, u198_142, u198_145, u198_148, u198_149, u198_150, u198_153, u198_154, eq_self, q_nl0, q_nlI, q_nlR, not_false_eq_true, q_nz0, q_nz1, q_zv0, q_zv1, q_tl1, q_tl0, q_wif, q_swc, q_swn, List.cons_append, List.nil_append, if_true, if_false, e10, e01, Bool.false_eq_true, lg_z, k5 k, y5, k11 k, y11, k14 k, y14, k24 k, y24, k26 k, y26]
      exact c3 Q _ _
  · by_cases z5 : isW V L s 5 = true
    · have k := t1 _ z5
      have y1 := x 5 1 (by decide) (by decide) (by decide) z5
      have y11 := x 5 11 (by decide) (by decide) (by decide) z5
      have y14 := x 5 14 (by decide) (by decide) (by decide) z5
      have y24 := x 5 24 (by decide) (by decide) (by decide) z5
      have y26 := x 5 26 (by decide) (by decide) (by decide) z5
      have el : liX V L s τ = liM V L s τ := (if_neg z1).trans (if_pos z5)
      have ef : fullB V L s τ = decide (τ 0 1 = 7) := (if_neg z1).trans (if_pos z5)
      have p0 := O.1.2.1
      by_cases f : τ 0 1 = 7
      · exact bad (el.trans (if_pos (by omega))) (Or.inr (by rw [ef]; exact decide_eq_true f))
      · obtain ⟨g2, b1, b2, b3⟩ := k_readMan (X := X) (d := d + 1) a2 D1 O.2.1 O.1.1 (by omega)
        obtain ⟨g3, c1, c2, c3⟩ := out _ g2 b1 b2
        rw [el]
        refine ⟨g3, c1, c2, fun Q => (go (isW_3 z5 (by decide)) (by rw [ef]; exact decide_eq_false f) Q).trans ?_⟩
        simp only [u198_36, u198_37, u198_40, u198_41, u198_44, u198_45, u198_48, u198_49, u198_52, u198_53, u198_56, u198_57, eq_self, q_nl0, q_nlI, q_nlR, not_false_eq_true, q_nz0, q_nz1, q_zv0, q_zv1, q_tl1, q_tl0, q_wif, q_swc, q_swn, List.cons_append, List.nil_append, if_true, if_false, e10, e01, Bool.false_eq_true, sh_195, lg_z, k1 k, y1, k5 k, z5]
        refine (b3 _).trans ?_
        simp only [u198_60, u198_61, u198_64, u198_65, u198_68, u198_69, u198_72, u198_73, u198_76, u198_77, u198_80, u198_81, u198_84, u198_85, u198_88, u198_89z, u198_89b, u198_90, u198_91, u198_92, u198_95, u198_96, u198_99, u198_100, u198_103, u198_104, u198_107, u198_108, u198_111, u198_112z, u198_112b, u198_113, u198_114, u198_117, u198_118, u198_121, u198_122, u198_123, u198_125, u198_128, u198_129, u198_130, u198_133, u198_134, u198_137, u198_138, u198_141, u198_142, u198_145, u198_148, u198_149, u198_150, u198_153, u198_154, eq_self, q_nl0, q_nlI, q_nlR, not_false_eq_true, q_nz0, q_nz1, q_zv0, q_zv1, q_tl1, q_tl0, q_wif, q_swc, q_swn, List.cons_append, List.nil_append, if_true, if_false, e10, e01, Bool.false_eq_true, lg_z, k11 k, y11, k14 k, y14, k24 k, y24, k26 k, y26]
        exact c3 Q _ _
    · by_cases z11 : isW V L s 11 = true
      · have k := t1 _ z11
        have y1 := x 11 1 (by decide) (by decide) (by decide) z11
        have y5 := x 11 5 (by decide) (by decide) (by decide) z11
        have y14 := x 11 14 (by decide) (by decide) (by decide) z11
        have y24 := x 11 24 (by decide) (by decide) (by decide) z11
        have y26 := x 11 26 (by decide) (by decide) (by decide) z11
        have el : liX V L s τ = liD V L s τ := (if_neg z1).trans ((if_neg z5).trans (if_pos z11))
        have ef : fullB V L s τ = decide (τ 0 2 = 5) := (if_neg z1).trans ((if_neg z5).trans (if_pos z11))
        have p0 := O.1.2.2.1
        by_cases f : τ 0 2 = 5
        · exact bad (el.trans (if_pos (by omega))) (Or.inr (by rw [ef]; exact decide_eq_true f))
        · obtain ⟨g2, b1, b2, b3⟩ := k_readDemand (X := X) (d := d + 1) a2 D1 O.2.1 (by omega)
          obtain ⟨g3, c1, c2, c3⟩ := out _ g2 b1 b2
          rw [el]
          refine ⟨g3, c1, c2, fun Q => (go (isW_3 z11 (by decide)) (by rw [ef]; exact decide_eq_false f) Q).trans ?_⟩
          simp only [u198_36, u198_37, u198_40, u198_41, u198_44, u198_45, u198_48, u198_49, u198_52, u198_53, u198_56, u198_57, u198_60, u198_61, u198_64, u198_65, u198_68, u198_69, eq_self, q_nl0, q_nlI, q_nlR, not_false_eq_true, q_nz0, q_nz1, q_zv0, q_zv1, q_tl1, q_tl0, q_wif, q_swc, q_swn, List.cons_append, List.nil_append, if_true, if_false, e10, e01, Bool.false_eq_true, sh_195, lg_z, k1 k, y1, k5 k, y5, k11 k, z11]
          refine (b3 _).trans ?_
          simp only [u198_72, u198_73, u198_76, u198_77, u198_80, u198_81, u198_84, u198_85, u198_88, u198_89z, u198_89b, u198_90, u198_91, u198_92, u198_95, u198_96, u198_99, u198_100, u198_103, u198_104, u198_107, u198_108, u198_111, u198_112z, u198_112b, u198_113, u198_114, u198_117, u198_118, u198_121, u198_122, u198_123, u198_125, u198_128, u198_129, u198_130, u198_133, u198_134, u198_137, u198_138, u198_141, u198_142, u198_145, u198_148, u198_149, u198_150, u198_153, u198_154, eq_self, q_nl0, q_nlI, q_nlR, not_false_eq_true, q_nz0, q_nz1, q_zv0, q_zv1, q_tl1, q_tl0, q_wif, q_swc, q_swn, List.cons_append, List.nil_append, if_true, if_false, e10, e01, Bool.false_eq_true, lg_z, k14 k, y14, k24 k, y24, k26 k, y26]
          exact c3 Q _ _
      · have eF : fullB V L s τ = if isW V L s 14 = true then decide (τ 0 7 = 1) else if isW V L s 24 = true then decide (τ 0 10 = 1) else if isW V L s 26 = true then decide (τ 0 11 = 1) else true := (if_neg z1).trans ((if_neg z5).trans (if_neg z11))
        have eX : liX V L s τ = if isW V L s 14 = true ∧ τ 0 7 = 0 then liB V L s τ else if isW V L s 24 = true ∧ τ 0 10 = 0 then liF V L s τ else if isW V L s 26 = true ∧ τ 0 11 = 0 then liW V L s τ else .inl (kdO V L s 2, s) := (if_neg z1).trans ((if_neg z5).trans (if_neg z11))
        have o1 := O.2.2.1
        by_cases z14 : isW V L s 14 = true
        · have k := t1 _ z14
          have y24 := x 14 24 (by decide) (by decide) (by decide) z14
          have y26 := x 14 26 (by decide) (by decide) (by decide) z14
          rw [if_pos z14] at eF
          by_cases f : τ 0 7 = 0
          · have el : liX V L s τ = liB V L s τ := eX.trans (if_pos ⟨z14, f⟩)
            obtain ⟨g2, b1, b2, b3⟩ := k_backM (X := X) (d := d) a2 D1 O f hv
            obtain ⟨g3, c1, c2, c3⟩ := out _ g2 b1 b2
            rw [el, ← liB_m]
            refine ⟨g3, c1, c2, fun Q => (go (isW_3 z14 (by decide)) (by rw [eF]; exact decide_eq_false (by omega)) Q).trans ?_⟩
            simp only [u198_36, u198_37, u198_40, u198_41, u198_44, u198_45, u198_48, u198_49, u198_52, u198_53, u198_56, u198_57, u198_60, u198_61, u198_64, u198_65, u198_68, u198_69, u198_72, u198_73, u198_76, u198_77, eq_self, q_nl0, q_nlI, q_nlR, not_false_eq_true, q_nz0, q_nz1, q_zv0, q_zv1, q_tl1, q_tl0, q_wif, q_swc, q_swn, List.cons_append, List.nil_append, if_true, if_false, e10, e01, Bool.false_eq_true, sh_195, lg_z, k1 k, z1, k5 k, z5, k11 k, z11, k14 k, z14]
            refine (b3 _ _ _).trans ?_
            simp only [u198_95, u198_96, u198_99, u198_100, u198_103, u198_104, u198_107, u198_108, u198_111, u198_112z, u198_112b, u198_113, u198_114, u198_117, u198_118, u198_121, u198_122, u198_123, u198_125, u198_128, u198_129, u198_130, u198_133, u198_134, u198_137, u198_138, u198_141, u198_142, u198_145, u198_148, u198_149, u198_150, u198_153, u198_154, eq_self, q_nl0, q_nlI, q_nlR, not_false_eq_true, q_nz0, q_nz1, q_zv0, q_zv1, q_tl1, q_tl0, q_wif, q_swc, q_swn, List.cons_append, List.nil_append, if_true, if_false, e10, e01, Bool.false_eq_true, lg_z, k24 k, y24, k26 k, y26]
            exact c3 Q _ _
          · refine bad ?_ (Or.inr (by rw [eF]; exact decide_eq_true (by omega)))
            rw [eX, if_neg (fun q => f q.2), if_neg (fun q => y24 q.1), if_neg (fun q => y26 q.1)]
        · rw [if_neg z14] at eF
          rw [if_neg (fun q => z14 q.1)] at eX
          by_cases z24 : isW V L s 24 = true
          · have k := t1 _ z24
            have y26 := x 24 26 (by decide) (by decide) (by decide) z24
            rw [if_pos z24] at eF
            by_cases f : τ 0 10 = 0
            · have el : liX V L s τ = liF V L s τ := eX.trans (if_pos ⟨z24, f⟩)
              obtain ⟨g2, b1, b2, b3⟩ := k_foesM (X := X) (d := d) a2 D1 z24
              obtain ⟨g3, c1, c2, c3⟩ := out _ g2 b1 b2
              rw [el]
              refine ⟨g3, c1, c2, fun Q => (go (isW_3 z24 (by decide)) (by rw [eF]; exact decide_eq_false (by omega)) Q).trans ?_⟩
              simp only [u198_36, u198_37, u198_40, u198_41, u198_44, u198_45, u198_48, u198_49, u198_52, u198_53, u198_56, u198_57, u198_60, u198_61, u198_64, u198_65, u198_68, u198_69, u198_72, u198_73, u198_76, u198_77, u198_95, u198_96, u198_99, u198_100, eq_self, q_nl0, q_nlI, q_nlR, not_false_eq_true, q_nz0, q_nz1, q_zv0, q_zv1, q_tl1, q_tl0, q_wif, q_swc, q_swn, List.cons_append, List.nil_append, if_true, if_false, e10, e01, Bool.false_eq_true, sh_195, lg_z, k1 k, z1, k5 k, z5, k11 k, z11, k14 k, z14, k24 k, z24]
              refine (b3 _ _ _).trans ?_
              simp only [u198_149, u198_150, u198_153, u198_154, eq_self, q_nl0, q_nlI, q_nlR, not_false_eq_true, q_nz0, q_nz1, q_zv0, q_zv1, q_tl1, q_tl0, q_wif, q_swc, q_swn, List.cons_append, List.nil_append, if_true, if_false, e10, e01, Bool.false_eq_true, lg_z, k26 k, y26]
              exact c3 Q _ _
            · refine bad ?_ (Or.inr (by rw [eF]; exact decide_eq_true (by omega)))
              rw [eX, if_neg (fun q => f q.2), if_neg (fun q => y26 q.1)]
          · rw [if_neg z24] at eF
            rw [if_neg (fun q => z24 q.1)] at eX
            by_cases z26 : isW V L s 26 = true
            · have k := t1 _ z26
              rw [if_pos z26] at eF
              by_cases f : τ 0 11 = 0
              · have el : liX V L s τ = liW V L s τ := eX.trans (if_pos ⟨z26, f⟩)
                obtain ⟨g2, b1, b2, b3⟩ := k_drawM (X := X) (d := d) a2 D1 z26
                obtain ⟨g3, c1, c2, c3⟩ := out _ g2 b1 b2
                rw [el]
                refine ⟨g3, c1, c2, fun Q => (go (isW_3 z26 (by decide)) (by rw [eF]; exact decide_eq_false (by omega)) Q).trans ?_⟩
                simp only [u198_36, u198_37, u198_40, u198_41, u198_44, u198_45, u198_48, u198_49, u198_52, u198_53, u198_56, u198_57, u198_60, u198_61, u198_64, u198_65, u198_68, u198_69, u198_72, u198_73, u198_76, u198_77, u198_95, u198_96, u198_99, u198_100, u198_149, u198_150, u198_153, u198_154, eq_self, q_nl0, q_nlI, q_nlR, not_false_eq_true, q_nz0, q_nz1, q_zv0, q_zv1, q_tl1, q_tl0, q_wif, q_swc, q_swn, List.cons_append, List.nil_append, if_true, if_false, e10, e01, Bool.false_eq_true, sh_195, lg_z, k1 k, z1, k5 k, z5, k11 k, z11, k14 k, z14, k24 k, z24, k26 k, z26]
                exact (b3 _ _ _).trans (c3 Q _ _)
              · refine bad ?_ (Or.inr (by rw [eF]; exact decide_eq_true (by omega)))
                rw [eX, if_neg (fun q => f q.2)]
            · rw [if_neg z26] at eF
              rw [if_neg (fun q => z26 q.1)] at eX
              exact bad eX (Or.inr eF)
end MREAD
