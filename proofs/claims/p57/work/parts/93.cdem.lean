/-! THE CLASS'S LINE OF A DEMAND -/
theorem c_readDemand {X : XT} {d C L s : Nat} {h : HT} {V : Nat → Nat} {τ : CT} (H : CP h C L V (.inr s)) (D : CD h C τ) (A : nmA τ) (h5 : τ 0 2 ≤ 5) : ∃ g, FrC C h g ∧ CLr g C L V (liD V L s τ) ∧ ∀ Q : QT, wq X (d + 7) 62 0 [some (.ref 4), none] [] h Q = Q none g := by
  have hp := (CP_p H).1
  have hu := H.2.1.1
  have hU := H.2.1.2
  have hC : C = 5 ∨ C = 23 := hU
  have n0 := D.1.2.2.1
  have c0 : (nI (τ 0 2) < 0) = False := eq_false (nI_nlt (b := 0) (Nat.zero_le _) (by omega))
  have c1 : (nI (τ 0 2) < 5) = (τ 0 2 < 5) := nI_ltB (b := 5) (by omega) (by decide)
  by_cases full : 5 ≤ τ 0 2
  · obtain ⟨g, a1, a2, a3⟩ := c_refP (X := X) (d := d + 6) (k := 2) H (by decide)
    rw [show liD V L s τ = .inl (kdO V L s 2, s) from if_pos full]
    refine ⟨g, FrC_P a1, a2, fun Q => ?_⟩
    simp only [u62_0, u62_1, u62_4, u62_7, u62_8, u62_9, u62_12, u62_13, u62_14, u62_17, u62_18, u62_19, u62_22, u62_23, u62_24, u62_27, u62_30, u62_31, u62_34, u62_35, u62_36, u62_37, u62_40, u62_41, u62_44, u62_45, u62_46, u62_49, u62_52, u62_53, u62_54, u62_56, u62_59, u62_62, u62_63, u62_64, u62_67, u62_70, u62_71, u62_72, u62_74, u62_76, u62_79, u62_80, u62_81, u62_84, u62_85, u62_88, u62_89, u62_90, u62_93, eq_self, q_nl0, q_nlI, q_nlR, not_false_eq_true, q_nz0, q_nz1, q_zv0, q_zv1, q_tl1, q_tl0, q_wif, q_swc, q_swn, List.cons_append, List.nil_append, if_true, if_false, e10, e01, Bool.false_eq_true, sh_4, shT_0 hU, hu, n0, c0, c1, eq_false (show ¬ τ 0 2 < 5 by omega)]
    refine (a3 _).trans ?_
    simp only [u62_22, eq_self, q_nl0, q_nlI, q_nlR, not_false_eq_true, q_nz0, q_nz1, q_zv0, q_zv1, q_tl1, q_tl0, q_wif, q_swc, q_swn, List.cons_append, List.nil_append, if_true, if_false, e10, e01, Bool.false_eq_true]
  · have f1 : τ 0 2 < 5 := by omega
    have i4 : m_in (nI (τ 0 2)) 5 = true := q_in f1 (by decide)
    have cl : (nI (τ 0 2)).toNatClampNeg = τ 0 2 := q_cl (by omega)
    obtain ⟨g1, a1, a2, a3⟩ := c_avP (X := X) (d := d + 2) H
    have hp1 := (CP_p a2).1
    obtain ⟨g2, b1, b2, b3⟩ := c_newName (X := X) (d := d + 1) (ν := τ 13) (n := τ 0 2) a2 sh_22 (by decide) h5 (nmA_d A) (fun i hi => (a1.2.2 22 i (by decide)).trans (D.2.2.2.1.2.2 i hi))
    have b4 := CP_sL (c := 22) (k := τ 0 2) (v := m_gL g1 2 5) b2 (by decide)
    have hp2 := (CP_p b4).1
    have hu2 := (CP_p b4).2.1
    obtain ⟨g3, c1', c2, c3⟩ := c_numB (X := X) (d := d) (i := 12) (m := 999) (r0 := 10022) b4 rfl (by decide) (by decide)
    have c4 := CP_sI (c := C + 8) (k := τ 0 2) (v := nI (dP1 V L s τ).2) c2 (by omega)
    have hp3 := (CP_p c4).1
    have hu3 := (CP_p c4).2.1
    obtain ⟨g4, d1, d2, d3⟩ := c_numB (X := X) (d := d) (i := 13) (m := 99) (r0 := 10023) c4 rfl (by decide) (by decide)
    have d4 := CP_sI (c := C + 9) (k := τ 0 2) (v := nI (dP2 V L s τ).2) d2 (by omega)
    have hp4 := (CP_p d4).1
    have hu4 := (CP_p d4).2.1
    -- what is where, in the end
    have eI : ∀ c k, (c ≠ 2 ∨ k = 1) → (c ≠ 4 ∨ k ≠ 2 ∧ k ≠ 3) → ¬ (c = C ∧ k = 10) → ¬ (c = C + 8 ∧ k = τ 0 2) → ¬ (c = C + 9 ∧ k = τ 0 2) → m_gI (m_sI (m_sI g4 (C + 9) (τ 0 2) (nI (dP2 V L s τ).2)) C 10 (nI (τ 0 2 + 1))) c k = m_gI h c k := fun c k x y z w u => by
      rw [gI_sI, if_neg z, gI_sI, if_neg u, d1.2.1 c k x y, gI_sI, if_neg w, c1'.2.1 c k x y, gI_sL, b1.2.1 c k x y, a1.2.1 c k x y]
    have eL : ∀ c k, c ≠ 2 → ¬ (c = 22 ∧ k = τ 0 2) → m_gL (m_sI (m_sI g4 (C + 9) (τ 0 2) (nI (dP2 V L s τ).2)) C 10 (nI (τ 0 2 + 1))) c k = m_gL h c k := fun c k x y => by
      rw [gL_sI, gL_sI, d1.2.2 c k x, gL_sI, c1'.2.2 c k x, gL_sL, if_neg y, b1.2.2 c k x, a1.2.2 c k x]
    have eN : m_gL (m_sI (m_sI g4 (C + 9) (τ 0 2) (nI (dP2 V L s τ).2)) C 10 (nI (τ 0 2 + 1))) 22 (τ 0 2) = m_gL g1 2 5 := by
      rw [gL_sI, gL_sI, d1.2.2 22 _ (by decide), gL_sI, c1'.2.2 22 _ (by decide), gL_sL, if_pos ⟨rfl, rfl⟩]
    have e1 : m_gI (m_sI (m_sI g4 (C + 9) (τ 0 2) (nI (dP2 V L s τ).2)) C 10 (nI (τ 0 2 + 1))) (C + 8) (τ 0 2) = nI (dP1 V L s τ).2 := by
      rw [gI_sI, if_neg (by omega), gI_sI, if_neg (by omega), d1.2.1 _ _ (by omega) (by omega), gI_sI, if_pos ⟨rfl, rfl⟩]
    have e2 : m_gI (m_sI (m_sI g4 (C + 9) (τ 0 2) (nI (dP2 V L s τ).2)) C 10 (nI (τ 0 2 + 1))) (C + 9) (τ 0 2) = nI (dP2 V L s τ).2 := by
      rw [gI_sI, if_neg (by omega), gI_sI, if_pos ⟨rfl, rfl⟩]
    have n4 : m_gI (m_sI g4 (C + 9) (τ 0 2) (nI (dP2 V L s τ).2)) C 10 = nI (τ 0 2) := by
      rw [gI_sI, if_neg (by omega), d1.2.1 _ _ (by omega) (by omega), gI_sI, if_neg (by omega), c1'.2.1 _ _ (by omega) (by omega), gI_sL, b1.2.1 _ _ (by omega) (by omega), a1.2.1 _ _ (by omega) (by omega)]
      exact n0
    have d5 := CP_sI (c := C) (k := 10) (v := nI (τ 0 2 + 1)) d4 (by omega)
    refine ⟨_, FrC_tr (FrC_P a1) (FrC_tr (FrC_P b1) (FrC_tr (FrC_l (c := 22) (k := τ 0 2) (v := m_gL g1 2 5) (by decide)) (FrC_tr (FrC_P c1') (FrC_tr (FrC_s (c := C + 8) (k := τ 0 2) (v := nI (dP1 V L s τ).2) (by unfold exC; omega)) (FrC_tr (FrC_P d1) (FrC_tr (FrC_s (c := C + 9) (k := τ 0 2) (v := nI (dP2 V L s τ).2) (by unfold exC; omega)) (FrC_s (c := C) (k := 10) (v := nI (τ 0 2 + 1)) (by unfold exC; omega)))))))), ?_, fun Q => ?_⟩
    · rw [show liD V L s τ = fiL (dP2 V L s τ).1 (upD τ (wd V L (nx V L s)) (dP1 V L s τ).2 (dP2 V L s τ).2) from if_neg full]
      change CP _ C L V (dP2 V L s τ).1 at d5
      cases q : (dP2 V L s τ).1 with
      | inl e =>
        rw [q] at d5
        exact d5
      | inr s' =>
        rw [q] at d5
        have q1 : ∃ s1, dP0 V L s τ = .inr s1 := by
          obtain ⟨x1, y1, -⟩ := nuP_i q
          obtain ⟨x2, y2, -⟩ := exW_i y1
          obtain ⟨x3, y3, -⟩ := nuP_i y2
          obtain ⟨x4, y4, -⟩ := exW_i y3
          exact ⟨x4, y4⟩
        obtain ⟨s1, q1⟩ := q1
        have isn := nmP_w q1
        have hw : m_gL g1 2 5 = nL (wd V L (nx V L s)) := a2.1.2.2.2.2.2.1 (isN_1 isn)
        refine ⟨d5, ⟨?_, ?_, ?_, ?_, ?_, ?_, ?_⟩, ⟨?_, ?_, ?_, ?_, ?_, ?_, ?_, ?_⟩, ⟨?_, ?_, ?_⟩, ⟨?_, ?_, ?_⟩, ?_, ?_, ?_⟩
        · exact (eI _ _ (by omega) (by omega) (by omega) (by omega) (by omega)).trans D.1.1
        · exact (eI _ _ (by omega) (by omega) (by omega) (by omega) (by omega)).trans D.1.2.1
        · show _ = nI (τ 0 2 + 1)
          rw [gI_sI, if_pos ⟨rfl, rfl⟩]
        · exact (eI _ _ (by omega) (by omega) (by omega) (by omega) (by omega)).trans D.1.2.2.2.1
        · exact (eI _ _ (by omega) (by omega) (by omega) (by omega) (by omega)).trans D.1.2.2.2.2.1
        · exact (eI _ _ (by omega) (by omega) (by omega) (by omega) (by omega)).trans D.1.2.2.2.2.2.1
        · exact (eI _ _ (by omega) (by omega) (by omega) (by omega) (by omega)).trans D.1.2.2.2.2.2.2
        · exact fun i hi => (eI _ _ (by omega) (by omega) (by omega) (by omega) (by omega)).trans (D.2.1.1 i hi)
        · exact fun i hi => (eI _ _ (by omega) (by omega) (by omega) (by omega) (by omega)).trans (D.2.1.2.1 i hi)
        · exact fun i hi => (eI _ _ (by omega) (by omega) (by omega) (by omega) (by omega)).trans (D.2.1.2.2.1 i hi)
        · exact fun i hi => (eI _ _ (by omega) (by omega) (by omega) (by omega) (by omega)).trans (D.2.1.2.2.2.1 i hi)
        · exact fun i hi => (eI _ _ (by omega) (by omega) (by omega) (by omega) (by omega)).trans (D.2.1.2.2.2.2.1 i hi)
        · exact fun i hi => (eI _ _ (by omega) (by omega) (by omega) (by omega) (by omega)).trans (D.2.1.2.2.2.2.2.1 i hi)
        · exact row_up (fun i hi => (eI _ _ (by omega) (by omega) (by omega) (by omega) (by omega)).trans (D.2.1.2.2.2.2.2.2.1 i hi)) e1
        · exact row_up (fun i hi => (eI _ _ (by omega) (by omega) (by omega) (by omega) (by omega)).trans (D.2.1.2.2.2.2.2.2.2 i hi)) e2
        · exact (eI _ _ (by omega) (by omega) (by omega) (by omega) (by omega)).trans D.2.2.1.1
        · exact (eI _ _ (by omega) (by omega) (by omega) (by omega) (by omega)).trans D.2.2.1.2.1
        · exact fun i hi => (eI _ _ (by omega) (by omega) (by omega) (by omega) (by omega)).trans (D.2.2.1.2.2 i hi)
        · exact fun i hi => (eL _ _ (by omega) (by omega)).trans (D.2.2.2.1.1 i hi)
        · exact fun i hi => (eL _ _ (by omega) (by omega)).trans (D.2.2.2.1.2.1 i hi)
        · exact row_upL (fun i hi => (eL _ _ (by omega) (by omega)).trans (D.2.2.2.1.2.2 i hi)) (eN.trans hw)
        · exact (eI _ _ (by omega) (by omega) (by omega) (by omega) (by omega)).trans D.2.2.2.2.1
        · exact (eI _ _ (by omega) (by omega) (by omega) (by omega) (by omega)).trans D.2.2.2.2.2.1
        · exact (eI _ _ (by omega) (by omega) (by omega) (by omega) (by omega)).trans D.2.2.2.2.2.2
    · simp only [u62_0, u62_1, u62_4, u62_7, u62_8, u62_9, u62_12, u62_13, u62_14, u62_17, u62_18, u62_19, u62_22, u62_23, u62_24, u62_27, u62_30, u62_31, u62_34, u62_35, u62_36, u62_37, u62_40, u62_41, u62_44, u62_45, u62_46, u62_49, u62_52, u62_53, u62_54, u62_56, u62_59, u62_62, u62_63, u62_64, u62_67, u62_70, u62_71, u62_72, u62_74, u62_76, u62_79, u62_80, u62_81, u62_84, u62_85, u62_88, u62_89, u62_90, u62_93, eq_self, q_nl0, q_nlI, q_nlR, not_false_eq_true, q_nz0, q_nz1, q_zv0, q_zv1, q_tl1, q_tl0, q_wif, q_swc, q_swn, List.cons_append, List.nil_append, if_true, if_false, e10, e01, Bool.false_eq_true, sh_2, sh_4, shT_0 hU, hu, n0, c0, c1, eq_true f1, p_4_0 hp]
      refine (a3 _).trans ?_
      simp only [u62_30, u62_31, u62_34, u62_35, u62_36, u62_37, u62_40, u62_41, u62_44, u62_45, u62_46, u62_49, u62_52, u62_53, u62_54, u62_56, u62_59, eq_self, q_nl0, q_nlI, q_nlR, not_false_eq_true, q_nz0, q_nz1, q_zv0, q_zv1, q_tl1, q_tl0, q_wif, q_swc, q_swn, List.cons_append, List.nil_append, if_true, if_false, e10, e01, Bool.false_eq_true, sh_2, sh_4, shT_0 hU, p_4_6 hp1]
      refine (b3 _).trans ?_
      simp only [u62_44, u62_45, u62_46, u62_49, u62_52, u62_53, u62_54, u62_56, u62_59, eq_self, q_nl0, q_nlI, q_nlR, not_false_eq_true, q_nz0, q_nz1, q_zv0, q_zv1, q_tl1, q_tl0, q_wif, q_swc, q_swn, List.cons_append, List.nil_append, if_true, if_false, e10, e01, Bool.false_eq_true, sh_4, sh_22, shT_0 hU, i4, cl, hu2, pT_11 hU hp2, p_4_0 hp2]
      refine (c3 _).trans ?_
      change wq X (d + 7) 62 62 _ [.int (nI (dP1 V L s τ).2), _, _] _ Q = _
      simp only [u62_62, u62_63, u62_64, u62_67, u62_70, u62_71, u62_72, u62_74, u62_76, eq_self, q_nl0, q_nlI, q_nlR, not_false_eq_true, q_nz0, q_nz1, q_zv0, q_zv1, q_tl1, q_tl0, q_wif, q_swc, q_swn, List.cons_append, List.nil_append, if_true, if_false, e10, e01, Bool.false_eq_true, sh_4, shT_0 hU, shT_8 hU, i4, cl, hu3, pT_12 hU hp3]
      refine (d3 _).trans ?_
      change wq X (d + 7) 62 79 _ [.int (nI (dP2 V L s τ).2), _, _] _ Q = _
      simp only [u62_79, u62_80, u62_81, u62_84, u62_85, u62_88, u62_89, u62_90, u62_93, eq_self, q_nl0, q_nlI, q_nlR, not_false_eq_true, q_nz0, q_nz1, q_zv0, q_zv1, q_tl1, q_tl0, q_wif, q_swc, q_swn, List.cons_append, List.nil_append, if_true, if_false, e10, e01, Bool.false_eq_true, sh_4, shT_0 hU, shT_9 hU, i4, cl, hu4, n4, nI_1]
