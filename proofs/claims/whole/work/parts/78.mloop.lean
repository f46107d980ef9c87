/-! THE MODEL'S LOOP OVER A FORMULA -/
theorem k_must1 {X : XT} {d R L z w : Nat} {h : HT} {V : Nat → Nat} {S : SF} {P : Nat → Nat × Nat} (H : KF h R L V S z P w) : ∃ g, FrE R h g ∧ KF g R L V (avS V L S) z P w ∧ ∀ Q : QT, wq X (d + 3) 208 0 [some (.ref 195), some (.int 1)] [] h Q = Q none g := by
  obtain ⟨g, a1, a2, a3⟩ := KF_av (X := X) (d := d) H
  refine ⟨g, a1, a2, fun Q => ?_⟩
  simp only [u208_0, u208_1, u208_4, u208_7, u208_8, u208_9, u208_12, u208_13, eq_self, q_nl0, q_nlI, q_nlR, not_false_eq_true, q_nz0, q_nz1, q_zv0, q_zv1, q_tl1, q_tl0, q_wif, q_swc, q_swn, List.cons_append, List.nil_append, if_true, if_false, e10, e01, Bool.false_eq_true, sh_195, k_good H.2.2.1, Option.toList]
  refine (a3 _).trans ?_
  simp only [u208_16, u208_23, eq_self, q_nl0, q_nlI, q_nlR, not_false_eq_true, q_nz0, q_nz1, q_zv0, q_zv1, q_tl1, q_tl0, q_wif, q_swc, q_swn, List.cons_append, List.nil_append, if_true, if_false, e10, e01, Bool.false_eq_true]
theorem k_must0 {X : XT} {d R L z w : Nat} {h : HT} {V : Nat → Nat} {S : SF} {P : Nat → Nat × Nat} (H : KF h R L V S z P w) : ∃ g, FrE R h g ∧ KBd g (kdO V L S.1 2, S.1) ∧ ∀ Q : QT, wq X (d + 3) 208 0 [some (.ref 195), some (.int 0)] [] h Q = Q none g := by
  obtain ⟨b1, b2⟩ := KBd_misp (R := R) (L := L) (s := S.1) (h := h) (V := V) H.1
  refine ⟨_, b1, b2, fun Q => ?_⟩
  simp only [u208_0, u208_1, u208_4, u208_7, u208_8, u208_9, u208_19, u208_20, u208_23, eq_self, q_nl0, q_nlI, q_nlR, not_false_eq_true, q_nz0, q_nz1, q_zv0, q_zv1, q_tl1, q_tl0, q_wif, q_swc, q_swn, List.cons_append, List.nil_append, if_true, if_false, e10, e01, Bool.false_eq_true, sh_195, k_good H.2.2.1, k_misp (d := d + 1) H.1 H.2.2.1, Option.toList]
theorem k_last {X : XT} {d R L z w : Nat} {h : HT} {V : Nat → Nat} {S : SF} {P : Nat → Nat × Nat} (H : KF h R L V S z P w) (hz : 1 ≤ z) (ht : (P (z - 1)).1 = 8) : FrE R h (m_sI h 195 44 (nI (z - 1))) ∧ KF (m_sI h 195 44 (nI (z - 1))) R L V S (z - 1) P w ∧ ∀ Q : QT, wq X (d + 4) 220 104 [some (.ref 195), some (.int 0)] [] h Q = Q (some (.int 0)) (m_sI h 195 44 (nI (z - 1))) := by
  have nb0 : q_nb .boolean 0 = true := by decide
  have hp := H.1.1.1
  have z1 : nI z - 1 = nI (z - 1) := by
    rw [show (1 : Int32) = nI 1 from rfl, pk_sub hz]
  have hz9 := H.2.2.2.2.2.2.1.2
  have c2 : m_in (nI (z - 1)) 90 = true := q_in (by omega) (by decide)
  have c3 : (nI (z - 1)).toNatClampNeg = z - 1 := q_cl (by omega)
  obtain ⟨u1, u2⟩ := KF_z (z' := z - 1) H (by omega)
  have d1 : m_gI (m_sI h 195 44 (nI (z - 1))) 195 44 = nI (z - 1) := by rw [gI_sI, if_pos ⟨rfl, rfl⟩]
  have d4 : m_gI (m_sI h 195 44 (nI (z - 1))) 224 (z - 1) = 8 := by
    rw [gI_sI, if_neg (by omega), (H.2.2.2.2.2.2.2.1 (z - 1) (by omega)).1, ht]
    rfl
  refine ⟨u1, u2, fun Q => ?_⟩
  simp only [u220_104, u220_105, u220_147, u220_148, u220_149, u220_152, u220_153, u220_154, u220_157, u220_158, u220_161, u220_162, u220_165, u220_166, u220_168, u220_171, u220_172, u220_173, u220_176, u220_177, u220_178, u220_181, u220_182, u220_183, u220_185, u220_188, u220_191, u220_192, eq_self, q_nl0, q_nlI, q_nlR, not_false_eq_true, q_nz0, q_nz1, q_zv0, q_zv1, q_tl1, q_tl0, q_wif, q_swc, q_swn, List.cons_append, List.nil_append, if_true, if_false, e10, e01, Bool.false_eq_true, sh_195, sh_224, p_195_37 hp, H.2.2.2.2.2.2.1.1, z1, gR_sI, d1, c2, c3, d4, nb0, show ((0 : Int32) < 0) = False from eq_false (by decide), show ((8 : Int32) = 7) = False from eq_false (by decide)]
theorem k_close {X : XT} {d R L z w : Nat} {h : HT} {V : Nat → Nat} {S : SF} {P : Nat → Nat × Nat} (H : KF h R L V S z P w) (hz : 1 ≤ z) (hw : 1 ≤ w) (ht : (P (z - 1)).1 = 7) : ∃ g, FrE R h g ∧ (isG V L S.1 41 = true → KF g R L V (avS V L S) (z - 1) P (w - 1)) ∧ (isG V L S.1 41 = false → KBd g (kdO V L S.1 2, S.1)) ∧ ∀ Q : QT, wq X (d + 4) 220 104 [some (.ref 195), some (.int 0)] [] h Q = Q (some (.int 0)) g := by
  have nb0 : q_nb .boolean 0 = true := by decide
  have hp := H.1.1.1
  have z1 : nI z - 1 = nI (z - 1) := by
    rw [show (1 : Int32) = nI 1 from rfl, pk_sub hz]
  have w1 : nI w - 1 = nI (w - 1) := by
    rw [show (1 : Int32) = nI 1 from rfl, pk_sub hw]
  have hz9 := H.2.2.2.2.2.2.1.2
  have c2 : m_in (nI (z - 1)) 90 = true := q_in (by omega) (by decide)
  have c3 : (nI (z - 1)).toNatClampNeg = z - 1 := q_cl (by omega)
  obtain ⟨u1, u2⟩ := KF_z (z' := z - 1) H (by omega)
  obtain ⟨v1, v2⟩ := KF_w (w' := w - 1) u2
  have d1 : m_gI (m_sI h 195 44 (nI (z - 1))) 195 44 = nI (z - 1) := by rw [gI_sI, if_pos ⟨rfl, rfl⟩]
  have d4 : m_gI (m_sI h 195 44 (nI (z - 1))) 224 (z - 1) = 7 := by
    rw [gI_sI, if_neg (by omega), (H.2.2.2.2.2.2.2.1 (z - 1) (by omega)).1, ht]
    rfl
  have d6 : m_gI (m_sI h 195 44 (nI (z - 1))) 195 43 = nI w := u2.2.2.2.2.2.2.2.2
  have kg : ∀ Q : QT, wq X (d + 3) 217 0 [some (.ref 195), some (.int 41)] [] (m_sI (m_sI h 195 44 (nI (z - 1))) 195 43 (nI (w - 1))) Q = Q (some (.int (if isG V L S.1 41 = true then 1 else 0))) (m_sI (m_sI h 195 44 (nI (z - 1))) 195 43 (nI (w - 1))) := fun Q => k_isSignH (X := X) (d := d + 2) (Q := Q) (c := 41) v2.1 (by decide)
  by_cases y : isG V L S.1 41 = true
  · obtain ⟨g, a1, a2, a3⟩ := k_must1 (X := X) (d := d) v2
    refine ⟨g, FrE_tr u1 (FrE_tr v1 a1), fun _ => a2, fun q => absurd (y.symm.trans q) (by decide), fun Q => ?_⟩
    simp only [u220_104, u220_105, u220_147, u220_148, u220_149, u220_152, u220_153, u220_154, u220_157, u220_158, u220_161, u220_162, u220_165, u220_166, u220_168, u220_171, u220_172, u220_173, u220_176, u220_177, u220_178, u220_181, u220_182, u220_183, u220_185, u220_188, eq_self, q_nl0, q_nlI, q_nlR, not_false_eq_true, q_nz0, q_nz1, q_zv0, q_zv1, q_tl1, q_tl0, q_wif, q_swc, q_swn, List.cons_append, List.nil_append, if_true, if_false, e10, e01, Bool.false_eq_true, sh_195, sh_224, p_195_37 hp, H.2.2.2.2.2.2.1.1, z1, gR_sI, d1, c2, c3, d4, d6, w1, kg, y, show ((0 : Int32) < 0) = False from eq_false (by decide), Option.toList]
    refine (a3 _).trans ?_
    simp only [u220_191, u220_192, eq_self, q_nl0, q_nlI, q_nlR, not_false_eq_true, q_nz0, q_nz1, q_zv0, q_zv1, q_tl1, q_tl0, q_wif, q_swc, q_swn, List.cons_append, List.nil_append, if_true, if_false, e10, e01, Bool.false_eq_true, nb0]
  · have y' : isG V L S.1 41 = false := by simpa using y
    obtain ⟨g, a1, a2, a3⟩ := k_must0 (X := X) (d := d) v2
    refine ⟨g, FrE_tr u1 (FrE_tr v1 a1), fun q => absurd q y, fun _ => a2, fun Q => ?_⟩
    simp only [u220_104, u220_105, u220_147, u220_148, u220_149, u220_152, u220_153, u220_154, u220_157, u220_158, u220_161, u220_162, u220_165, u220_166, u220_168, u220_171, u220_172, u220_173, u220_176, u220_177, u220_178, u220_181, u220_182, u220_183, u220_185, u220_188, eq_self, q_nl0, q_nlI, q_nlR, not_false_eq_true, q_nz0, q_nz1, q_zv0, q_zv1, q_tl1, q_tl0, q_wif, q_swc, q_swn, List.cons_append, List.nil_append, if_true, if_false, e10, e01, Bool.false_eq_true, sh_195, sh_224, p_195_37 hp, H.2.2.2.2.2.2.1.1, z1, gR_sI, d1, c2, c3, d4, d6, w1, kg, y', show ((0 : Int32) < 0) = False from eq_false (by decide), Option.toList]
    refine (a3 _).trans ?_
    simp only [u220_191, u220_192, eq_self, q_nl0, q_nlI, q_nlR, not_false_eq_true, q_nz0, q_nz1, q_zv0, q_zv1, q_tl1, q_tl0, q_wif, q_swc, q_swn, List.cons_append, List.nil_append, if_true, if_false, e10, e01, Bool.false_eq_true, nb0]
/-- behind a unit, till what waits is looked at -/
theorem k_behS {X : XT} {d R L z w : Nat} {h : HT} {V : Nat → Nat} {S : SF} {P : Nat → Nat × Nat} (H : KF h R L V S z P w) (hz : 1 ≤ z) (h0 : (P 0).1 = 8) (h8 : ∀ i, i < z → (P i).1 ≤ 8) (hc : ¬ (rkC V L S.1 = 4 ∧ cm P z = true)) (Q : QT) : wq X (d + 4) 220 0 [some (.ref 195), none] [] h Q = wq X (d + 4) 220 23 [some (.ref 195), some (.int (nI (rkC V L S.1)))] [] h Q := by
  have r6 := rk_6 (V := V) (L := L) (s := S.1)
  have kr : ∀ Q : QT, wq X (d + 3) 221 0 [some (.ref 195)] [] h Q = Q (some (.int (nI (rkC V L S.1)))) h := fun Q => k_rank (X := X) (d := d + 1) (Q := Q) H.1
  have f4 : (nI (rkC V L S.1) = 4) = (rkC V L S.1 = 4) := nI_eqB (b := 4) (by omega) (by decide)
  have kc := fun (Q : QT) => k_isCmp (X := X) (d := d + 3) H hz h0 h8 Q
  by_cases y : rkC V L S.1 = 4
  · have y2 : cm P z = false := by
      cases q : cm P z with
      | false => rfl
      | true => exact absurd ⟨y, q⟩ hc
    simp only [u220_0, u220_1, u220_4, u220_5, u220_6, u220_7, u220_10, u220_11, u220_14, eq_self, q_nl0, q_nlI, q_nlR, not_false_eq_true, q_nz0, q_nz1, q_zv0, q_zv1, q_tl1, q_tl0, q_wif, q_swc, q_swn, List.cons_append, List.nil_append, if_true, if_false, e10, e01, Bool.false_eq_true, sh_195, kr, f4, eq_true y, kc, y2, Option.toList]
  · simp only [u220_0, u220_1, u220_4, u220_5, u220_6, u220_7, u220_10, u220_11, u220_14, eq_self, q_nl0, q_nlI, q_nlR, not_false_eq_true, q_nz0, q_nz1, q_zv0, q_zv1, q_tl1, q_tl0, q_wif, q_swc, q_swn, List.cons_append, List.nil_append, if_true, if_false, e10, e01, Bool.false_eq_true, sh_195, kr, f4, eq_false y, Option.toList]
theorem k_behB {X : XT} {d R L z w : Nat} {h : HT} {V : Nat → Nat} {S : SF} {P : Nat → Nat × Nat} (H : KF h R L V S z P w) (hz : 1 ≤ z) (h0 : (P 0).1 = 8) (h8 : ∀ i, i < z → (P i).1 ≤ 8) (hc : rkC V L S.1 = 4) (hc2 : cm P z = true) : ∃ g, FrE R h g ∧ KBd g (kdO V L S.1 2, S.1) ∧ ∀ Q : QT, wq X (d + 4) 220 0 [some (.ref 195), none] [] h Q = Q (some (.int 1)) g := by
  have nb1 : q_nb .boolean 1 = true := by decide
  have kr : ∀ Q : QT, wq X (d + 3) 221 0 [some (.ref 195)] [] h Q = Q (some (.int (nI (rkC V L S.1)))) h := fun Q => k_rank (X := X) (d := d + 1) (Q := Q) H.1
  have kc := fun (Q : QT) => k_isCmp (X := X) (d := d + 3) H hz h0 h8 Q
  obtain ⟨b1, b2⟩ := KBd_misp (R := R) (L := L) (s := S.1) (h := h) (V := V) H.1
  rw [hc] at kr
  refine ⟨_, b1, b2, fun Q => ?_⟩
  simp only [u220_0, u220_1, u220_4, u220_5, u220_6, u220_7, u220_10, u220_11, u220_14, u220_17, u220_18, u220_21, u220_22, eq_self, q_nl0, q_nlI, q_nlR, not_false_eq_true, q_nz0, q_nz1, q_zv0, q_zv1, q_tl1, q_tl0, q_wif, q_swc, q_swn, List.cons_append, List.nil_append, if_true, if_false, e10, e01, Bool.false_eq_true, sh_195, kr, show (nI 4 = 4) = True from eq_true rfl, kc, hc2, k_misp (d := d + 2) H.1 H.2.2.1, nb1, Option.toList]
/-! one round of the loop -/
theorem e_W {X : XT} {d R L z w : Nat} {h : HT} {V : Nat → Nat} {S : SF} {P : Nat → Nat × Nat} (H : KF h R L V S z P w) (hz : 1 ≤ z) {g : HT} {v : Int32} (e : ∀ Q : QT, wq X (d + 4) 216 0 [some (.ref 195), none, none, none, none, none, none] [] h Q = Q (some (.int v)) g) (Q : QT) : wq X (d + 5) 214 19 [some (.ref 195), some (.int 1)] [] h Q = wq X (d + 5) 214 19 [some (.ref 195), some (.int v)] [] g Q := by
  have f0 : (0 < nI z) = True := eq_true (nI_lt (a := 0) hz (by have := H.2.2.2.2.2.2.1.2; omega))
  rw [u214_19]
  simp only [u214_20, u214_23, u214_26, u214_27, u214_30, u214_33, u214_34, u214_37, u214_38, eq_self, q_nl0, q_nlI, q_nlR, not_false_eq_true, q_nz0, q_nz1, q_zv0, q_zv1, q_tl1, q_tl0, q_wif, q_swc, q_swn, List.cons_append, List.nil_append, if_true, if_false, e10, e01, Bool.false_eq_true, sh_195, k_good H.2.2.1, H.2.2.2.2.2.2.1.1, f0, Option.toList]
  refine (e _).trans ?_
  simp only [u214_41, u214_44, u214_45, u214_48, u214_49, eq_self, q_nl0, q_nlI, q_nlR, not_false_eq_true, q_nz0, q_nz1, q_zv0, q_zv1, q_tl1, q_tl0, q_wif, q_swc, q_swn, List.cons_append, List.nil_append, if_true, if_false, e10, e01, Bool.false_eq_true]
theorem e_B {X : XT} {d R L z w : Nat} {h : HT} {V : Nat → Nat} {S : SF} {P : Nat → Nat × Nat} (H : KF h R L V S z P w) (hz : 1 ≤ z) (Q : QT) : wq X (d + 5) 214 19 [some (.ref 195), some (.int 0)] [] h Q = wq X (d + 4) 220 0 [some (.ref 195), none] [] h (fun v h' => wq X (d + 5) 214 48 [some (.ref 195), some (.int 0)] (v.toList ++ []) h' Q) := by
  have f0 : (0 < nI z) = True := eq_true (nI_lt (a := 0) hz (by have := H.2.2.2.2.2.2.1.2; omega))
  rw [u214_19]
  simp only [u214_20, u214_23, u214_26, u214_27, u214_30, u214_33, u214_34, u214_37, u214_38, u214_41, u214_44, u214_45, eq_self, q_nl0, q_nlI, q_nlR, not_false_eq_true, q_nz0, q_nz1, q_zv0, q_zv1, q_tl1, q_tl0, q_wif, q_swc, q_swn, List.cons_append, List.nil_append, if_true, if_false, e10, e01, Bool.false_eq_true, sh_195, k_good H.2.2.1, H.2.2.2.2.2.2.1.1, f0, Option.toList]
theorem e_bad {X : XT} {d : Nat} {h : HT} {e : Nat × Nat} {v : Int32} (H : KBd h e) (Q : QT) : wq X (d + 5) 214 19 [some (.ref 195), some (.int v)] [] h Q = Q none h := by
  rw [u214_19]
  simp only [u214_20, u214_23, u214_52, eq_self, q_nl0, q_nlI, q_nlR, not_false_eq_true, q_nz0, q_nz1, q_zv0, q_zv1, q_tl1, q_tl0, q_wif, q_swc, q_swn, List.cons_append, List.nil_append, if_true, if_false, e10, e01, Bool.false_eq_true, sh_195, k_ngood H, Option.toList]
theorem e_end {X : XT} {d R L w : Nat} {h : HT} {V : Nat → Nat} {S : SF} {P : Nat → Nat × Nat} {v : Int32} (H : KF h R L V S 0 P w) (Q : QT) : wq X (d + 5) 214 19 [some (.ref 195), some (.int v)] [] h Q = Q none h := by
  rw [u214_19]
  simp only [u214_20, u214_23, u214_26, u214_27, u214_30, u214_52, eq_self, q_nl0, q_nlI, q_nlR, not_false_eq_true, q_nz0, q_nz1, q_zv0, q_zv1, q_tl1, q_tl0, q_wif, q_swc, q_swn, List.cons_append, List.nil_append, if_true, if_false, e10, e01, Bool.false_eq_true, sh_195, k_good H.2.2.1, H.2.2.2.2.2.2.1.1, show (0 < nI 0) = False from eq_false (by decide), Option.toList]
