/-! A LINE, as the class reads it -/
theorem CD_of {h g : HT} {C : Nat} {τ : CT} (eI : ∀ c k, C ≤ c ∧ c ≤ C + 11 ∨ c = 4 ∧ 7 ≤ k → m_gI g c k = m_gI h c k) (eL : ∀ c k, 20 ≤ c ∧ c ≤ 22 → m_gL g c k = m_gL h c k) (D : CD h C τ) : CD g C τ := by
  refine ⟨⟨?_, ?_, ?_, ?_, ?_, ?_, ?_⟩, ⟨?_, ?_, ?_, ?_, ?_, ?_, ?_, ?_⟩, ⟨?_, ?_, ?_⟩, ⟨?_, ?_, ?_⟩, ?_, ?_, ?_⟩
  · exact (eI _ _ (by omega)).trans D.1.1
  · exact (eI _ _ (by omega)).trans D.1.2.1
  · exact (eI _ _ (by omega)).trans D.1.2.2.1
  · exact (eI _ _ (by omega)).trans D.1.2.2.2.1
  · exact (eI _ _ (by omega)).trans D.1.2.2.2.2.1
  · exact (eI _ _ (by omega)).trans D.1.2.2.2.2.2.1
  · exact (eI _ _ (by omega)).trans D.1.2.2.2.2.2.2
  · exact fun i hi => (eI _ _ (by omega)).trans (D.2.1.1 i hi)
  · exact fun i hi => (eI _ _ (by omega)).trans (D.2.1.2.1 i hi)
  · exact fun i hi => (eI _ _ (by omega)).trans (D.2.1.2.2.1 i hi)
  · exact fun i hi => (eI _ _ (by omega)).trans (D.2.1.2.2.2.1 i hi)
  · exact fun i hi => (eI _ _ (by omega)).trans (D.2.1.2.2.2.2.1 i hi)
  · exact fun i hi => (eI _ _ (by omega)).trans (D.2.1.2.2.2.2.2.1 i hi)
  · exact fun i hi => (eI _ _ (by omega)).trans (D.2.1.2.2.2.2.2.2.1 i hi)
  · exact fun i hi => (eI _ _ (by omega)).trans (D.2.1.2.2.2.2.2.2.2 i hi)
  · exact (eI _ _ (by omega)).trans D.2.2.1.1
  · exact (eI _ _ (by omega)).trans D.2.2.1.2.1
  · exact fun i hi => (eI _ _ (by omega)).trans (D.2.2.1.2.2 i hi)
  · exact fun i hi => (eL _ _ (by omega)).trans (D.2.2.2.1.1 i hi)
  · exact fun i hi => (eL _ _ (by omega)).trans (D.2.2.2.1.2.1 i hi)
  · exact fun i hi => (eL _ _ (by omega)).trans (D.2.2.2.1.2.2 i hi)
  · exact (eI _ _ (by omega)).trans D.2.2.2.2.1
  · exact (eI _ _ (by omega)).trans D.2.2.2.2.2.1
  · exact (eI _ _ (by omega)).trans D.2.2.2.2.2.2
theorem CD_P {h g : HT} {C : Nat} {τ : CT} (hC : C = 5 ∨ C = 23) (a : FrP h g) (D : CD h C τ) : CD g C τ := CD_of (fun c k x => a.2.1 c k (by omega) (by omega)) (fun c k x => a.2.2 c k (by omega)) D
def rlP : RL → RP
  | .inl e => .inl e
  | .inr q => .inr q.1
theorem CLr_P {h : HT} {C L : Nat} {V : Nat → Nat} {r : RL} (H : CLr h C L V r) : CP h C L V (rlP r) := by
  cases r with
  | inl e => exact H
  | inr q => exact H.1
def exP (V : Nat → Nat) (L c : Nat) : RP → RP
  | .inl e => .inl e
  | .inr s => if isG V L s c = true then .inr (nx V L s) else .inl (kdO V L s 2, s)
theorem c_sgP {X : XT} {d C L c : Nat} {h : HT} {V : Nat → Nat} {r : RP} (H : CP h C L V r) (hc : c < 256) : ∃ g, FrP h g ∧ CP g C L V (exP V L c r) ∧ ∀ Q : QT, wq X (d + 5) 67 0 [some (.ref 4), some (.int (nI c))] [] h Q = Q none g := by
  obtain ⟨hp, hu, hU⟩ := CP_p H
  have si := fun (Q : QT) => c_signIs (X := X) (d := d + 3) (c := c) (Q := Q) (CP_k H) hc
  cases r with
  | inl e =>
    have HB : CB h C L V e := H
    obtain ⟨g, a1, a2, a3⟩ := c_refP (X := X) (d := d + 4) (k := 2) H (by decide)
    by_cases z : isG V L (rpS (.inl e)) c = true
    · refine ⟨h, FrP_rf, H, fun Q => ?_⟩
      simp only [u67_0, u67_1, u67_4, u67_5, u67_8, u67_11, u67_12, u67_13, u67_16, u67_19, u67_20, u67_23, u67_26, u67_27, u67_30, u67_33, eq_self, q_nl0, q_nlI, q_nlR, not_false_eq_true, q_nz0, q_nz1, q_zv0, q_zv1, q_tl1, q_tl0, q_wif, q_swc, q_swn, List.cons_append, List.nil_append, if_true, if_false, e10, e01, Bool.false_eq_true, sh_2, sh_4, p_4_0 hp, si, z, HB.2.2.1, CP_bad HB, Option.toList]
    · refine ⟨g, a1, a2, fun Q => ?_⟩
      simp only [u67_0, u67_1, u67_4, u67_5, u67_8, u67_11, u67_12, u67_13, u67_16, u67_19, u67_20, u67_23, u67_26, u67_27, u67_30, u67_33, eq_self, q_nl0, q_nlI, q_nlR, not_false_eq_true, q_nz0, q_nz1, q_zv0, q_zv1, q_tl1, q_tl0, q_wif, q_swc, q_swn, List.cons_append, List.nil_append, if_true, if_false, e10, e01, Bool.false_eq_true, sh_2, sh_4, p_4_0 hp, si, z, Option.toList]
      refine (a3 _).trans ?_
      simp only [u67_16, u67_33, eq_self, q_nl0, q_nlI, q_nlR, not_false_eq_true, q_nz0, q_nz1, q_zv0, q_zv1, q_tl1, q_tl0, q_wif, q_swc, q_swn, List.cons_append, List.nil_append, if_true, if_false, e10, e01, Bool.false_eq_true]
  | inr s =>
    by_cases z : isG V L s c = true
    · obtain ⟨g, a1, a2, a3⟩ := c_avP (X := X) (d := d) H
      rw [show exP V L c (.inr s) = .inr (nx V L s) from if_pos z]
      refine ⟨g, a1, a2, fun Q => ?_⟩
      simp only [u67_0, u67_1, u67_4, u67_5, u67_8, u67_11, u67_12, u67_13, u67_16, u67_19, u67_20, u67_23, u67_26, u67_27, u67_30, u67_33, eq_self, q_nl0, q_nlI, q_nlR, not_false_eq_true, q_nz0, q_nz1, q_zv0, q_zv1, q_tl1, q_tl0, q_wif, q_swc, q_swn, List.cons_append, List.nil_append, if_true, if_false, e10, e01, Bool.false_eq_true, sh_2, sh_4, p_4_0 hp, si, show rpS (.inr s) = s from rfl, z, H.2.2, Option.toList]
      refine (a3 _).trans ?_
      simp only [u67_33, eq_self, q_nl0, q_nlI, q_nlR, not_false_eq_true, q_nz0, q_nz1, q_zv0, q_zv1, q_tl1, q_tl0, q_wif, q_swc, q_swn, List.cons_append, List.nil_append, if_true, if_false, e10, e01, Bool.false_eq_true]
    · obtain ⟨g, a1, a2, a3⟩ := c_refP (X := X) (d := d + 4) (k := 2) H (by decide)
      rw [show exP V L c (.inr s) = .inl (kdO V L s 2, s) from if_neg z]
      refine ⟨g, a1, a2, fun Q => ?_⟩
      simp only [u67_0, u67_1, u67_4, u67_5, u67_8, u67_11, u67_12, u67_13, u67_16, u67_19, u67_20, u67_23, u67_26, u67_27, u67_30, u67_33, eq_self, q_nl0, q_nlI, q_nlR, not_false_eq_true, q_nz0, q_nz1, q_zv0, q_zv1, q_tl1, q_tl0, q_wif, q_swc, q_swn, List.cons_append, List.nil_append, if_true, if_false, e10, e01, Bool.false_eq_true, sh_2, sh_4, p_4_0 hp, si, show rpS (.inr s) = s from rfl, z, Option.toList]
      refine (a3 _).trans ?_
      simp only [u67_16, u67_33, eq_self, q_nl0, q_nlI, q_nlR, not_false_eq_true, q_nz0, q_nz1, q_zv0, q_zv1, q_tl1, q_tl0, q_wif, q_swc, q_swn, List.cons_append, List.nil_append, if_true, if_false, e10, e01, Bool.false_eq_true]
/-- a line's end -/
theorem c_semiL {X : XT} {d C L : Nat} {h : HT} {V : Nat → Nat} {r : RL} (hC : C = 5 ∨ C = 23) (H : CLr h C L V r) : ∃ g, FrC C h g ∧ CLr g C L V (exL V L 59 r) ∧ ∀ Q : QT, wq X (d + 5) 67 0 [some (.ref 4), some (.int 59)] [] h Q = Q none g := by
  obtain ⟨g, a1, a2, a3⟩ := c_sgP (X := X) (d := d) (c := 59) (CLr_P H) (by decide)
  refine ⟨g, FrC_P a1, ?_, a3⟩
  cases r with
  | inl e => exact a2
  | inr q =>
    by_cases z : isG V L q.1 59 = true
    · rw [show exL V L 59 (.inr q) = .inr (nx V L q.1, q.2) from if_pos z]
      rw [show exP V L 59 (rlP (.inr q)) = .inr (nx V L q.1) from if_pos z] at a2
      exact ⟨a2, CD_P hC a1 H.2⟩
    · rw [show exL V L 59 (.inr q) = .inl (kdO V L q.1 2, q.1) from if_neg z]
      rw [show exP V L 59 (rlP (.inr q)) = .inl (kdO V L q.1 2, q.1) from if_neg z] at a2
      exact a2
/-- what a city so far keeps to -/
def lOk (τ : CT) : Prop := cOk τ ∧ nmA τ ∧ (τ 0 7 ≤ 1 ∧ τ 0 10 ≤ 1 ∧ τ 0 11 ≤ 1) ∧ (τ 0 7 = 0 → τ 0 8 = 0 ∧ τ 0 9 = 0) ∧ (τ 0 7 = 1 → 0 < τ 0 9) ∧ fOk τ ∧ τ 0 8 ≤ 30 ∧ τ 0 9 ≤ 560
theorem nI_z1 {a : Nat} (h : a ≤ 1) : (nI a = 0) = (a = 0) := nI_eqB (b := 0) (by omega) (by decide)
section CLINE
variable {X : XT} {d C L s : Nat} {h : HT} {V : Nat → Nat} {τ : CT}
theorem c_noB (H : CP h C L V (.inr s)) (D : CD h C τ) (O : lOk τ) (n : ¬ (isW V L s 14 = true ∧ τ 0 7 = 0)) (Q : QT) (l1 : Option Value) : wq X (d + 110) 15 122 [some (.ref 4), l1] [] h Q = wq X (d + 110) 15 162 [some (.ref 4), l1] [] h Q := by
  have wi := fun (Q : QT) => c_wordAt (X := X) (d := d + 105) (r := 10024) (i := 14) (Q := Q) H.1 rfl (by decide)
  have hp := (CP_p H).1
  by_cases z : isW V L s 14 = true
  · have y : ¬ τ 0 7 = 0 := fun q => n ⟨z, q⟩
    simp only [u15_122, u15_123, u15_126, u15_128, u15_131, u15_134, u15_135, u15_138, eq_self, q_nl0, q_nlI, q_nlR, not_false_eq_true, q_nz0, q_nz1, q_zv0, q_zv1, q_tl1, q_tl0, q_wif, q_swc, q_swn, List.cons_append, List.nil_append, if_true, if_false, e10, e01, Bool.false_eq_true, sh_2, sh_4, p_4_0 hp, wi, z, D.2.2.2.2.1, nI_z1 O.2.2.1.1, y, Option.toList, show ¬ ((1 : Int32) = 0) by decide]
  · simp only [u15_122, u15_123, u15_126, u15_128, u15_131, u15_134, u15_135, u15_138, eq_self, q_nl0, q_nlI, q_nlR, not_false_eq_true, q_nz0, q_nz1, q_zv0, q_zv1, q_tl1, q_tl0, q_wif, q_swc, q_swn, List.cons_append, List.nil_append, if_true, if_false, e10, e01, Bool.false_eq_true, sh_2, sh_4, p_4_0 hp, wi, z, Option.toList]
theorem c_noF (H : CP h C L V (.inr s)) (D : CD h C τ) (O : lOk τ) (n : ¬ (isW V L s 24 = true ∧ τ 0 10 = 0)) (Q : QT) (l1 : Option Value) : wq X (d + 110) 15 162 [some (.ref 4), l1] [] h Q = wq X (d + 110) 15 220 [some (.ref 4), l1] [] h Q := by
  have wi := fun (Q : QT) => c_wordAt (X := X) (d := d + 105) (r := 10034) (i := 24) (Q := Q) H.1 rfl (by decide)
  have hp := (CP_p H).1
  by_cases z : isW V L s 24 = true
  · have y : ¬ τ 0 10 = 0 := fun q => n ⟨z, q⟩
    simp only [u15_162, u15_163, u15_166, u15_168, u15_171, u15_174, u15_175, u15_178, eq_self, q_nl0, q_nlI, q_nlR, not_false_eq_true, q_nz0, q_nz1, q_zv0, q_zv1, q_tl1, q_tl0, q_wif, q_swc, q_swn, List.cons_append, List.nil_append, if_true, if_false, e10, e01, Bool.false_eq_true, sh_2, sh_4, p_4_0 hp, wi, z, D.2.2.2.2.2.1, nI_z1 O.2.2.1.2.1, y, Option.toList, show ¬ ((1 : Int32) = 0) by decide]
  · simp only [u15_162, u15_163, u15_166, u15_168, u15_171, u15_174, u15_175, u15_178, eq_self, q_nl0, q_nlI, q_nlR, not_false_eq_true, q_nz0, q_nz1, q_zv0, q_zv1, q_tl1, q_tl0, q_wif, q_swc, q_swn, List.cons_append, List.nil_append, if_true, if_false, e10, e01, Bool.false_eq_true, sh_2, sh_4, p_4_0 hp, wi, z, Option.toList]
theorem c_noW (H : CP h C L V (.inr s)) (D : CD h C τ) (O : lOk τ) (n : ¬ (isW V L s 26 = true ∧ τ 0 11 = 0)) (Q : QT) (l1 : Option Value) : wq X (d + 110) 15 220 [some (.ref 4), l1] [] h Q = wq X (d + 110) 15 263 [some (.ref 4), l1] [] h Q := by
  have wi := fun (Q : QT) => c_wordAt (X := X) (d := d + 105) (r := 10036) (i := 26) (Q := Q) H.1 rfl (by decide)
  have hp := (CP_p H).1
  by_cases z : isW V L s 26 = true
  · have y : ¬ τ 0 11 = 0 := fun q => n ⟨z, q⟩
    simp only [u15_220, u15_221, u15_224, u15_226, u15_229, u15_232, u15_233, u15_236, eq_self, q_nl0, q_nlI, q_nlR, not_false_eq_true, q_nz0, q_nz1, q_zv0, q_zv1, q_tl1, q_tl0, q_wif, q_swc, q_swn, List.cons_append, List.nil_append, if_true, if_false, e10, e01, Bool.false_eq_true, sh_2, sh_4, p_4_0 hp, wi, z, D.2.2.2.2.2.2, nI_z1 O.2.2.1.2.2, y, Option.toList, show ¬ ((1 : Int32) = 0) by decide]
  · simp only [u15_220, u15_221, u15_224, u15_226, u15_229, u15_232, u15_233, u15_236, eq_self, q_nl0, q_nlI, q_nlR, not_false_eq_true, q_nz0, q_nz1, q_zv0, q_zv1, q_tl1, q_tl0, q_wif, q_swc, q_swn, List.cons_append, List.nil_append, if_true, if_false, e10, e01, Bool.false_eq_true, sh_2, sh_4, p_4_0 hp, wi, z, Option.toList]
theorem c_backL (H : CP h C L V (.inr s)) (D : CD h C τ) (O : lOk τ) (z : isW V L s 14 = true) (y : τ 0 7 = 0) : ∃ g, FrC C h g ∧ CLr g C L V (liB V L s τ) ∧ ∀ (Q : QT) (l1 : Option Value), wq X (d + 110) 15 122 [some (.ref 4), l1] [] h Q = wq X (d + 110) 15 268 [some (.ref 4), l1] [] g Q := by
  have wi := fun (Q : QT) => c_wordAt (X := X) (d := d + 105) (r := 10024) (i := 14) (Q := Q) H.1 rfl (by decide)
  have hp := (CP_p H).1
  have hU := H.2.1.2
  have hC : C = 5 ∨ C = 23 := hU
  have H1 := CP_sI (c := 4) (k := 7) (v := 1) H (by decide)
  have hp1 := (CP_p H1).1
  obtain ⟨g1, a1, a2, a3⟩ := c_avP (X := X) (d := d + 105) H1
  have u0 := O.2.2.2.1 y
  have t1 : ∀ c k, (c ≠ 2 ∨ k = 1) → (c ≠ 4 ∨ k ≠ 2 ∧ k ≠ 3) → ¬ (c = 4 ∧ k = 7) → m_gI g1 c k = m_gI h c k := fun c k x w v => by
    rw [a1.2.1 c k x w, gI_sI, if_neg v]
  have F : CF g1 C L V (nx V L s, 0, 0, fun _ => (0, 0)) := by
    refine ⟨a2.1, a2.2.1, a2.2.2, ?_, Nat.zero_le _, ?_, Nat.zero_le _, fun i hi => absurd hi (Nat.not_lt_zero _)⟩
    · rw [t1 _ _ (by omega) (by omega) (by omega), D.2.2.1.2.1, u0.1]
    · rw [t1 _ _ (by omega) (by omega) (by omega), D.2.2.1.1, u0.2]
  obtain ⟨g2, b1, b2, b3⟩ := c_level (X := X) 48 0 0 (d + 109) (by decide) (by decide) (by decide) (by omega) g1 _ F
  refine ⟨g2, FrC_tr (FrC_s (c := 4) (k := 7) (v := 1) (by unfold exC; omega)) (FrC_tr (FrC_P a1) (FrC_F b1)), ?_, fun Q l1 => ?_⟩
  · unfold liB
    cases q : lev V L 48 0 0 (nx V L s, 0, 0, fun _ => (0, 0)) with
    | inl e =>
      rw [q] at b2
      exact b2
    | inr S =>
      rw [q] at b2
      have b2 : CF g2 C L V S := b2
      have eI : ∀ c k, C ≤ c ∧ c ≤ C + 9 ∨ c = 4 ∧ 8 ≤ k → m_gI g2 c k = m_gI h c k := fun c k x => by
        rw [b1.2.1 c k (by omega) (by omega) (by omega) (by omega)]
        exact t1 c k (by omega) (by omega) (by omega)
      have eL : ∀ c k, 20 ≤ c ∧ c ≤ 22 → m_gL g2 c k = m_gL h c k := fun c k x => by
        rw [b1.2.2 c k (by omega), a1.2.2 c k (by omega), gL_sI]
      refine ⟨⟨b2.1, b2.2.1, b2.2.2.1⟩, ⟨?_, ?_, ?_, ?_, ?_, ?_, ?_⟩, ⟨?_, ?_, ?_, ?_, ?_, ?_, ?_, ?_⟩, ⟨?_, ?_, ?_⟩, ⟨?_, ?_, ?_⟩, ?_, ?_, ?_⟩
      · exact (eI _ _ (by omega)).trans D.1.1
      · exact (eI _ _ (by omega)).trans D.1.2.1
      · show m_gI g2 C 10 = nI (τ 0 2)
        exact (eI _ _ (by omega)).trans D.1.2.2.1
      · exact (eI _ _ (by omega)).trans D.1.2.2.2.1
      · exact (eI _ _ (by omega)).trans D.1.2.2.2.2.1
      · exact (eI _ _ (by omega)).trans D.1.2.2.2.2.2.1
      · exact (eI _ _ (by omega)).trans D.1.2.2.2.2.2.2
      · exact fun i hi => (eI _ _ (by omega)).trans (D.2.1.1 i hi)
      · exact fun i hi => (eI _ _ (by omega)).trans (D.2.1.2.1 i hi)
      · exact fun i hi => (eI _ _ (by omega)).trans (D.2.1.2.2.1 i hi)
      · exact fun i hi => (eI _ _ (by omega)).trans (D.2.1.2.2.2.1 i hi)
      · exact fun i hi => (eI _ _ (by omega)).trans (D.2.1.2.2.2.2.1 i hi)
      · exact fun i hi => (eI _ _ (by omega)).trans (D.2.1.2.2.2.2.2.1 i hi)
      · exact fun i hi => (eI _ _ (by omega)).trans (D.2.1.2.2.2.2.2.2.1 i hi)
      · exact fun i hi => (eI _ _ (by omega)).trans (D.2.1.2.2.2.2.2.2.2 i hi)
      · exact b2.2.2.2.2.2.1
      · exact b2.2.2.2.1
      · exact b2.2.2.2.2.2.2.2
      · exact fun i hi => (eL _ _ (by omega)).trans (D.2.2.2.1.1 i hi)
      · exact fun i hi => (eL _ _ (by omega)).trans (D.2.2.2.1.2.1 i hi)
      · exact fun i hi => (eL _ _ (by omega)).trans (D.2.2.2.1.2.2 i hi)
      · show m_gI g2 4 7 = nI 1
        rw [b1.2.1 _ _ (by omega) (by omega) (by omega) (by omega), a1.2.1 _ _ (by omega) (by omega), gI_sI, if_pos ⟨rfl, rfl⟩]
        rfl
      · exact (eI _ _ (by omega)).trans D.2.2.2.2.2.1
      · exact (eI _ _ (by omega)).trans D.2.2.2.2.2.2
  · simp only [u15_122, u15_123, u15_126, u15_128, u15_131, u15_134, u15_135, u15_138, u15_141, u15_142, u15_143, u15_146, u15_147, u15_150, eq_self, q_nl0, q_nlI, q_nlR, not_false_eq_true, q_nz0, q_nz1, q_zv0, q_zv1, q_tl1, q_tl0, q_wif, q_swc, q_swn, List.cons_append, List.nil_append, if_true, if_false, e10, e01, Bool.false_eq_true, sh_2, sh_4, p_4_0 hp, wi, z, D.2.2.2.2.1, nI_z1 O.2.2.1.1, y, Option.toList, show ¬ ((1 : Int32) = 0) by decide, gR_sI]
    refine (a3 _).trans ?_
    simp only [u15_153, u15_154, u15_155, u15_156, eq_self, q_nl0, q_nlI, q_nlR, not_false_eq_true, q_nz0, q_nz1, q_zv0, q_zv1, q_tl1, q_tl0, q_wif, q_swc, q_swn, List.cons_append, List.nil_append, if_true, if_false, e10, e01, Bool.false_eq_true, sh_4]
    refine (b3 _).trans ?_
    simp only [u15_159, eq_self, q_nl0, q_nlI, q_nlR, not_false_eq_true, q_nz0, q_nz1, q_zv0, q_zv1, q_tl1, q_tl0, q_wif, q_swc, q_swn, List.cons_append, List.nil_append, if_true, if_false, e10, e01, Bool.false_eq_true]
theorem c_foesL (H : CP h C L V (.inr s)) (D : CD h C τ) (O : lOk τ) (z : isW V L s 24 = true) (y : τ 0 10 = 0) : ∃ g, FrC C h g ∧ CLr g C L V (liF V L s τ) ∧ ∀ (Q : QT) (l1 : Option Value), wq X (d + 110) 15 162 [some (.ref 4), l1] [] h Q = wq X (d + 110) 15 268 [some (.ref 4), l1] [] g Q := by
  have wi := fun (Q : QT) => c_wordAt (X := X) (d := d + 105) (r := 10034) (i := 24) (Q := Q) H.1 rfl (by decide)
  have hp := (CP_p H).1
  have hu := H.2.1.1
  have hU := H.2.1.2
  have hC : C = 5 ∨ C = 23 := hU
  have H1 := CP_sI (c := 4) (k := 8) (v := 1) H (by decide)
  obtain ⟨g1, a1, a2, a3⟩ := c_numB (X := X) (d := d + 103) (i := 24) (m := 100) (r0 := 10034) H1 rfl (by decide) (by decide)
  have a4 := CP_sI (c := C) (k := 14) (v := nI (fP1 V L s).2) a2 (by omega)
  have hu4 := (CP_p a4).2.1
  obtain ⟨g2, b1, b2, b3⟩ := c_numB (X := X) (d := d + 103) (i := 25) (m := 999) (r0 := 10035) a4 rfl (by decide) (by decide)
  have b4 := CP_sI (c := C) (k := 15) (v := nI (fP2 V L s).2) b2 (by omega)
  have hu5 := (CP_p b4).2.1
  have eI : ∀ c k, (c ≠ 2 ∨ k = 1) → (c ≠ 4 ∨ k ≠ 2 ∧ k ≠ 3) → ¬ (c = 4 ∧ k = 8) → ¬ (c = C ∧ (k = 14 ∨ k = 15)) → m_gI (m_sI g2 C 15 (nI (fP2 V L s).2)) c k = m_gI h c k := fun c k x w v u => by
    rw [gI_sI, if_neg (by omega), b1.2.1 c k x w, gI_sI, if_neg (by omega), a1.2.1 c k x w, gI_sI, if_neg v]
  have eL : ∀ c k, 20 ≤ c ∧ c ≤ 22 → m_gL (m_sI g2 C 15 (nI (fP2 V L s).2)) c k = m_gL h c k := fun c k x => by
    rw [gL_sI, b1.2.2 c k (by omega), gL_sI, a1.2.2 c k (by omega), gL_sI]
  refine ⟨m_sI g2 C 15 (nI (fP2 V L s).2), FrC_tr (FrC_s (c := 4) (k := 8) (v := 1) (by unfold exC; omega)) (FrC_tr (FrC_P a1) (FrC_tr (FrC_s (c := C) (k := 14) (v := nI (fP1 V L s).2) (by unfold exC; omega)) (FrC_tr (FrC_P b1) (FrC_s (c := C) (k := 15) (v := nI (fP2 V L s).2) (by unfold exC; omega))))), ?_, fun Q l1 => ?_⟩
  · unfold liF
    change CP _ C L V (fP2 V L s).1 at b4
    cases q : (fP2 V L s).1 with
    | inl e =>
      rw [q] at b4
      exact b4
    | inr s' =>
      rw [q] at b4
      refine ⟨b4, ⟨?_, ?_, ?_, ?_, ?_, ?_, ?_⟩, ⟨?_, ?_, ?_, ?_, ?_, ?_, ?_, ?_⟩, ⟨?_, ?_, ?_⟩, ⟨?_, ?_, ?_⟩, ?_, ?_, ?_⟩
      · exact (eI _ _ (by omega) (by omega) (by omega) (by omega)).trans D.1.1
      · exact (eI _ _ (by omega) (by omega) (by omega) (by omega)).trans D.1.2.1
      · exact (eI _ _ (by omega) (by omega) (by omega) (by omega)).trans D.1.2.2.1
      · show _ = nI (fP1 V L s).2
        rw [gI_sI, if_neg (by omega), b1.2.1 _ _ (by omega) (by omega), gI_sI, if_pos ⟨rfl, rfl⟩]
      · show _ = nI (fP2 V L s).2
        rw [gI_sI, if_pos ⟨rfl, rfl⟩]
      · exact (eI _ _ (by omega) (by omega) (by omega) (by omega)).trans D.1.2.2.2.2.2.1
      · exact (eI _ _ (by omega) (by omega) (by omega) (by omega)).trans D.1.2.2.2.2.2.2
      · exact fun i hi => (eI _ _ (by omega) (by omega) (by omega) (by omega)).trans (D.2.1.1 i hi)
      · exact fun i hi => (eI _ _ (by omega) (by omega) (by omega) (by omega)).trans (D.2.1.2.1 i hi)
      · exact fun i hi => (eI _ _ (by omega) (by omega) (by omega) (by omega)).trans (D.2.1.2.2.1 i hi)
      · exact fun i hi => (eI _ _ (by omega) (by omega) (by omega) (by omega)).trans (D.2.1.2.2.2.1 i hi)
      · exact fun i hi => (eI _ _ (by omega) (by omega) (by omega) (by omega)).trans (D.2.1.2.2.2.2.1 i hi)
      · exact fun i hi => (eI _ _ (by omega) (by omega) (by omega) (by omega)).trans (D.2.1.2.2.2.2.2.1 i hi)
      · exact fun i hi => (eI _ _ (by omega) (by omega) (by omega) (by omega)).trans (D.2.1.2.2.2.2.2.2.1 i hi)
      · exact fun i hi => (eI _ _ (by omega) (by omega) (by omega) (by omega)).trans (D.2.1.2.2.2.2.2.2.2 i hi)
      · exact (eI _ _ (by omega) (by omega) (by omega) (by omega)).trans D.2.2.1.1
      · exact (eI _ _ (by omega) (by omega) (by omega) (by omega)).trans D.2.2.1.2.1
      · exact fun i hi => (eI _ _ (by omega) (by omega) (by omega) (by omega)).trans (D.2.2.1.2.2 i hi)
      · exact fun i hi => (eL _ _ (by omega)).trans (D.2.2.2.1.1 i hi)
      · exact fun i hi => (eL _ _ (by omega)).trans (D.2.2.2.1.2.1 i hi)
      · exact fun i hi => (eL _ _ (by omega)).trans (D.2.2.2.1.2.2 i hi)
      · exact (eI _ _ (by omega) (by omega) (by omega) (by omega)).trans D.2.2.2.2.1
      · show _ = nI 1
        rw [gI_sI, if_neg (by omega), b1.2.1 _ _ (by omega) (by omega), gI_sI, if_neg (by omega), a1.2.1 _ _ (by omega) (by omega), gI_sI, if_pos ⟨rfl, rfl⟩]
        rfl
      · exact (eI _ _ (by omega) (by omega) (by omega) (by omega)).trans D.2.2.2.2.2.2
  · simp only [u15_162, u15_163, u15_166, u15_168, u15_171, u15_174, u15_175, u15_178, u15_181, u15_182, u15_183, u15_186, u15_187, u15_190, u15_191, u15_193, u15_195, eq_self, q_nl0, q_nlI, q_nlR, not_false_eq_true, q_nz0, q_nz1, q_zv0, q_zv1, q_tl1, q_tl0, q_wif, q_swc, q_swn, List.cons_append, List.nil_append, if_true, if_false, e10, e01, Bool.false_eq_true, sh_2, sh_4, p_4_0 hp, wi, z, D.2.2.2.2.2.1, nI_z1 O.2.2.1.2.1, y, hu, Option.toList, show ¬ ((1 : Int32) = 0) by decide, gR_sI]
    refine (a3 _).trans ?_
    change wq X (d + 110) 15 198 _ [.int (nI (fP1 V L s).2), _] _ Q = _
    simp only [u15_198, u15_201, u15_202, u15_205, u15_206, u15_208, u15_211, eq_self, q_nl0, q_nlI, q_nlR, not_false_eq_true, q_nz0, q_nz1, q_zv0, q_zv1, q_tl1, q_tl0, q_wif, q_swc, q_swn, List.cons_append, List.nil_append, if_true, if_false, e10, e01, Bool.false_eq_true, sh_4, shT_0 hU, hu4]
    refine (b3 _).trans ?_
    change wq X (d + 110) 15 214 _ [.int (nI (fP2 V L s).2), _] _ Q = _
    simp only [u15_214, u15_217, eq_self, q_nl0, q_nlI, q_nlR, not_false_eq_true, q_nz0, q_nz1, q_zv0, q_zv1, q_tl1, q_tl0, q_wif, q_swc, q_swn, List.cons_append, List.nil_append, if_true, if_false, e10, e01, Bool.false_eq_true, sh_4, shT_0 hU]
theorem c_drawL (H : CP h C L V (.inr s)) (D : CD h C τ) (O : lOk τ) (z : isW V L s 26 = true) (y : τ 0 11 = 0) : ∃ g, FrC C h g ∧ CLr g C L V (liW V L s τ) ∧ ∀ (Q : QT) (l1 : Option Value), wq X (d + 110) 15 220 [some (.ref 4), l1] [] h Q = wq X (d + 110) 15 268 [some (.ref 4), l1] [] g Q := by
  have wi := fun (Q : QT) => c_wordAt (X := X) (d := d + 105) (r := 10036) (i := 26) (Q := Q) H.1 rfl (by decide)
  have hp := (CP_p H).1
  have hu := H.2.1.1
  have hU := H.2.1.2
  have hC : C = 5 ∨ C = 23 := hU
  have H1 := CP_sI (c := 4) (k := 9) (v := 1) H (by decide)
  obtain ⟨g1, a1, a2, a3⟩ := c_numB (X := X) (d := d + 103) (i := 26) (m := 999) (r0 := 10036) H1 rfl (by decide) (by decide)
  have a4 := CP_sI (c := C) (k := 16) (v := nI (nuP V L 999 (exW V L 26 (.inr s))).2) a2 (by omega)
  have eI : ∀ c k, (c ≠ 2 ∨ k = 1) → (c ≠ 4 ∨ k ≠ 2 ∧ k ≠ 3) → ¬ (c = 4 ∧ k = 9) → ¬ (c = C ∧ k = 16) → m_gI (m_sI g1 C 16 (nI (nuP V L 999 (exW V L 26 (.inr s))).2)) c k = m_gI h c k := fun c k x w v u => by
    rw [gI_sI, if_neg (by omega), a1.2.1 c k x w, gI_sI, if_neg v]
  have eL : ∀ c k, 20 ≤ c ∧ c ≤ 22 → m_gL (m_sI g1 C 16 (nI (nuP V L 999 (exW V L 26 (.inr s))).2)) c k = m_gL h c k := fun c k x => by
    rw [gL_sI, a1.2.2 c k (by omega), gL_sI]
  refine ⟨m_sI g1 C 16 (nI (nuP V L 999 (exW V L 26 (.inr s))).2), FrC_tr (FrC_s (c := 4) (k := 9) (v := 1) (by unfold exC; omega)) (FrC_tr (FrC_P a1) (FrC_s (c := C) (k := 16) (v := nI (nuP V L 999 (exW V L 26 (.inr s))).2) (by unfold exC; omega))), ?_, fun Q l1 => ?_⟩
  · unfold liW
    cases q : (nuP V L 999 (exW V L 26 (.inr s))).1 with
    | inl e =>
      rw [q] at a4
      exact a4
    | inr s' =>
      rw [q] at a4
      refine ⟨a4, ⟨?_, ?_, ?_, ?_, ?_, ?_, ?_⟩, ⟨?_, ?_, ?_, ?_, ?_, ?_, ?_, ?_⟩, ⟨?_, ?_, ?_⟩, ⟨?_, ?_, ?_⟩, ?_, ?_, ?_⟩
      · exact (eI _ _ (by omega) (by omega) (by omega) (by omega)).trans D.1.1
      · exact (eI _ _ (by omega) (by omega) (by omega) (by omega)).trans D.1.2.1
      · exact (eI _ _ (by omega) (by omega) (by omega) (by omega)).trans D.1.2.2.1
      · exact (eI _ _ (by omega) (by omega) (by omega) (by omega)).trans D.1.2.2.2.1
      · exact (eI _ _ (by omega) (by omega) (by omega) (by omega)).trans D.1.2.2.2.2.1
      · show _ = nI (nuP V L 999 (exW V L 26 (.inr s))).2
        rw [gI_sI, if_pos ⟨rfl, rfl⟩]
      · exact (eI _ _ (by omega) (by omega) (by omega) (by omega)).trans D.1.2.2.2.2.2.2
      · exact fun i hi => (eI _ _ (by omega) (by omega) (by omega) (by omega)).trans (D.2.1.1 i hi)
      · exact fun i hi => (eI _ _ (by omega) (by omega) (by omega) (by omega)).trans (D.2.1.2.1 i hi)
      · exact fun i hi => (eI _ _ (by omega) (by omega) (by omega) (by omega)).trans (D.2.1.2.2.1 i hi)
      · exact fun i hi => (eI _ _ (by omega) (by omega) (by omega) (by omega)).trans (D.2.1.2.2.2.1 i hi)
      · exact fun i hi => (eI _ _ (by omega) (by omega) (by omega) (by omega)).trans (D.2.1.2.2.2.2.1 i hi)
      · exact fun i hi => (eI _ _ (by omega) (by omega) (by omega) (by omega)).trans (D.2.1.2.2.2.2.2.1 i hi)
      · exact fun i hi => (eI _ _ (by omega) (by omega) (by omega) (by omega)).trans (D.2.1.2.2.2.2.2.2.1 i hi)
      · exact fun i hi => (eI _ _ (by omega) (by omega) (by omega) (by omega)).trans (D.2.1.2.2.2.2.2.2.2 i hi)
      · exact (eI _ _ (by omega) (by omega) (by omega) (by omega)).trans D.2.2.1.1
      · exact (eI _ _ (by omega) (by omega) (by omega) (by omega)).trans D.2.2.1.2.1
      · exact fun i hi => (eI _ _ (by omega) (by omega) (by omega) (by omega)).trans (D.2.2.1.2.2 i hi)
      · exact fun i hi => (eL _ _ (by omega)).trans (D.2.2.2.1.1 i hi)
      · exact fun i hi => (eL _ _ (by omega)).trans (D.2.2.2.1.2.1 i hi)
      · exact fun i hi => (eL _ _ (by omega)).trans (D.2.2.2.1.2.2 i hi)
      · exact (eI _ _ (by omega) (by omega) (by omega) (by omega)).trans D.2.2.2.2.1
      · exact (eI _ _ (by omega) (by omega) (by omega) (by omega)).trans D.2.2.2.2.2.1
      · show _ = nI 1
        rw [gI_sI, if_neg (by omega), a1.2.1 _ _ (by omega) (by omega), gI_sI, if_pos ⟨rfl, rfl⟩]
        rfl
  · simp only [u15_220, u15_221, u15_224, u15_226, u15_229, u15_232, u15_233, u15_236, u15_239, u15_240, u15_241, u15_244, u15_245, u15_248, u15_249, u15_251, u15_254, eq_self, q_nl0, q_nlI, q_nlR, not_false_eq_true, q_nz0, q_nz1, q_zv0, q_zv1, q_tl1, q_tl0, q_wif, q_swc, q_swn, List.cons_append, List.nil_append, if_true, if_false, e10, e01, Bool.false_eq_true, sh_2, sh_4, p_4_0 hp, wi, z, D.2.2.2.2.2.2, nI_z1 O.2.2.1.2.2, y, hu, Option.toList, show ¬ ((1 : Int32) = 0) by decide, gR_sI]
    refine (a3 _).trans ?_
    simp only [u15_257, u15_260, eq_self, q_nl0, q_nlI, q_nlR, not_false_eq_true, q_nz0, q_nz1, q_zv0, q_zv1, q_tl1, q_tl0, q_wif, q_swc, q_swn, List.cons_append, List.nil_append, if_true, if_false, e10, e01, Bool.false_eq_true, sh_4, shT_0 hU]
/-- a line, from the loop's head to its head -/
theorem c_line {i : Nat} (H : CP h C L V (.inr s)) (D : CD h C τ) (O : lOk τ) (hi : i < 1600) (hk : tK V L s ≠ 0) : ∃ g, FrC C h g ∧ CLr g C L V (exL V L 59 (liX V L s τ)) ∧ ∀ Q : QT, wq X (d + 110) 15 41 [some (.ref 4), some (.int (nI i))] [] h Q = wq X (d + 110) 15 41 [some (.ref 4), some (.int (nI (i + 1)))] [] g Q := by
  have hp := (CP_p H).1
  have hu := H.2.1.1
  have hU := H.2.1.2
  have hC : C = 5 ∨ C = 23 := hU
  have w1 := fun (Q : QT) => c_wordAt (X := X) (d := d + 105) (r := 10011) (i := 1) (Q := Q) H.1 rfl (by decide)
  have w5 := fun (Q : QT) => c_wordAt (X := X) (d := d + 105) (r := 10015) (i := 5) (Q := Q) H.1 rfl (by decide)
  have w11 := fun (Q : QT) => c_wordAt (X := X) (d := d + 105) (r := 10021) (i := 11) (Q := Q) H.1 rfl (by decide)
  have ek : (nI (tK V L s) = 0) = False := eq_false (fun q => hk ((nI_eq (a := tK V L s) (b := 0) (by have := tK_4 (V := V) (L := L) (s := s); omega) (by decide)).mp q))
  have c1 : (nI i < 1600) = True := eq_true (nI_lt (b := 1600) hi (by decide))
  have n10 : ¬ ((1 : Int32) = 0) := by decide
  have mid : ∃ g, FrC C h g ∧ CLr g C L V (liX V L s τ) ∧ ∀ Q : QT, wq X (d + 110) 15 41 [some (.ref 4), some (.int (nI i))] [] h Q = wq X (d + 110) 15 268 [some (.ref 4), some (.int (nI i))] [] g Q := by
    unfold liX
    by_cases z1 : isW V L s 1 = true
    · rw [if_pos z1]
      obtain ⟨g, a1, a2, a3⟩ := c_readCraft (X := X) (d := d + 102) H D O.2.1 O.1.1
      refine ⟨g, a1, a2, fun Q => ?_⟩
      simp only [u15_41, u15_42, u15_45, u15_48, u15_49, u15_52, u15_55, u15_56, u15_59, u15_62, u15_65, u15_66, u15_69, u15_71, u15_74, u15_77, u15_78, eq_self, q_nl0, q_nlI, q_nlR, not_false_eq_true, q_nz0, q_nz1, q_zv0, q_zv1, q_tl1, q_tl0, q_wif, q_swc, q_swn, List.cons_append, List.nil_append, if_true, if_false, e10, e01, Bool.false_eq_true, sh_2, sh_4, p_4_0 hp, c1, H.2.2, H.1.2.2.1, ek, w1, z1, Option.toList, n10]
      refine (a3 _).trans ?_
      simp only [u15_81, eq_self, q_nl0, q_nlI, q_nlR, not_false_eq_true, q_nz0, q_nz1, q_zv0, q_zv1, q_tl1, q_tl0, q_wif, q_swc, q_swn, List.cons_append, List.nil_append, if_true, if_false, e10, e01, Bool.false_eq_true]
    · rw [if_neg z1]
      by_cases z5 : isW V L s 5 = true
      · rw [if_pos z5]
        obtain ⟨g, a1, a2, a3⟩ := c_readMan (X := X) (d := d + 102) H D O.2.1 O.1.1 O.1.2.1
        refine ⟨g, a1, a2, fun Q => ?_⟩
        simp only [u15_41, u15_42, u15_45, u15_48, u15_49, u15_52, u15_55, u15_56, u15_59, u15_62, u15_65, u15_66, u15_69, u15_71, u15_74, u15_77, u15_78, u15_81, u15_84, u15_85, u15_88, u15_90, u15_93, u15_96, u15_97, eq_self, q_nl0, q_nlI, q_nlR, not_false_eq_true, q_nz0, q_nz1, q_zv0, q_zv1, q_tl1, q_tl0, q_wif, q_swc, q_swn, List.cons_append, List.nil_append, if_true, if_false, e10, e01, Bool.false_eq_true, sh_2, sh_4, p_4_0 hp, c1, H.2.2, H.1.2.2.1, ek, w1, z1, w5, z5, Option.toList, n10]
        refine (a3 _).trans ?_
        simp only [u15_100, eq_self, q_nl0, q_nlI, q_nlR, not_false_eq_true, q_nz0, q_nz1, q_zv0, q_zv1, q_tl1, q_tl0, q_wif, q_swc, q_swn, List.cons_append, List.nil_append, if_true, if_false, e10, e01, Bool.false_eq_true]
      · rw [if_neg z5]
        by_cases z11 : isW V L s 11 = true
        · rw [if_pos z11]
          obtain ⟨g, a1, a2, a3⟩ := c_readDemand (X := X) (d := d + 102) H D O.2.1 O.1.2.2.1
          refine ⟨g, a1, a2, fun Q => ?_⟩
          simp only [u15_41, u15_42, u15_45, u15_48, u15_49, u15_52, u15_55, u15_56, u15_59, u15_62, u15_65, u15_66, u15_69, u15_71, u15_74, u15_77, u15_78, u15_81, u15_84, u15_85, u15_88, u15_90, u15_93, u15_96, u15_97, u15_100, u15_103, u15_104, u15_107, u15_109, u15_112, u15_115, u15_116, eq_self, q_nl0, q_nlI, q_nlR, not_false_eq_true, q_nz0, q_nz1, q_zv0, q_zv1, q_tl1, q_tl0, q_wif, q_swc, q_swn, List.cons_append, List.nil_append, if_true, if_false, e10, e01, Bool.false_eq_true, sh_2, sh_4, p_4_0 hp, c1, H.2.2, H.1.2.2.1, ek, w1, z1, w5, z5, w11, z11, Option.toList, n10]
          refine (a3 _).trans ?_
          simp only [u15_119, eq_self, q_nl0, q_nlI, q_nlR, not_false_eq_true, q_nz0, q_nz1, q_zv0, q_zv1, q_tl1, q_tl0, q_wif, q_swc, q_swn, List.cons_append, List.nil_append, if_true, if_false, e10, e01, Bool.false_eq_true]
        · rw [if_neg z11]
          have st : ∀ Q : QT, wq X (d + 110) 15 41 [some (.ref 4), some (.int (nI i))] [] h Q = wq X (d + 110) 15 122 [some (.ref 4), some (.int (nI i))] [] h Q := fun Q => by
            simp only [u15_41, u15_42, u15_45, u15_48, u15_49, u15_52, u15_55, u15_56, u15_59, u15_62, u15_65, u15_66, u15_69, u15_71, u15_74, u15_77, u15_78, u15_81, u15_84, u15_85, u15_88, u15_90, u15_93, u15_96, u15_97, u15_100, u15_103, u15_104, u15_107, u15_109, u15_112, eq_self, q_nl0, q_nlI, q_nlR, not_false_eq_true, q_nz0, q_nz1, q_zv0, q_zv1, q_tl1, q_tl0, q_wif, q_swc, q_swn, List.cons_append, List.nil_append, if_true, if_false, e10, e01, Bool.false_eq_true, sh_2, sh_4, p_4_0 hp, c1, H.2.2, H.1.2.2.1, ek, w1, z1, w5, z5, w11, z11, Option.toList]
          by_cases zb : isW V L s 14 = true ∧ τ 0 7 = 0
          · rw [if_pos zb]
            obtain ⟨g, a1, a2, a3⟩ := c_backL (X := X) (d := d) H D O zb.1 zb.2
            exact ⟨g, a1, a2, fun Q => (st Q).trans (a3 Q _)⟩
          · rw [if_neg zb]
            have st := fun Q => (st Q).trans (c_noB H D O zb Q _)
            by_cases zf : isW V L s 24 = true ∧ τ 0 10 = 0
            · rw [if_pos zf]
              obtain ⟨g, a1, a2, a3⟩ := c_foesL (X := X) (d := d) H D O zf.1 zf.2
              exact ⟨g, a1, a2, fun Q => (st Q).trans (a3 Q _)⟩
            · rw [if_neg zf]
              have st := fun Q => (st Q).trans (c_noF H D O zf Q _)
              by_cases zw : isW V L s 26 = true ∧ τ 0 11 = 0
              · rw [if_pos zw]
                obtain ⟨g, a1, a2, a3⟩ := c_drawL (X := X) (d := d) H D O zw.1 zw.2
                exact ⟨g, a1, a2, fun Q => (st Q).trans (a3 Q _)⟩
              · rw [if_neg zw]
                have st := fun Q => (st Q).trans (c_noW H D O zw Q _)
                obtain ⟨g, a1, a2, a3⟩ := c_refP (X := X) (d := d + 109) (k := 2) H (by decide)
                refine ⟨g, FrC_P a1, a2, fun Q => (st Q).trans ?_⟩
                simp only [u15_263, u15_264, u15_265, eq_self, q_nl0, q_nlI, q_nlR, not_false_eq_true, q_nz0, q_nz1, q_zv0, q_zv1, q_tl1, q_tl0, q_wif, q_swc, q_swn, List.cons_append, List.nil_append, if_true, if_false, e10, e01, Bool.false_eq_true, sh_4]
                refine (a3 _).trans ?_
                rfl
  obtain ⟨g1, a1, a2, a3⟩ := mid
  obtain ⟨g2, b1, b2, b3⟩ := c_semiL (X := X) (d := d + 104) hC a2
  refine ⟨g2, FrC_tr a1 b1, b2, fun Q => (a3 Q).trans ?_⟩
  generalize hz : wq X (d + 110) 15 41 [some (.ref 4), some (.int (nI (i + 1)))] [] g2 Q = Z
  simp only [u15_268, u15_269, u15_271, eq_self, q_nl0, q_nlI, q_nlR, not_false_eq_true, q_nz0, q_nz1, q_zv0, q_zv1, q_tl1, q_tl0, q_wif, q_swc, q_swn, List.cons_append, List.nil_append, if_true, if_false, e10, e01, Bool.false_eq_true, sh_4]
  refine (b3 _).trans ?_
  simp only [u15_274, u15_277, eq_self, q_nl0, q_nlI, q_nlR, not_false_eq_true, q_nz0, q_nz1, q_zv0, q_zv1, q_tl1, q_tl0, q_wif, q_swc, q_swn, List.cons_append, List.nil_append, if_true, if_false, e10, e01, Bool.false_eq_true, nI_1]
  exact hz
end CLINE
