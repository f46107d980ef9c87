/-! A TEXT, as the class reads it -/
theorem rd_e {V : Nat → Nat} {L : Nat} {e : Nat × Nat} : ∀ k, rdL V L k (.inl e) = .inl e
  | 0 => rfl
  | _ + 1 => rfl
section READ
variable {X : XT} {d C L : Nat} {h : HT} {V : Nat → Nat}
theorem c_lines (hv : ∀ i, i < L → V i < 256) : ∀ k i (r : RL) (h : HT), i + k = 1600 → CLr h C L V r → (∀ q, r = .inr q → lOk q.2) → ∃ g x, FrC C h g ∧ CLr g C L V (rdL V L k r) ∧ ∀ Q : QT, wq X (d + 110) 15 41 [some (.ref 4), some (.int (nI i))] [] h Q = wq X (d + 110) 15 280 [some (.ref 4), some (.int x)] [] g Q := by
  intro k
  induction k with
  | zero =>
    intro i r h hi H O
    have : i = 1600 := by omega
    subst this
    refine ⟨h, nI 1600, FrC_rf, H, fun Q => ?_⟩
    have c1 : (nI 1600 < (1600 : Int32)) = False := eq_false (by decide)
    rw [u15_41]
    simp only [u15_42, u15_45, eq_self, q_nl0, q_nlI, q_nlR, not_false_eq_true, q_nz0, q_nz1, q_zv0, q_zv1, q_tl1, q_tl0, q_wif, q_swc, q_swn, List.cons_append, List.nil_append, if_true, if_false, e10, e01, Bool.false_eq_true, c1]
  | succ k ih =>
    intro i r h hi H O
    have c1 : (nI i < 1600) = True := eq_true (nI_lt (b := 1600) (by omega) (by decide))
    cases r with
    | inl e =>
      have HB : CB h C L V e := H
      refine ⟨h, nI i, FrC_rf, H, fun Q => ?_⟩
      rw [u15_41]
      simp only [u15_42, u15_45, u15_48, u15_49, u15_52, eq_self, q_nl0, q_nlI, q_nlR, not_false_eq_true, q_nz0, q_nz1, q_zv0, q_zv1, q_tl1, q_tl0, q_wif, q_swc, q_swn, List.cons_append, List.nil_append, if_true, if_false, e10, e01, Bool.false_eq_true, c1, sh_4, HB.2.2.1, CP_bad HB]
    | inr q =>
      obtain ⟨H1, H2⟩ := H
      have hp := (CP_p H1).1
      by_cases z : tK V L q.1 = 0
      · rw [show rdL V L (k + 1) (.inr q) = .inr q from if_pos z]
        refine ⟨h, nI i, FrC_rf, ⟨H1, H2⟩, fun Q => ?_⟩
        have ek : m_gI h 2 2 = 0 := by
          rw [H1.1.2.2.1, z]
          rfl
        rw [u15_41]
        simp only [u15_42, u15_45, u15_48, u15_49, u15_52, u15_55, u15_56, u15_59, u15_62, eq_self, q_nl0, q_nlI, q_nlR, not_false_eq_true, q_nz0, q_nz1, q_zv0, q_zv1, q_tl1, q_tl0, q_wif, q_swc, q_swn, List.cons_append, List.nil_append, if_true, if_false, e10, e01, Bool.false_eq_true, c1, sh_2, sh_4, p_4_0 hp, H1.2.2, ek]
      · rw [show rdL V L (k + 1) (.inr q) = rdL V L k (exL V L 59 (liX V L q.1 q.2)) from if_neg z]
        obtain ⟨g1, a1, a2, a3⟩ := c_line (X := X) (d := d) (i := i) H1 H2 (O q rfl) (by omega) z
        obtain ⟨g, x, b1, b2, b3⟩ := ih (i + 1) _ g1 (by omega) a2 (fun q' e' => (exL_i hv (O q rfl) (s' := q'.1) (τ' := q'.2) e').1)
        exact ⟨g, x, FrC_tr a1 b1, b2, fun Q => (a3 Q).trans (b3 Q)⟩
theorem c_clear (hp : Ptr h) (hU : isT C) : ∃ g, FrC C h g ∧ g.2 = h.2 ∧ (∀ c k, c < 5 → m_gI g c k = m_gI h c k) ∧ (m_gI g C 0 = 0 ∧ m_gI g C 4 = 0 ∧ m_gI g C 9 = 0 ∧ m_gI g C 10 = 0 ∧ m_gI g C 14 = 0 ∧ m_gI g C 15 = 0 ∧ m_gI g C 16 = 0) ∧ (m_gI g (C + 10) 1 = 0 ∧ m_gI g (C + 10) 2 = 0) ∧ ∀ Q : QT, wq X (d + 1) 16 0 [some (.ref C)] [] h Q = Q none g := by
  have hC : C = 5 ∨ C = 23 := hU
  refine ⟨m_sI (m_sI (m_sI (m_sI (m_sI (m_sI (m_sI (m_sI (m_sI h C 0 0) C 4 0) C 9 0) C 10 0) (C + 10) 1 0) (C + 10) 2 0) C 14 0) C 15 0) C 16 0, ?_, rfl, ?_, ⟨?_, ?_, ?_, ?_, ?_, ?_, ?_⟩, ⟨?_, ?_⟩, fun Q => ?_⟩
  · exact FrC_tr (FrC_s (by unfold exC; omega)) (FrC_tr (FrC_s (by unfold exC; omega)) (FrC_tr (FrC_s (by unfold exC; omega)) (FrC_tr (FrC_s (by unfold exC; omega)) (FrC_tr (FrC_s (by unfold exC; omega)) (FrC_tr (FrC_s (by unfold exC; omega)) (FrC_tr (FrC_s (by unfold exC; omega)) (FrC_tr (FrC_s (by unfold exC; omega)) (FrC_s (by unfold exC; omega)))))))))
  · intro c k hc
    iterate 9 rw [gI_sI, if_neg (by omega)]
  · iterate 8 rw [gI_sI, if_neg (by omega)]
    rw [gI_sI, if_pos ⟨rfl, rfl⟩]
  · iterate 7 rw [gI_sI, if_neg (by omega)]
    rw [gI_sI, if_pos ⟨rfl, rfl⟩]
  · iterate 6 rw [gI_sI, if_neg (by omega)]
    rw [gI_sI, if_pos ⟨rfl, rfl⟩]
  · iterate 5 rw [gI_sI, if_neg (by omega)]
    rw [gI_sI, if_pos ⟨rfl, rfl⟩]
  · iterate 2 rw [gI_sI, if_neg (by omega)]
    rw [gI_sI, if_pos ⟨rfl, rfl⟩]
  · rw [gI_sI, if_neg (by omega)]
    rw [gI_sI, if_pos ⟨rfl, rfl⟩]
  · rw [gI_sI, if_pos ⟨rfl, rfl⟩]
  · iterate 4 rw [gI_sI, if_neg (by omega)]
    rw [gI_sI, if_pos ⟨rfl, rfl⟩]
  · iterate 3 rw [gI_sI, if_neg (by omega)]
    rw [gI_sI, if_pos ⟨rfl, rfl⟩]
  · have hp' : Ptr (m_sI (m_sI (m_sI (m_sI h C 0 0) C 4 0) C 9 0) C 10 0) := hp
    simp only [u16_0, u16_1, u16_2, u16_5, u16_6, u16_7, u16_10, u16_11, u16_12, u16_15, u16_16, u16_17, u16_20, u16_21, u16_24, u16_27, u16_28, u16_29, u16_32, u16_33, u16_34, u16_37, u16_38, u16_39, u16_42, u17_0, u17_1, u17_2, u17_5, u17_6, u17_7, u17_10, eq_self, q_nl0, q_nlI, q_nlR, not_false_eq_true, q_nz0, q_nz1, q_zv0, q_zv1, q_tl1, q_tl0, q_wif, q_swc, q_swn, List.cons_append, List.nil_append, if_true, if_false, e10, e01, Bool.false_eq_true, shT_0 hU, shT_10 hU, pT_13 hU hp', Option.toList]
def CEnd (g : HT) (C : Nat) : RL → Prop
  | .inl e => m_gI g 4 2 = nI e.1 ∧ m_gI g 4 3 = nI e.2
  | .inr q => m_gI g 4 2 = 0 ∧ m_gI g 4 3 = -1 ∧ CCity g C q.2
def rdV : RL → Int32
  | .inl _ => 0
  | .inr _ => 1
/-- all that is read of the tape -/
def rdA (V : Nat → Nat) (L : Nat) : RL := rdL V L 1600 (.inr (tS V L 0, fun _ _ => 0))
theorem rdA_ok (hv : ∀ i, i < L → V i < 256) {q : Nat × CT} (e : rdA V L = .inr q) : lOk q.2 :=
  rdL_i hv 1600 _ (fun q' e' => by
    cases e'
    exact lOk_0) q e
theorem c_read (T : Tp h L V) (hu : m_gR h 4 1 = C) (hU : isT C) : ∃ g, FrC C h g ∧ CEnd g C (rdA V L) ∧ ∀ Q : QT, wq X (d + 110) 15 0 [some (.ref 4), none] [] h Q = Q (some (.int (rdV (rdA V L)))) g := by
  have hp := T.1
  have hC : C = 5 ∨ C = 23 := hU
  obtain ⟨g1, a1, a2, a3, a4, a5, a6⟩ := c_clear (X := X) (d := d + 108) hp hU
  have gR : ∀ c k, m_gR g1 c k = m_gR h c k := a1.1
  have hp1 : Ptr g1 := Ptr_of hp gR
  -- fields of the reader, the tape's beginning
  have b0 : ∃ g2, g2 = m_sI (m_sI (m_sI (m_sI (m_sI (m_sI g1 4 2 0) 4 3 (-1)) 4 7 0) 4 8 0) 4 9 0) 2 4 0 := ⟨_, rfl⟩
  obtain ⟨g2, b0⟩ := b0
  have b1 : FrC C g1 g2 := by
    rw [b0]
    exact FrC_tr (FrC_s (by unfold exC; omega)) (FrC_tr (FrC_s (by unfold exC; omega)) (FrC_tr (FrC_s (by unfold exC; omega)) (FrC_tr (FrC_s (by unfold exC; omega)) (FrC_tr (FrC_s (by unfold exC; omega)) (FrC_s (by unfold exC; omega))))))
  have b2 : ∀ c k, c ≠ 4 → ¬ (c = 2 ∧ k = 4) → m_gI g2 c k = m_gI g1 c k := fun c k x y => by
    rw [b0]
    iterate 6 rw [gI_sI, if_neg (by omega)]
  have b3 : m_gI g2 4 2 = 0 ∧ m_gI g2 4 3 = -1 ∧ m_gI g2 4 7 = 0 ∧ m_gI g2 4 8 = 0 ∧ m_gI g2 4 9 = 0 ∧ m_gI g2 2 4 = 0 := by
    rw [b0]
    exact ⟨rfl, rfl, rfl, rfl, rfl, rfl⟩
  have T2 : Tp g2 L V := ⟨Ptr_of hp1 b1.1, CTap_eq (fun c k x => (b2 c k (by omega) (by omega)).trans (a3 c k (by omega))) T.2.1, T.2.2⟩
  obtain ⟨g3, c1, c2, c3⟩ := c_advance (X := X) (d := d + 104) (p := 0) T2 (Nat.zero_le _) b3.2.2.2.2.2
  have e3 : ∀ k, m_gI g3 4 k = m_gI g2 4 k := fun k => c1.2.1 4 k (by omega)
  have P3 : CP g3 C L V (.inr (tS V L 0)) := ⟨c2, ⟨(c1.1 4 1).trans ((b1.1 4 1).trans ((gR 4 1).trans hu)), hU⟩, (e3 2).trans b3.1, (e3 3).trans b3.2.1⟩
  have e4 : ∀ c k, C ≤ c → m_gI g3 c k = m_gI g1 c k := fun c k x => (c1.2.1 c k (by omega)).trans (b2 c k (by omega) (by omega))
  have D3 : CD g3 C (fun _ _ => 0) := by
    refine ⟨⟨?_, ?_, ?_, ?_, ?_, ?_, ?_⟩, ⟨?_, ?_, ?_, ?_, ?_, ?_, ?_, ?_⟩, ⟨?_, ?_, ?_⟩, ⟨?_, ?_, ?_⟩, ?_, ?_, ?_⟩
    · exact (e4 _ _ (by omega)).trans a4.1
    · exact (e4 _ _ (by omega)).trans a4.2.1
    · exact (e4 _ _ (by omega)).trans a4.2.2.2.1
    · exact (e4 _ _ (by omega)).trans a4.2.2.2.2.1
    · exact (e4 _ _ (by omega)).trans a4.2.2.2.2.2.1
    · exact (e4 _ _ (by omega)).trans a4.2.2.2.2.2.2
    · exact (e4 _ _ (by omega)).trans a4.2.2.1
    · exact fun i hi => absurd hi (Nat.not_lt_zero _)
    · exact fun i hi => absurd hi (Nat.not_lt_zero _)
    · exact fun i hi => absurd hi (Nat.not_lt_zero _)
    · exact fun i hi => absurd hi (Nat.not_lt_zero _)
    · exact fun i hi => absurd hi (Nat.not_lt_zero _)
    · exact fun i hi => absurd hi (Nat.not_lt_zero _)
    · exact fun i hi => absurd hi (Nat.not_lt_zero _)
    · exact fun i hi => absurd hi (Nat.not_lt_zero _)
    · exact (e4 _ _ (by omega)).trans a5.1
    · exact (e4 _ _ (by omega)).trans a5.2
    · exact fun i hi => absurd hi (Nat.not_lt_zero _)
    · exact fun i hi => absurd hi (Nat.not_lt_zero _)
    · exact fun i hi => absurd hi (Nat.not_lt_zero _)
    · exact fun i hi => absurd hi (Nat.not_lt_zero _)
    · exact (e3 7).trans b3.2.2.1
    · exact (e3 8).trans b3.2.2.2.1
    · exact (e3 9).trans b3.2.2.2.2.1
  obtain ⟨g4, x, d1, d2, d3⟩ := c_lines (X := X) (d := d) (C := C) T.2.2.2 1600 0 (.inr (tS V L 0, fun _ _ => 0)) g3 rfl ⟨P3, D3⟩ (fun q' e' => by
    cases e'
    exact lOk_0)
  change CLr g4 C L V (rdA V L) at d2
  have P4 := CLr_P d2
  obtain ⟨hp4, hu4, -⟩ := CP_p P4
  obtain ⟨a, b, e, f1, f2, f3, f4⟩ := c_settle (X := X) (d := d + 107) hp4 hU
  have gz : ∀ k, m_gI (hZ g4 C a b e) 4 k = m_gI g4 4 k := fun k => gI_hZo (by omega)
  have fz : FrC C g4 (hZ g4 C a b e) := ⟨fun _ _ => rfl, fun c k n => gI_hZo (by unfold exC at n; omega), fun _ _ _ => rfl⟩
  have ft : FrT g2 g3 := c1
  refine ⟨hZ g4 C a b e, FrC_tr a1 (FrC_tr b1 (FrC_tr (FrC_P (FrP_T c1)) (FrC_tr d1 fz))), ?_, fun Q => ?_⟩
  · cases q : rdA V L with
    | inl x =>
      rw [q] at d2
      have d2 : CB g4 C L V x := d2
      exact ⟨(gz 2).trans d2.2.2.1, (gz 3).trans d2.2.2.2.2⟩
    | inr p =>
      rw [q] at d2
      exact ⟨(gz 2).trans d2.1.2.2.1, (gz 3).trans d2.1.2.2.2, CCity_Z hC d2.2 (rdA_ok T.2.2.2 q).1 f1 f2 f3⟩
  · simp only [u15_0, u15_1, u15_4, eq_self, q_nl0, q_nlI, q_nlR, not_false_eq_true, q_nz0, q_nz1, q_zv0, q_zv1, q_tl1, q_tl0, q_wif, q_swc, q_swn, List.cons_append, List.nil_append, if_true, if_false, e10, e01, Bool.false_eq_true, sh_4, shT_0 hU, hu]
    refine (a6 _).trans ?_
    simp only [u15_7, u15_8, u15_9, u15_12, u15_13, u15_14, u15_17, u15_18, u15_19, u15_22, u15_23, u15_24, u15_27, u15_28, u15_29, u15_32, u15_33, u15_36, u18_0, u18_1, u18_2, u18_5, u18_6, eq_self, q_nl0, q_nlI, q_nlR, not_false_eq_true, q_nz0, q_nz1, q_zv0, q_zv1, q_tl1, q_tl0, q_wif, q_swc, q_swn, List.cons_append, List.nil_append, if_true, if_false, e10, e01, Bool.false_eq_true, sh_2, sh_4, sh_8, p_4_0 hp1, gR_sI, Option.toList]
    rw [← b0]
    refine (c3 _).trans ?_
    simp only [u18_9, u15_39, u15_40, eq_self, q_nl0, q_nlI, q_nlR, not_false_eq_true, q_nz0, q_nz1, q_zv0, q_zv1, q_tl1, q_tl0, q_wif, q_swc, q_swn, List.cons_append, List.nil_append, if_true, if_false, e10, e01, Bool.false_eq_true]
    refine (d3 _).trans ?_
    simp only [u15_280, u15_281, u15_284, eq_self, q_nl0, q_nlI, q_nlR, not_false_eq_true, q_nz0, q_nz1, q_zv0, q_zv1, q_tl1, q_tl0, q_wif, q_swc, q_swn, List.cons_append, List.nil_append, if_true, if_false, e10, e01, Bool.false_eq_true, sh_4, shT_0 hU, hu4]
    refine (f4 _).trans ?_
    cases q : rdA V L with
    | inl x =>
      rw [q] at d2
      have d2 : CB g4 C L V x := d2
      simp only [u15_287, u15_288, u15_291, u15_294, u15_295, u15_298, u15_299, eq_self, q_nl0, q_nlI, q_nlR, not_false_eq_true, q_nz0, q_nz1, q_zv0, q_zv1, q_tl1, q_tl0, q_wif, q_swc, q_swn, List.cons_append, List.nil_append, if_true, if_false, e10, e01, Bool.false_eq_true, sh_4, gz, d2.2.2.1, CP_bad d2]
      rfl
    | inr p =>
      rw [q] at d2
      simp only [u15_287, u15_288, u15_291, u15_294, u15_295, u15_298, u15_299, eq_self, q_nl0, q_nlI, q_nlR, not_false_eq_true, q_nz0, q_nz1, q_zv0, q_zv1, q_tl1, q_tl0, q_wif, q_swc, q_swn, List.cons_append, List.nil_append, if_true, if_false, e10, e01, Bool.false_eq_true, sh_4, gz, d2.1.2.2.1]
      rfl
end READ
