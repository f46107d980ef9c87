/-! SMALL STEPS OF THE MODEL'S READER -/
def KP (h : HT) (L : Nat) (V : Nat → Nat) : RP → Prop
  | .inl e => KBd h e
  | .inr s => TkK h L V s ∧ m_gI h 195 4 = 0 ∧ m_gI h 195 5 = -1
def FrM (h g : HT) : Prop := (∀ c k, m_gR g c k = m_gR h c k) ∧ (∀ c k, ¬ (c = 195 ∧ 4 ≤ k ∧ k ≤ 9) → m_gI g c k = m_gI h c k) ∧ ∀ c k, c ≠ 195 ∨ k ≠ 10 → m_gL g c k = m_gL h c k
theorem FrM_rf {h : HT} : FrM h h := ⟨fun _ _ => rfl, fun _ _ _ => rfl, fun _ _ _ => rfl⟩
theorem FrM_tr {h g f : HT} (a : FrM h g) (b : FrM g f) : FrM h f := ⟨fun c k => (b.1 c k).trans (a.1 c k), fun c k x => (b.2.1 c k x).trans (a.2.1 c k x), fun c k x => (b.2.2 c k x).trans (a.2.2 c k x)⟩
theorem FrM_K {h g : HT} (a : FrK h g) : FrM h g := ⟨a.1, fun c k x => a.2.1 c k (by omega), a.2.2⟩
theorem KP_mis {L s k : Nat} {h : HT} {V : Nat → Nat} (hk : 0 < k ∧ k < 10) (H : TkK h L V s) : FrM h (m_sI (m_sI h 195 4 (nI (kdO V L s k))) 195 5 (nI s)) ∧ KBd (m_sI (m_sI h 195 4 (nI (kdO V L s k))) 195 5 (nI s)) (kdO V L s k, s) := by
  refine ⟨⟨fun _ _ => rfl, fun c j x => ?_, fun _ _ _ => rfl⟩, ?_, ?_, ?_, kAt_mis H⟩
  · rw [gI_sI, if_neg (by omega), gI_sI, if_neg (by omega)]
  · rw [gI_sI, if_neg (by decide), gI_sI, if_pos ⟨rfl, rfl⟩]
  · show 0 < kdO V L s k ∧ kdO V L s k < 10
    unfold kdO
    split <;> omega
  · rw [gI_sI, if_pos ⟨rfl, rfl⟩]
theorem k_avP {X : XT} {d L s : Nat} {h : HT} {V : Nat → Nat} (H : KP h L V (.inr s)) : ∃ g, FrM h g ∧ KP g L V (.inr (nx V L s)) ∧ ∀ Q : QT, wq X (d + 2) 191 0 [some (.ref 195), none, none] [] h Q = Q none g := by
  obtain ⟨H1, H2⟩ := H
  obtain ⟨g, a1, a2, a3⟩ := k_goOn (X := X) (d := d) H1.1 (tE_L H1.2.1) H1.2.2.2.1
  exact ⟨g, FrM_K a1, ⟨a2, (a1.2.1 195 4 (by omega)).trans H2.1, (a1.2.1 195 5 (by omega)).trans H2.2⟩, a3⟩
theorem k_mustP {X : XT} {d L s : Nat} {h : HT} {V : Nat → Nat} (H : KP h L V (.inr s)) (b : Bool) : ∃ g, FrM h g ∧ KP g L V (if b = true then .inr (nx V L s) else .inl (kdO V L s 2, s)) ∧ ∀ Q : QT, wq X (d + 3) 208 0 [some (.ref 195), some (.int (if b = true then 1 else 0))] [] h Q = Q none g := by
  cases b with
  | true =>
    obtain ⟨g, a1, a2, a3⟩ := k_avP (X := X) (d := d) H
    refine ⟨g, a1, a2, fun Q => ?_⟩
    simp only [u208_0, u208_1, u208_4, u208_7, u208_8, u208_9, u208_12, u208_13, eq_self, q_nl0, q_nlI, q_nlR, not_false_eq_true, q_nz0, q_nz1, q_zv0, q_zv1, q_tl1, q_tl0, q_wif, q_swc, q_swn, List.cons_append, List.nil_append, if_true, if_false, e10, e01, Bool.false_eq_true, sh_195, k_good H.2, Option.toList]
    refine (a3 _).trans ?_
    simp only [u208_16, u208_23, eq_self, q_nl0, q_nlI, q_nlR, not_false_eq_true, q_nz0, q_nz1, q_zv0, q_zv1, q_tl1, q_tl0, q_wif, q_swc, q_swn, List.cons_append, List.nil_append, if_true, if_false, e10, e01, Bool.false_eq_true]
  | false =>
    obtain ⟨b1, b2⟩ := KP_mis (L := L) (s := s) (h := h) (V := V) (k := 2) (by decide) H.1
    refine ⟨_, b1, b2, fun Q => ?_⟩
    simp only [u208_0, u208_1, u208_4, u208_7, u208_8, u208_9, u208_19, u208_20, u208_23, eq_self, q_nl0, q_nlI, q_nlR, not_false_eq_true, q_nz0, q_nz1, q_zv0, q_zv1, q_tl1, q_tl0, q_wif, q_swc, q_swn, List.cons_append, List.nil_append, if_true, if_false, e10, e01, Bool.false_eq_true, sh_195, k_good H.2, k_misp (d := d + 1) H.1 H.2, Option.toList]
theorem k_mustB {X : XT} {d : Nat} {h : HT} {e : Nat × Nat} {v : Int32} (H : KBd h e) (Q : QT) : wq X (d + 3) 208 0 [some (.ref 195), some (.int v)] [] h Q = Q none h := by
  simp only [u208_0, u208_1, u208_4, u208_7, eq_self, q_nl0, q_nlI, q_nlR, not_false_eq_true, q_nz0, q_nz1, q_zv0, q_zv1, q_tl1, q_tl0, q_wif, q_swc, q_swn, List.cons_append, List.nil_append, if_true, if_false, e10, e01, Bool.false_eq_true, sh_195, k_ngood H, Option.toList]
theorem k_numl {X : XT} {d L s m : Nat} {h : HT} {V : Nat → Nat} (H : KP h L V (.inr s)) (hm : m < 1000) : ∃ g, FrM h g ∧ KP g L V (nuP V L m (.inr s)).1 ∧ ∀ Q : QT, wq X (d + 3) 209 0 [some (.ref 195), some (.int 0), some (.int (nI m)), none] [] h Q = Q (some (.int (nI (nuP V L m (.inr s)).2))) g := by
  have e4 : (nI (mK V L s) = 4) = (tK V L s = 2) := by
    rw [← mK_n]
    exact nI_eqB (b := 4) (by have := mK_5 (V := V) (L := L) (s := s); omega) (by decide)
  by_cases y : tK V L s = 2
  · have hd := dN_4 y
    have en := H.1.2.2.2.2.2.2 y
    have f0 : (nI (dN V s (nDg V L s)) < 0) = False := eq_false (nI_nlt (b := 0) (Nat.zero_le _) (by omega))
    have f1 : (nI m < nI (dN V s (nDg V L s))) = (m < dN V s (nDg V L s)) := nI_ltB (by omega) (by omega)
    by_cases x : m < dN V s (nDg V L s)
    · obtain ⟨b1, b2⟩ := KP_mis (L := L) (s := s) (h := h) (V := V) (k := 4) (by decide) H.1
      have ek : kdO V L s 4 = 4 := if_neg (by omega)
      rw [show nuP V L m (.inr s) = (.inl (kdO V L s 4, s), 0) from (if_pos y).trans (if_pos x)]
      refine ⟨_, b1, b2, fun Q => ?_⟩
      have kf : ∀ Q : QT, wq X (d + 2) 202 0 [some (.ref 195), some (.int 4), some (.int (nI s))] [] h Q = Q none (m_sI (m_sI h 195 4 (nI (kdO V L s 4))) 195 5 (nI s)) := fun Q => by
        rw [ek]
        simp only [u202_0, u202_1, u202_4, u202_7, u202_8, u202_9, u202_10, u202_13, u202_14, u202_15, u202_18, eq_self, q_nl0, q_nlI, q_nlR, not_false_eq_true, q_nz0, q_nz1, q_zv0, q_zv1, q_tl1, q_tl0, q_wif, q_swc, q_swn, List.cons_append, List.nil_append, if_true, if_false, e10, e01, Bool.false_eq_true, sh_195, H.2, show ((0 : Int32) < 0) = False from eq_false (by decide)]
        rfl
      simp only [u209_0, u209_1, u209_4, u209_7, u209_8, u209_9, u209_10, u209_13, u209_14, u209_17, u209_18, u209_21, u209_22, u209_25, u209_28, u209_29, u209_32, u209_33, u209_36, u209_37, u209_40, u209_41, u209_44, u209_45, u209_46, u209_47, u209_50, u209_53, u209_54, u209_57, u209_58, u209_59, u209_62, u209_65, u209_66, u209_69, u209_70, u209_73, u209_76, u209_77, u209_80, u209_81, eq_self, q_nl0, q_nlI, q_nlR, not_false_eq_true, q_nz0, q_nz1, q_zv0, q_zv1, q_tl1, q_tl0, q_wif, q_swc, q_swn, List.cons_append, List.nil_append, if_true, if_false, e10, e01, Bool.false_eq_true, sh_195, k_good H.2, H.1.2.2.2.2.1, e4, eq_true y, en, f0, f1, eq_true x, H.1.2.2.1, kf, k_ngood b2, Option.toList]
      rfl
    · obtain ⟨g, a1, a2, a3⟩ := k_avP (X := X) (d := d) H
      rw [show nuP V L m (.inr s) = (.inr (nx V L s), dN V s (nDg V L s)) from (if_pos y).trans (if_neg x)]
      refine ⟨g, a1, a2, fun Q => ?_⟩
      simp only [u209_0, u209_1, u209_4, u209_7, u209_8, u209_9, u209_10, u209_13, u209_14, u209_17, u209_18, u209_21, u209_22, u209_25, u209_28, u209_29, u209_32, u209_33, u209_36, u209_37, u209_40, u209_41, u209_44, u209_45, u209_46, u209_47, u209_50, u209_53, u209_54, u209_57, u209_58, u209_59, u209_62, u209_65, u209_66, eq_self, q_nl0, q_nlI, q_nlR, not_false_eq_true, q_nz0, q_nz1, q_zv0, q_zv1, q_tl1, q_tl0, q_wif, q_swc, q_swn, List.cons_append, List.nil_append, if_true, if_false, e10, e01, Bool.false_eq_true, sh_195, k_good H.2, H.1.2.2.2.2.1, e4, eq_true y, en, f0, f1, eq_false x, Option.toList]
      refine (a3 _).trans ?_
      simp only [u209_69, u209_70, u209_73, u209_76, u209_77, u209_80, u209_81, eq_self, q_nl0, q_nlI, q_nlR, not_false_eq_true, q_nz0, q_nz1, q_zv0, q_zv1, q_tl1, q_tl0, q_wif, q_swc, q_swn, List.cons_append, List.nil_append, if_true, if_false, e10, e01, Bool.false_eq_true, sh_195, k_good a2.2, Option.toList]
  · obtain ⟨b1, b2⟩ := KP_mis (L := L) (s := s) (h := h) (V := V) (k := 2) (by decide) H.1
    rw [show nuP V L m (.inr s) = (.inl (kdO V L s 2, s), 0) from if_neg y]
    refine ⟨_, b1, b2, fun Q => ?_⟩
    simp only [u209_0, u209_1, u209_4, u209_7, u209_8, u209_9, u209_10, u209_13, u209_14, u209_17, u209_18, u209_21, u209_22, u209_25, u209_28, u209_29, u209_32, u209_33, u209_36, u209_37, u209_40, u209_41, u209_44, u209_45, u209_46, u209_47, u209_50, u209_53, u209_54, u209_57, u209_58, u209_59, u209_62, u209_65, u209_66, u209_69, u209_70, u209_73, u209_76, u209_77, u209_80, u209_81, eq_self, q_nl0, q_nlI, q_nlR, not_false_eq_true, q_nz0, q_nz1, q_zv0, q_zv1, q_tl1, q_tl0, q_wif, q_swc, q_swn, List.cons_append, List.nil_append, if_true, if_false, e10, e01, Bool.false_eq_true, sh_195, k_good H.2, H.1.2.2.2.2.1, e4, eq_false y, k_misp (d := d + 1) H.1 H.2, k_ngood b2, Option.toList]
    rfl
theorem k_numB {X : XT} {d m : Nat} {h : HT} {e : Nat × Nat} (H : KBd h e) (Q : QT) : wq X (d + 3) 209 0 [some (.ref 195), some (.int 0), some (.int (nI m)), none] [] h Q = Q (some (.int 0)) h := by
  simp only [u209_0, u209_1, u209_4, u209_7, u209_8, eq_self, q_nl0, q_nlI, q_nlR, not_false_eq_true, q_nz0, q_nz1, q_zv0, q_zv1, q_tl1, q_tl0, q_wif, q_swc, q_swn, List.cons_append, List.nil_append, if_true, if_false, e10, e01, Bool.false_eq_true, sh_195, k_ngood H, Option.toList]
theorem k_after {X : XT} {d L s m i : Nat} {h : HT} {V : Nat → Nat} {c : Int64} (H : KP h L V (.inr s)) (hi : i ∈ wIx) (hc : c = nL (cv (txN i))) (hm : m < 1000) : ∃ g, FrM h g ∧ KP g L V (nuP V L m (exW V L i (.inr s))).1 ∧ ∀ Q : QT, wq X (d + 4) 207 0 [some (.ref 195), some (.long c), none, some (.int 0), some (.int (nI m))] [] h Q = Q (some (.int (nI (nuP V L m (exW V L i (.inr s))).2))) g := by
  have kw := fun (Q : QT) => k_isWord (X := X) (d := d + 3) (Q := Q) H.1 hi hc
  obtain ⟨g1, a1, a2, a3⟩ := k_mustP (X := X) (d := d) H (isW V L s i)
  cases y : isW V L s i with
  | true =>
    rw [y] at a2 a3
    obtain ⟨g2, b1, b2, b3⟩ := k_numl (X := X) (d := d) (m := m) (show KP g1 L V (.inr (nx V L s)) from a2) hm
    rw [show exW V L i (.inr s) = .inr (nx V L s) from if_pos y]
    refine ⟨g2, FrM_tr a1 b1, b2, fun Q => ?_⟩
    simp only [u207_0, u207_1, u207_2, u207_3, u207_6, eq_self, q_nl0, q_nlI, q_nlR, not_false_eq_true, q_nz0, q_nz1, q_zv0, q_zv1, q_tl1, q_tl0, q_wif, q_swc, q_swn, List.cons_append, List.nil_append, if_true, if_false, e10, e01, Bool.false_eq_true, sh_195, kw, y, Option.toList]
    refine (a3 _).trans ?_
    simp only [u207_9, u207_10, u207_11, u207_13, eq_self, q_nl0, q_nlI, q_nlR, not_false_eq_true, q_nz0, q_nz1, q_zv0, q_zv1, q_tl1, q_tl0, q_wif, q_swc, q_swn, List.cons_append, List.nil_append, if_true, if_false, e10, e01, Bool.false_eq_true, sh_195]
    refine (b3 _).trans ?_
    simp only [u207_16, eq_self, q_nl0, q_nlI, q_nlR, not_false_eq_true, q_nz0, q_nz1, q_zv0, q_zv1, q_tl1, q_tl0, q_wif, q_swc, q_swn, List.cons_append, List.nil_append, if_true, if_false, e10, e01, Bool.false_eq_true]
  | false =>
    rw [y] at a2 a3
    have a2 : KBd g1 (kdO V L s 2, s) := a2
    rw [show exW V L i (.inr s) = .inl (kdO V L s 2, s) from if_neg (by rw [y]; decide)]
    refine ⟨g1, a1, a2, fun Q => ?_⟩
    simp only [u207_0, u207_1, u207_2, u207_3, u207_6, eq_self, q_nl0, q_nlI, q_nlR, not_false_eq_true, q_nz0, q_nz1, q_zv0, q_zv1, q_tl1, q_tl0, q_wif, q_swc, q_swn, List.cons_append, List.nil_append, if_true, if_false, e10, e01, Bool.false_eq_true, sh_195, kw, y, Option.toList]
    refine (a3 _).trans ?_
    simp only [u207_9, u207_10, u207_11, u207_13, u207_16, eq_self, q_nl0, q_nlI, q_nlR, not_false_eq_true, q_nz0, q_nz1, q_zv0, q_zv1, q_tl1, q_tl0, q_wif, q_swc, q_swn, List.cons_append, List.nil_append, if_true, if_false, e10, e01, Bool.false_eq_true, sh_195, k_numB a2, Option.toList]
    rfl
