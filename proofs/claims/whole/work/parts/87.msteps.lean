/-! SMALL STEPS OF THE MODEL'S READER -/
def KP (h : HT) (L : Nat) (V : Nat → Nat) : RP → Prop
  | .inl e => KBd h e
  | .inr s => TkK h L V s ∧ m_gI h 195 4 = 0
def FrM (h g : HT) : Prop := (∀ c k, m_gR g c k = m_gR h c k) ∧ (∀ c k, ¬ (c = 195 ∧ 4 ≤ k ∧ k ≤ 9) → m_gI g c k = m_gI h c k) ∧ ∀ c k, c ≠ 195 ∨ k ≠ 10 → m_gL g c k = m_gL h c k
theorem FrM_rf {h : HT} : FrM h h := ⟨fun _ _ => rfl, fun _ _ _ => rfl, fun _ _ _ => rfl⟩
theorem FrM_tr {h g f : HT} (a : FrM h g) (b : FrM g f) : FrM h f := ⟨fun c k => (b.1 c k).trans (a.1 c k), fun c k x => (b.2.1 c k x).trans (a.2.1 c k x), fun c k x => (b.2.2 c k x).trans (a.2.2 c k x)⟩
theorem FrM_K {h g : HT} (a : FrK h g) : FrM h g := ⟨a.1, fun c k x => a.2.1 c k (by omega), a.2.2⟩
theorem KP_mis {L s k : Nat} {h : HT} {V : Nat → Nat} (hk : 0 < k ∧ k < 10) : FrM h (m_sI (m_sI h 195 4 (nI (kdO V L s k))) 195 5 (nI s)) ∧ KBd (m_sI (m_sI h 195 4 (nI (kdO V L s k))) 195 5 (nI s)) (kdO V L s k, s) := by
  refine ⟨⟨fun _ _ => rfl, fun c j x => ?_, fun _ _ _ => rfl⟩, ?_, ?_, ?_⟩
  · rw [gI_sI, if_neg (by omega), gI_sI, if_neg (by omega)]
  · rw [gI_sI, if_neg (by decide), gI_sI, if_pos ⟨rfl, rfl⟩]
  · show 0 < kdO V L s k ∧ kdO V L s k < 10
    unfold kdO
    split <;> omega
  · rw [gI_sI, if_pos ⟨rfl, rfl⟩]
theorem k_avP {X : XT} {d L s : Nat} {h : HT} {V : Nat → Nat} (H : KP h L V (.inr s)) : ∃ g, FrM h g ∧ KP g L V (.inr (nx V L s)) ∧ ∀ Q : QT, wq X (d + 2) 191 0 [some (.ref 195), none, none] [] h Q = Q none g := by
  obtain ⟨H1, H2⟩ := H
  obtain ⟨g, a1, a2, a3⟩ := k_goOn (X := X) (d := d) H1.1 (tE_L H1.2.1) H1.2.2.2.1
  exact ⟨g, FrM_K a1, ⟨a2, (a1.2.1 195 4 (by omega)).trans H2⟩, a3⟩
theorem k_mustP {X : XT} {d L s : Nat} {h : HT} {V : Nat → Nat} (H : KP h L V (.inr s)) (b : Bool) : ∃ g, FrM h g ∧ KP g L V (if b = true then .inr (nx V L s) else .inl (kdO V L s 2, s)) ∧ ∀ Q : QT, wq X (d + 3) 208 0 [some (.ref 195), some (.int (if b = true then 1 else 0))] [] h Q = Q none g := by
  cases b with
  | true =>
    obtain ⟨g, a1, a2, a3⟩ := k_avP (X := X) (d := d) H
    refine ⟨g, a1, a2, fun Q => ?_⟩
    simp only [u208_0, u208_1, u208_4, u208_7, u208_8, u208_9, u208_12, u208_13, eq_self, q_nl0, q_nlI, q_nlR, not_false_eq_true, q_nz0, q_nz1, q_zv0, q_zv1, q_tl1, q_tl0, q_wif, q_swc, q_swn, List.cons_append, List.nil_append, if_true, if_false, e10, e01, Bool.false_eq_true, sh_195, k_good H.2, Option.toList]
    refine (a3 _).trans ?_
    simp only [u208_16, u208_23, eq_self, q_nl0, q_nlI, q_nlR, not_false_eq_true, q_nz0, q_nz1, q_zv0, q_zv1, q_tl1, q_tl0, q_wif, q_swc, q_swn, List.cons_append, List.nil_append, if_true, if_false, e10, e01, Bool.false_eq_true]
  | false =>
    obtain ⟨b1, b2⟩ := KP_mis (L := L) (s := s) (h := h) (V := V) (k := 2) (by decide)
    refine ⟨_, b1, b2, fun Q => ?_⟩
    simp only [u208_0, u208_1, u208_4, u208_7, u208_8, u208_9, u208_19, u208_20, u208_23, eq_self, q_nl0, q_nlI, q_nlR, not_false_eq_true, q_nz0, q_nz1, q_zv0, q_zv1, q_tl1, q_tl0, q_wif, q_swc, q_swn, List.cons_append, List.nil_append, if_true, if_false, e10, e01, Bool.false_eq_true, sh_195, k_good H.2, k_misp (d := d + 1) H.1 H.2, Option.toList]
theorem k_mustB {X : XT} {d : Nat} {h : HT} {e : Nat × Nat} {v : Int32} (H : KBd h e) (Q : QT) : wq X (d + 3) 208 0 [some (.ref 195), some (.int v)] [] h Q = Q none h := by
  simp only [u208_0, u208_1, u208_4, u208_7, eq_self, q_nl0, q_nlI, q_nlR, not_false_eq_true, q_nz0, q_nz1, q_zv0, q_zv1, q_tl1, q_tl0, q_wif, q_swc, q_swn, List.cons_append, List.nil_append, if_true, if_false, e10, e01, Bool.false_eq_true, sh_195, k_ngood H, Option.toList]
