/-! THE MODEL'S RULE AS A WHOLE -/
/-- how the reading of a formula ends, by the model -/
def ruO (V : Nat → Nat) (L : Nat) : RF → RF
  | .inl e => .inl e
  | .inr S1 => if rkC V L S1.1 = 4 then .inl (kdO V L S1.1 2, S1.1) else .inr S1
theorem k_e {X : XT} {d R L : Nat} {h : HT} {V : Nat → Nat} {S : SF} {P : Nat → Nat × Nat} (hv : ∀ i, i < L → V i < 256) (H : KF (m_sI (m_sI h 195 44 0) 195 43 0) R L V S 0 P 0) (hn : S.2.2.1 ≤ 9 * S.2.1) : ∃ g, FrE R h g ∧ KOut g R L V (ruO V L (lev V L 48 0 0 S)) ∧ ∀ Q : QT, wq X (d + 5) 214 0 [some (.ref 195), none] [] h Q = Q none g := by
  obtain ⟨g1, a1, a2, a3⟩ := KF_push (X := X) (d := d + 4) (a := 8) (b := 0) H (by decide)
  have p1 : PW (pu P 0 8 0) 1 := ⟨Nat.le_refl 1, by show (if 0 = 0 then (8, 0) else P 0).1 = 8; rfl, fun i hi => by
    have : i = 0 := by omega
    subst this
    show (if 0 = 0 then (8, 0) else P 0).1 ≤ 8
    exact Nat.le_refl 8⟩
  have F : FinM X d R L V g1 1 (ruO V L (lev V L 48 0 0 S)) := by
    refine k_lev hv 48 0 0 (by decide) (by decide) (by decide) 1 _ g1 S _ p1 (by decide) hn a2 ⟨fun _ => Or.inr (show 7 ≤ 8 by decide), fun q => by omega⟩ ?_
    cases q : lev V L 48 0 0 S with
    | inl e => rfl
    | inr S1 =>
      have tb := lev_TB hv 48 0 0 S S1 q (by decide) (by decide) (by decide)
      refine ⟨fun st => if_pos st.2, fun nst g2 G2 => ?_⟩
      have n4 : ¬ rkC V L S1.1 = 4 := fun e => nst ⟨by decide, e⟩
      rw [show ruO V L (.inr S1) = .inr S1 from if_neg n4]
      exact f_last G2 p1 (Nat.le_zero.mp (tb nst))
  obtain ⟨g, b1, b2, b3⟩ := F
  refine ⟨g, FrE_tr (FrE_s (by unfold exE; omega)) (FrE_tr (FrE_s (by unfold exE; omega)) (FrE_tr a1 b1)), b2, fun Q => ?_⟩
  rw [← b3 Q]
  simp only [u214_0, u214_1, u214_2, u214_5, u214_6, u214_7, u214_10, u214_11, u214_13, u214_14, eq_self, q_nl0, q_nlI, q_nlR, not_false_eq_true, q_nz0, q_nz1, q_zv0, q_zv1, q_tl1, q_tl0, q_wif, q_swc, q_swn, List.cons_append, List.nil_append, if_true, if_false, e10, e01, Bool.false_eq_true, sh_195]
  refine (a3 _).trans ?_
  simp only [u214_17, u214_18, eq_self, q_nl0, q_nlI, q_nlR, not_false_eq_true, q_nz0, q_nz1, q_zv0, q_zv1, q_tl1, q_tl0, q_wif, q_swc, q_swn, List.cons_append, List.nil_append, if_true, if_false, e10, e01, Bool.false_eq_true]
