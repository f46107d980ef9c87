/-! HOW THE MODEL'S LOOP ENDS -/
def KOut (g : HT) (R L : Nat) (V : Nat → Nat) : RF → Prop
  | .inl e => KBd g e
  | .inr S => ∃ P w, KF g R L V S 0 P w
/-- from h on, with what is wanted, the loop ends so -/
def FinM (X : XT) (d R L : Nat) (V : Nat → Nat) (h : HT) (x : Int32) (out : RF) : Prop := ∃ g, FrE R h g ∧ KOut g R L V out ∧ ∀ Q : QT, wq X (d + 5) 214 19 [some (.ref 195), some (.int x)] [] h Q = Q none g
/-- a pile as it should be -/
def PW (P : Nat → Nat × Nat) (z : Nat) : Prop := 1 ≤ z ∧ (P 0).1 = 8 ∧ ∀ i, i < z → (P i).1 ≤ 8
theorem PW_pu {P : Nat → Nat × Nat} {z a b : Nat} (H : PW P z) (ha : a ≤ 8) : PW (pu P z a b) (z + 1) := by
  obtain ⟨h1, h2, h3⟩ := H
  refine ⟨by omega, ?_, fun i hi => ?_⟩
  · show (if 0 = z then (a, b) else P 0).1 = 8
    rw [if_neg (by omega)]
    exact h2
  · show (if i = z then (a, b) else P i).1 ≤ 8
    split
    · exact ha
    · exact h3 i (by omega)
theorem f_W {X : XT} {d R L z w : Nat} {h g : HT} {V : Nat → Nat} {S : SF} {P : Nat → Nat × Nat} {v : Int32} {out : RF} (H : KF h R L V S z P w) (hz : 1 ≤ z) (a : FrE R h g) (e : ∀ Q : QT, wq X (d + 4) 216 0 [some (.ref 195), none, none, none, none, none, none] [] h Q = Q (some (.int v)) g) (F : FinM X d R L V g v out) : FinM X d R L V h 1 out := by
  obtain ⟨g', b1, b2, b3⟩ := F
  exact ⟨g', FrE_tr a b1, b2, fun Q => (e_W H hz e Q).trans (b3 Q)⟩
theorem f_bad {X : XT} {d R L : Nat} {g : HT} {V : Nat → Nat} {e : Nat × Nat} {v : Int32} (b : KBd g e) : FinM X d R L V g v (.inl e) := ⟨g, FrE_rf, b, fun Q => e_bad b Q⟩
theorem f_B {X : XT} {d R L z w : Nat} {h g : HT} {V : Nat → Nat} {S : SF} {P : Nat → Nat × Nat} {v : Int32} {out : RF} (H : KF h R L V S z P w) (hz : 1 ≤ z) (a : FrE R h g) (e : ∀ Q : QT, wq X (d + 4) 220 0 [some (.ref 195), none] [] h Q = Q (some (.int v)) g) (F : FinM X d R L V g v out) : FinM X d R L V h 0 out := by
  obtain ⟨g', b1, b2, b3⟩ := F
  refine ⟨g', FrE_tr a b1, b2, fun Q => ?_⟩
  rw [e_B H hz]
  refine (e _).trans ?_
  rw [← b3 Q]
  simp only [u214_48, u214_49, eq_self, q_nl0, q_nlI, q_nlR, not_false_eq_true, q_nz0, q_nz1, q_zv0, q_zv1, q_tl1, q_tl0, q_wif, q_swc, q_swn, List.cons_append, List.nil_append, if_true, if_false, e10, e01, Bool.false_eq_true]
theorem f_cmp {X : XT} {d R L z w : Nat} {h : HT} {V : Nat → Nat} {S : SF} {P : Nat → Nat × Nat} (H : KF h R L V S z P w) (p : PW P z) (hc : rkC V L S.1 = 4) (hc2 : cm P z = true) : FinM X d R L V h 0 (.inl (kdO V L S.1 2, S.1)) := by
  obtain ⟨g, a1, a2, a3⟩ := k_behB (X := X) (d := d) H p.1 p.2.1 p.2.2 hc hc2
  exact f_B H p.1 a1 a3 (f_bad a2)
theorem f_pop {X : XT} {d R L z w t : Nat} {h : HT} {V : Nat → Nat} {S : SF} {P : Nat → Nat × Nat} {out : RF} (H : KF h R L V S z P w) (p : PW P z) (hz : 2 ≤ z) (ht : (P (z - 1)).1 = t) (t6 : t ≤ 6) (hr : rkC V L S.1 ≤ t) (hw : t = 3 → 1 ≤ w) (hn : S.2.2.1 < 560) (hc : ¬ (rkC V L S.1 = 4 ∧ cm P z = true)) (F : ∀ g, KF g R L V (adS (P (z - 1)).2 0 S) (z - 1) P (if t = 3 then w - 1 else w) → FinM X d R L V g 0 out) : FinM X d R L V h 0 out := by
  obtain ⟨g, a1, a2, a3⟩ := k_pop (X := X) (d := d) (r := rkC V L S.1) H p.1 ht t6 hr hw hn
  obtain ⟨g', b1, b2, b3⟩ := F g a2
  have es : (adS (P (z - 1)).2 0 S).1 = S.1 := adS_n.1
  have ec : cm P z = if t = 5 ∨ t = 6 then cm P (z - 1) else decide (t = 4) := by
    rw [← ht]
    have : z = z - 1 + 1 := by omega
    rw [this]
    rfl
  have hc' : ¬ (rkC V L (adS (P (z - 1)).2 0 S).1 = 4 ∧ cm P (z - 1) = true) := by
    rw [es]
    rintro ⟨q1, q2⟩
    apply hc
    refine ⟨q1, ?_⟩
    rw [ec]
    by_cases y : t = 5 ∨ t = 6
    · rw [if_pos y]
      exact q2
    · rw [if_neg y]
      exact decide_eq_true (by omega)
  refine ⟨g', FrE_tr a1 b1, b2, fun Q => ?_⟩
  rw [← b3 Q, e_B H p.1, e_B a2 (by omega), k_behS (d := d) H p.1 p.2.1 p.2.2 hc, k_behS (d := d) a2 (by omega) p.2.1 (fun i hi => p.2.2 i (by omega)) hc', es]
  exact a3 _
theorem f_op {X : XT} {d R L z w t : Nat} {h : HT} {V : Nat → Nat} {S : SF} {P : Nat → Nat × Nat} {out : RF} (H : KF h R L V S z P w) (p : PW P z) (hz9 : z < 90) (ht : (P (z - 1)).1 = t) (r0 : 0 < rkC V L S.1) (hr : t < rkC V L S.1 ∨ 6 < t) (hc : ¬ (rkC V L S.1 = 4 ∧ cm P z = true)) (F : ∀ g, KF g R L V (avS V L S) (z + 1) (pu P z (rkC V L S.1) (sgC V L S.1 (rkC V L S.1))) w → FinM X d R L V g 1 out) : FinM X d R L V h 0 out := by
  have t8 : t ≤ 8 := by
    rw [← ht]
    exact p.2.2 _ (by have := p.1; omega)
  obtain ⟨g, a1, a2, a3⟩ := k_op (X := X) (d := d) H hz9 r0 rk_6
  refine f_B H p.1 a1 (fun Q => ?_) (F g a2)
  rw [k_behS (d := d) H p.1 p.2.1 p.2.2 hc, k_popE (d := d) H p.1 ht t8 hr rk_6]
  exact a3 Q
theorem f_close {X : XT} {d R L z w : Nat} {h : HT} {V : Nat → Nat} {S : SF} {P : Nat → Nat × Nat} {out : RF} (H : KF h R L V S z P w) (p : PW P z) (hw : 1 ≤ w) (ht : (P (z - 1)).1 = 7) (r0 : rkC V L S.1 = 0) (F1 : isG V L S.1 41 = true → ∀ g, KF g R L V (avS V L S) (z - 1) P (w - 1) → FinM X d R L V g 0 out) (F2 : isG V L S.1 41 = false → out = .inl (kdO V L S.1 2, S.1)) : FinM X d R L V h 0 out := by
  obtain ⟨g, a1, a2, a3, a4⟩ := k_close (X := X) (d := d) H p.1 hw ht
  refine f_B (v := 0) (g := g) H p.1 a1 (fun Q => ?_) ?_
  · rw [k_behS (d := d) H p.1 p.2.1 p.2.2 (by rw [r0]; intro q; cases q.1), k_popE (d := d) H p.1 ht (by decide) (Or.inr (by decide)) rk_6, r0]
    exact a4 Q
  · cases y : isG V L S.1 41 with
    | true => exact F1 y g (a2 y)
    | false =>
      rw [F2 y]
      exact f_bad (a3 y)
theorem f_last {X : XT} {d R L w : Nat} {h : HT} {V : Nat → Nat} {S : SF} {P : Nat → Nat × Nat} (H : KF h R L V S 1 P w) (p : PW P 1) (r0 : rkC V L S.1 = 0) : FinM X d R L V h 0 (.inr S) := by
  obtain ⟨a1, a2, a4⟩ := k_last (X := X) (d := d) H p.1 p.2.1
  refine f_B (v := 0) H p.1 a1 (fun Q => ?_) ⟨_, FrE_rf, ⟨P, w, a2⟩, fun Q => e_end a2 Q⟩
  rw [k_behS (d := d) H p.1 p.2.1 p.2.2 (by rw [r0]; intro q; cases q.1), k_popE (d := d) H p.1 p.2.1 (by decide) (Or.inr (by decide)) rk_6, r0]
  exact a4 Q
