/-! WHAT THE LAW WROTE, READ AGAIN: the whole city -/
/-- the rule's code -/
def RB (τ : CT) (b : Nat) : Prop := (b = 0 → τ 0 9 = 0) ∧ (b = 1 → τ 0 9 = 9 ∧ (∀ i, i < 9 → τ 9 i = [108, 110, 61, 121, 111, 110, 43, 62, 124].getD i 0) ∧ ∀ i, i < 9 → τ 10 i = [0, 0, 0, 0, 0, 3, 0, 0, 0].getD i 0) ∧ (b = 2 → τ 0 9 = 5 ∧ (∀ i, i < 5 → τ 9 i = [103, 110, 115, 45, 60].getD i 0) ∧ ∀ i, i < 5 → τ 10 i = [0, 2, 0, 0, 0].getD i 0) ∧ (b = 3 → τ 0 9 = 12 ∧ (∀ i, i < 12 → τ 9 i = [108, 103, 43, 100, 110, 47, 60, 115, 110, 61, 126, 38].getD i 0) ∧ ∀ i, i < 12 → τ 10 i = [0, 0, 0, 0, 4, 0, 0, 0, 3, 0, 0, 0].getD i 0)
theorem rb_go {τ : CT} {b : Nat} (R : RB τ b) (hb : b ≤ 3) {n m : Nat} {l y : Int32} : sGoes τ n l y m = lwB τ b n l y m := by
  obtain ⟨r0, r1, r2, r3⟩ := R
  have : b = 0 ∨ b = 1 ∨ b = 2 ∨ b = 3 := by omega
  rcases this with e | e | e | e
  · subst e
    exact go_0 (r0 rfl)
  · subst e
    obtain ⟨a, c, d⟩ := r1 rfl
    exact go_1 a c d
  · subst e
    obtain ⟨a, c, d⟩ := r2 rfl
    exact go_2 a c d
  · subst e
    obtain ⟨a, c, d⟩ := r3 rfl
    exact go_3 a c d
section READ
variable {V : Nat → Nat} {L s : Nat} {τ : CT} { U : List Nat}
/-- the rule's line -/
theorem p_back {b : Nat} (hb : b ≤ 3) (H : St V L s (bkL b U)) (n : nb U) (h7 : τ 0 7 = 0) (h9 : τ 0 9 = 0) (F : Nat) : ∃ F' s' τ', F ≤ F' ∧ rdL V L (F + 1) (.inr (s, τ)) = rdL V L F' (.inr (s', τ')) ∧ St V L s' U ∧ RB τ' b ∧ (∀ j, j < 7 ∨ 10 ≤ j → τ' 0 j = τ 0 j) ∧ ∀ r, 1 ≤ r → r ≤ 8 → ∀ j, τ' r j = τ r j := by
  have fin : ∀ {S : Nat × Nat × (Nat → Nat × Nat)}, (∀ j, j < 7 ∨ 10 ≤ j → upB τ S 0 j = τ 0 j) ∧ ∀ r, 1 ≤ r → r ≤ 8 → ∀ j, upB τ S r j = τ r j := by
    intro S
    refine ⟨fun j hj => ?_, fun r h1 h2 j => ?_⟩
    · show (if j = 7 then 1 else if j = 8 then S.1 else if j = 9 then S.2.1 else τ 0 j) = τ 0 j
      rw [if_neg (by omega), if_neg (by omega), if_neg (by omega)]
    · show (if r = 0 then _ else if r = 9 then _ else if r = 10 then _ else τ r j) = τ r j
      rw [if_neg (by omega), if_neg (by omega), if_neg (by omega)]
  have : b = 0 ∨ b = 1 ∨ b = 2 ∨ b = 3 := by omega
  rcases this with e | e | e | e
  · subst e
    exact ⟨F + 1, s, τ, by omega, rfl, H, ⟨fun _ => h9, fun e => absurd e (by decide), fun e => absurd e (by decide), fun e => absurd e (by decide)⟩, fun _ _ => rfl, fun _ _ _ _ => rfl⟩
  · subst e
    obtain ⟨k, s', S, e1, e2, e3, e4⟩ := p_rule1 (τ := τ) (show St V L s (tb 40 ++ U) from H) n h7
    refine ⟨F, s', _, Nat.le_refl _, rd_1 k e1, e2, ⟨fun e => absurd e (by decide), fun _ => ⟨e3, fun i hi => ?_, fun i hi => ?_⟩, fun e => absurd e (by decide), fun e => absurd e (by decide)⟩, fin.1, fin.2⟩
    · show (S.2.2 i).1 = _
      rw [e4 i hi]
      have : ∀ i, i < 9 → ([(108, 0), (110, 0), (61, 0), (121, 0), (111, 0), (110, 3), (43, 0), (62, 0), (124, 0)].getD i ((0 : Nat), (0 : Nat))).1 = [108, 110, 61, 121, 111, 110, 43, 62, 124].getD i 0 := by decide
      exact this i hi
    · show (S.2.2 i).2 = _
      rw [e4 i hi]
      have : ∀ i, i < 9 → ([(108, 0), (110, 0), (61, 0), (121, 0), (111, 0), (110, 3), (43, 0), (62, 0), (124, 0)].getD i ((0 : Nat), (0 : Nat))).2 = [0, 0, 0, 0, 0, 3, 0, 0, 0].getD i 0 := by decide
      exact this i hi
  · subst e
    obtain ⟨k, s', S, e1, e2, e3, e4⟩ := p_rule2 (τ := τ) (show St V L s (tb 41 ++ U) from H) n h7
    refine ⟨F, s', _, Nat.le_refl _, rd_1 k e1, e2, ⟨fun e => absurd e (by decide), fun e => absurd e (by decide), fun _ => ⟨e3, fun i hi => ?_, fun i hi => ?_⟩, fun e => absurd e (by decide)⟩, fin.1, fin.2⟩
    · show (S.2.2 i).1 = _
      rw [e4 i hi]
      have : ∀ i, i < 5 → ([(103, 0), (110, 2), (115, 0), (45, 0), (60, 0)].getD i ((0 : Nat), (0 : Nat))).1 = [103, 110, 115, 45, 60].getD i 0 := by decide
      exact this i hi
    · show (S.2.2 i).2 = _
      rw [e4 i hi]
      have : ∀ i, i < 5 → ([(103, 0), (110, 2), (115, 0), (45, 0), (60, 0)].getD i ((0 : Nat), (0 : Nat))).2 = [0, 2, 0, 0, 0].getD i 0 := by decide
      exact this i hi
  · subst e
    obtain ⟨k, s', S, e1, e2, e3, e4⟩ := p_rule3 (τ := τ) (show St V L s (tb 42 ++ U) from H) n h7
    refine ⟨F, s', _, Nat.le_refl _, rd_1 k e1, e2, ⟨fun e => absurd e (by decide), fun e => absurd e (by decide), fun e => absurd e (by decide), fun _ => ⟨e3, fun i hi => ?_, fun i hi => ?_⟩⟩, fin.1, fin.2⟩
    · show (S.2.2 i).1 = _
      rw [e4 i hi]
      have : ∀ i, i < 12 → ([(108, 0), (103, 0), (43, 0), (100, 0), (110, 4), (47, 0), (60, 0), (115, 0), (110, 3), (61, 0), (126, 0), (38, 0)].getD i ((0 : Nat), (0 : Nat))).1 = [108, 103, 43, 100, 110, 47, 60, 115, 110, 61, 126, 38].getD i 0 := by decide
      exact this i hi
    · show (S.2.2 i).2 = _
      rw [e4 i hi]
      have : ∀ i, i < 12 → ([(108, 0), (103, 0), (43, 0), (100, 0), (110, 4), (47, 0), (60, 0), (115, 0), (110, 3), (61, 0), (126, 0), (38, 0)].getD i ((0 : Nat), (0 : Nat))).2 = [0, 0, 0, 0, 4, 0, 0, 0, 3, 0, 0, 0].getD i 0 := by decide
      exact this i hi
theorem RB_cg {τ τ' : CT} {b : Nat} (h9 : τ' 0 9 = τ 0 9) (a : ∀ j, τ' 9 j = τ 9 j) (c : ∀ j, τ' 10 j = τ 10 j) (R : RB τ b) : RB τ' b := by
  unfold RB at *
  simp only [h9, a, c]
  exact R
theorem nb_fo {X : XT} (n : nb U) : nb (foL' X U) := by
  unfold foL'
  split
  · exact nb_tb (by decide) (by decide)
  · exact n
theorem nb_dr {X : XT} (n : nb U) : nb (drL' X U) := by
  unfold drL'
  split
  · exact nb_tb (by decide) (by decide)
  · exact n
theorem nb_bk {b : Nat} (hb : b ≤ 3) (n : nb U) : nb (bkL b U) := by
  unfold bkL
  split
  · exact n
  · exact nb_tb (by omega) (by omega)
end READ
