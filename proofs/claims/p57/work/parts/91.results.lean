/-! WHAT A GOOD RESULT SAYS OF WHAT CAME BEFORE -/
theorem tE_ge {V : Nat → Nat} {L s : Nat} : s ≤ tE V L s := by
  unfold tE
  repeat' split
  all_goals omega
theorem nx_ge {V : Nat → Nat} {L s : Nat} : s ≤ nx V L s := by
  have := tE_ge (V := V) (L := L) (s := s)
  unfold nx tS
  omega
theorem nx_gt {V : Nat → Nat} {L s c : Nat} (h : isG V L s c = true) : s + 1 ≤ nx V L s := by
  have k := (of_decide_eq_true h).1
  have hs : s < L := tK_0 (V := V) (L := L) (s := s) (by omega)
  have e : tE V L s = s + 1 := by
    unfold tK at k
    unfold tE
    rw [if_neg (by omega)] at k ⊢
    by_cases z : isLt V L s = true
    · rw [if_pos z] at k
      split at k <;> omega
    · rw [if_neg z] at k ⊢
      by_cases y : isDg V L s = true
      · rw [if_pos y] at k
        split at k
        · split at k <;> omega
        · omega
      · rw [if_neg y]
  unfold nx tS
  omega
theorem cnP_i {V ν : Nat → Nat} {L n t s' : Nat} {r : RP} (e : (cnP V L ν n t r).1 = .inr s') : ∃ s f, r = .inr s ∧ isN V L s = true ∧ s' = nx V L s ∧ f < n ∧ t.testBit f = false ∧ (cnP V L ν n t r).2 = 2 ^ f := by
  cases r with
  | inl x => cases e
  | inr s =>
    unfold cnP at e ⊢
    dsimp only at e ⊢
    by_cases z : isN V L s = true
    · rw [if_pos z] at e ⊢
      by_cases y : fp (wP ν (wd V L s)) n 0 < n
      · rw [if_pos y] at e ⊢
        by_cases x : t.testBit (fp (wP ν (wd V L s)) n 0) = true
        · rw [if_pos x] at e
          cases e
        · rw [if_neg x] at e ⊢
          cases e
          exact ⟨s, _, rfl, z, rfl, y, by simpa using x, rfl⟩
      · rw [if_neg y] at e
        cases e
    · rw [if_neg z] at e
      cases e
theorem crL_i {V ν : Nat → Nat} {L n : Nat} : ∀ k t (r : RP) s', (crL V L ν n k t r).1 = .inr s' → ∃ s, r = .inr s ∧ s ≤ s' := by
  intro k
  induction k with
  | zero =>
    intro t r s' e
    exact ⟨s', e, Nat.le_refl _⟩
  | succ k ih =>
    intro t r s' e
    cases r with
    | inl x => cases e
    | inr s =>
      refine ⟨s, rfl, ?_⟩
      by_cases z : isN V L s = true
      · rw [show crL V L ν n (k + 1) t (.inr s) = crL V L ν n k (t ||| (cnP V L ν n t (.inr s)).2) (cnP V L ν n t (.inr s)).1 from if_pos z] at e
        obtain ⟨s1, q1, q2⟩ := ih _ _ _ e
        obtain ⟨s2, f, q3, q4, q5, -⟩ := cnP_i q1
        cases q3
        have := nx_ge (V := V) (L := L) (s := s)
        omega
      · rw [show crL V L ν n (k + 1) t (.inr s) = (.inr s, t) from if_neg z] at e
        cases e
        exact Nat.le_refl _
theorem otP_i {V : Nat → Nat} {L s' : Nat} {r : RP} (e : (otP V L r).1 = .inr s') : ∃ s, r = .inr s ∧ s ≤ s' := by
  cases r with
  | inl x => cases e
  | inr s =>
    refine ⟨s, rfl, ?_⟩
    by_cases z : isW V L s 9 = true
    · rw [show otP V L (.inr s) = nuP V L 6 (exW V L 9 (.inr s)) from if_pos z] at e
      obtain ⟨s1, q1, -, -, q2, -⟩ := nuP_i e
      obtain ⟨s2, q3, -, q4⟩ := exW_i q1
      cases q3
      have := nx_ge (V := V) (L := L) (s := s)
      have := nx_ge (V := V) (L := L) (s := s1)
      omega
    · rw [show otP V L (.inr s) = (.inr s, 0) from if_neg z] at e
      cases e
      exact Nat.le_refl _
theorem otP_m {V : Nat → Nat} {L : Nat} {r : RP} : (otP V L r).2 ≤ 6 := by
  cases r with
  | inl x => exact Nat.zero_le _
  | inr s =>
    by_cases z : isW V L s 9 = true
    · rw [show otP V L (.inr s) = nuP V L 6 (exW V L 9 (.inr s)) from if_pos z]
      exact nuP_m
    · rw [show otP V L (.inr s) = (.inr s, 0) from if_neg z]
      exact Nat.zero_le _
theorem ouP_i {V : Nat → Nat} {L s' : Nat} {r : RP} (e : (ouP V L r).1 = .inr s') : ∃ s, r = .inr s ∧ s ≤ s' := by
  cases r with
  | inl x => cases e
  | inr s =>
    refine ⟨s, rfl, ?_⟩
    by_cases z : isW V L s 10 = true
    · rw [show ouP V L (.inr s) = (.inr (nx V L s), 1) from if_pos z] at e
      cases e
      exact nx_ge
    · rw [show ouP V L (.inr s) = (.inr s, 0) from if_neg z] at e
      cases e
      exact Nat.le_refl _
/-- what a good line of a man says -/
theorem mP_i {V : Nat → Nat} {L s s' : Nat} {τ : CT} (e : (mP6 V L s τ).1 = .inr s') : isN V L (nx V L s) = true ∧ s ≤ s' := by
  obtain ⟨x1, y1, z1⟩ := ouP_i e
  obtain ⟨x2, y2, z2⟩ := otP_i y1
  obtain ⟨x3, y3, -, -, z3, -⟩ := nuP_i y2
  obtain ⟨x4, y4, -, z4⟩ := exW_i y3
  obtain ⟨x5, y5, -, -, z5, -⟩ := nuP_i y4
  obtain ⟨x6, y6, -, z6⟩ := exW_i y5
  obtain ⟨x7, y7, z7⟩ := crL_i _ _ _ _ y6
  obtain ⟨x8, f, y8, -, z8, -⟩ := cnP_i y7
  obtain ⟨x9, y9, -, z9⟩ := exW_i y8
  have i1 := nmP_w y9
  refine ⟨i1, ?_⟩
  rw [show nmP V L (τ 12) (τ 0 1) (.inr (nx V L s)) = _ from if_pos i1] at y9
  split at y9
  · cases y9
  · cases y9
    have := nx_ge (V := V) (L := L) (s := s)
    have := nx_ge (V := V) (L := L) (s := nx V L s)
    have := nx_ge (V := V) (L := L) (s := nx V L (nx V L s))
    have := nx_ge (V := V) (L := L) (s := x8)
    have := nx_ge (V := V) (L := L) (s := x6)
    have := nx_ge (V := V) (L := L) (s := x5)
    have := nx_ge (V := V) (L := L) (s := x4)
    have := nx_ge (V := V) (L := L) (s := x3)
    omega
theorem mP_isn {V : Nat → Nat} {L s s' : Nat} {τ : CT} (e : (mP6 V L s τ).1 = .inr s') : isN V L (nx V L s) = true := (mP_i e).1
