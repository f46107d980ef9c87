/-! who goes back when -/
def reP (τ : CT) (A : Nat → Int32) (m n : Nat) : Bool := !(aN (aIt τ A n)).testBit m
def reO (τ : CT) (A : Nat → Int32) (m : Nat) : Option Nat := fstN (reP τ A m) 60
theorem reP_f {τ : CT} {A : Nat → Int32} {m n : Nat} (h : reP τ A m n = false) : (aN (aIt τ A n)).testBit m = true := by
  unfold reP at h
  simpa using h
theorem reP_t {τ : CT} {A : Nat → Int32} {m n : Nat} (h : reP τ A m n = true) : (aN (aIt τ A n)).testBit m = false := by
  unfold reP at h
  simpa using h
/-! the weakest -/
def wkM (i v : Nat) : Option (Nat × Nat) → Option (Nat × Nat)
  | none => some (i, v)
  | some q => if v < q.2 then some (i, v) else some q
def wkS (τ : CT) (A : Nat → Int32) (i : Nat) (o : Option (Nat × Nat)) : Option (Nat × Nat) := if (aN A).testBit i = true then (match reO τ A i with
  | none => o
  | some v => wkM i v o) else o
def wkB : Option (Nat × Nat) → Int32
  | none => -1
  | some q => nI q.1
def wkL : Option (Nat × Nat) → Int32
  | none => 0
  | some q => nI q.2
theorem wk_none {τ : CT} {A : Nat → Int32} : ∀ n, fL (wkS τ A) none n = none → ∀ m, m < n → (aN A).testBit m = true → reO τ A m = none
  | 0, _, m, hm, _ => absurd hm (Nat.not_lt_zero m)
  | n + 1, h, m, hm, hb => by
    rw [fL_s] at h
    generalize e : fL (wkS τ A) none n = o at h
    have ho : o = none := by
      cases o with
      | none => rfl
      | some q =>
        unfold wkS at h
        split at h
        · split at h
          · exact h
          · unfold wkM at h
            split at h
            · cases h
            · split at h <;> cases h
        · exact h
    subst ho
    by_cases z : m = n
    · subst z
      unfold wkS at h
      rw [if_pos hb] at h
      split at h
      · next w => exact w
      · cases h
    · exact wk_none n e m (by omega) hb
theorem wk_some {τ : CT} {A : Nat → Int32} : ∀ n q v, fL (wkS τ A) none n = some (q, v) → (q < n ∧ (aN A).testBit q = true ∧ reO τ A q = some v) ∧ ∀ m, m < n → (aN A).testBit m = true → ∀ w, reO τ A m = some w → v < w ∨ v = w ∧ q ≤ m
  | 0, q, v, h => by cases h
  | n + 1, q, v, h => by
    rw [fL_s] at h
    by_cases z : (aN A).testBit n = true
    · cases r : reO τ A n with
      | none =>
        have e : wkS τ A n (fL (wkS τ A) none n) = fL (wkS τ A) none n := by
          unfold wkS
          rw [if_pos z, r]
        rw [e] at h
        have ih := wk_some n q v h
        refine ⟨⟨by omega, ih.1.2⟩, fun m hm hb w hw => ?_⟩
        by_cases y : m = n
        · subst y
          rw [r] at hw
          cases hw
        · exact ih.2 m (by omega) hb w hw
      | some u =>
        have e : wkS τ A n (fL (wkS τ A) none n) = wkM n u (fL (wkS τ A) none n) := by
          unfold wkS
          rw [if_pos z, r]
        rw [e] at h
        cases o : fL (wkS τ A) none n with
        | none =>
          rw [o] at h
          unfold wkM at h
          cases h
          refine ⟨⟨by omega, z, r⟩, fun m hm hb w hw => ?_⟩
          by_cases y : m = n
          · subst y
            rw [r] at hw
            cases hw
            exact Or.inr ⟨rfl, Nat.le_refl _⟩
          · rw [wk_none n o m (by omega) hb] at hw
            cases hw
        | some p =>
          obtain ⟨p1, p2⟩ := p
          have ih := wk_some n p1 p2 o
          rw [o] at h
          unfold wkM at h
          dsimp only at h
          by_cases x : u < p2
          · rw [if_pos x] at h
            cases h
            refine ⟨⟨by omega, z, r⟩, fun m hm hb w hw => ?_⟩
            by_cases y : m = n
            · subst y
              rw [r] at hw
              cases hw
              exact Or.inr ⟨rfl, Nat.le_refl _⟩
            · rcases ih.2 m (by omega) hb w hw with t | t
              · exact Or.inl (by omega)
              · exact Or.inl (by omega)
          · rw [if_neg x] at h
            cases h
            refine ⟨⟨by omega, ih.1.2⟩, fun m hm hb w hw => ?_⟩
            by_cases y : m = n
            · subst y
              rw [r] at hw
              cases hw
              rcases Nat.lt_or_ge v u with t | t
              · exact Or.inl t
              · exact Or.inr ⟨by omega, by omega⟩
            · exact ih.2 m (by omega) hb w hw
    · have e : wkS τ A n (fL (wkS τ A) none n) = fL (wkS τ A) none n := if_neg z
      rw [e] at h
      have ih := wk_some n q v h
      refine ⟨⟨by omega, ih.1.2⟩, fun m hm hb w hw => ?_⟩
      by_cases y : m = n
      · subst y
        exact absurd hb z
      · exact ih.2 m (by omega) hb w hw
