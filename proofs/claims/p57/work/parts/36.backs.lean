/-! the model: who goes back of an evening -/
def sBackM (τ : CT) (A : Nat → Int32) (n : Nat) : Nat → Nat
  | 0 => 0
  | i + 1 => if n.testBit i = true ∧ sGoes τ n (A i) (A (7 + i)) i = true then sBackM τ A n i ||| 2 ^ i else sBackM τ A n i
theorem sBackM_lt {τ : CT} {A : Nat → Int32} {n : Nat} : ∀ k, sBackM τ A n k < 2 ^ k
  | 0 => by simp [sBackM]
  | k + 1 => by
    unfold sBackM
    have := sBackM_lt (τ := τ) (A := A) (n := n) k
    have h2 : sBackM τ A n k < 2 ^ (k + 1) := Nat.lt_of_lt_of_le this (Nat.pow_le_pow_right (by decide) (by omega))
    split
    · exact orb h2 (by omega)
    · exact h2
