/-! odds -/
def nOd (τ : CT) (g : Nat) : Nat := if 100 < τ 0 3 * pcN (sShort τ g) then 100 else τ 0 3 * pcN (sShort τ g)
theorem nOd_le {τ : CT} {g : Nat} : nOd τ g ≤ 100 := by
  unfold nOd
  split <;> omega
theorem sOdd_n {τ : CT} (H : cOk τ) (g : Nat) : sOdd τ g = nI (nOd τ g) := by
  have h1 := foe_le H g
  unfold sOdd nOd
  rw [show (100 : Int32) = nI 100 from rfl]
  simp only [nI_ltB (show 100 < 2 ^ 31 by omega) (show τ 0 3 * pcN (sShort τ g) < 2 ^ 31 by omega)]
  split <;> rfl
theorem min_odd {τ : CT} (H : cOk τ) (g : Nat) : (if nI (τ 0 3 * pcN (sShort τ g)) < 100 then nI (τ 0 3 * pcN (sShort τ g)) else 100) = nI (nOd τ g) := by
  have h1 := foe_le H g
  unfold nOd
  rw [show (100 : Int32) = nI 100 from rfl]
  simp only [nI_ltB (show τ 0 3 * pcN (sShort τ g) < 2 ^ 31 by omega) (show 100 < 2 ^ 31 by omega)]
  by_cases a : 100 < τ 0 3 * pcN (sShort τ g)
  · rw [if_pos a, if_neg (by omega)]
  · rw [if_neg a]
    by_cases b : τ 0 3 * pcN (sShort τ g) < 100
    · rw [if_pos b]
    · rw [if_neg b, show τ 0 3 * pcN (sShort τ g) = 100 by omega]
def odU (τ : CT) (A : Nat → Int32) : Nat → Nat
  | 0 => 1
  | k + 1 => odU τ A k * (100 - nOd τ (aG τ (aIt τ A k)))
def odL : Nat → Nat
  | 0 => 1
  | k + 1 => odL k * 100
theorem odL_4 : ∀ k, k < 5 → odL k ≤ 100000000 := by decide
theorem odL_pos : ∀ k, 0 < odL k
  | 0 => Nat.one_pos
  | k + 1 => Nat.mul_pos (odL_pos k) (by decide)
theorem odU_le {τ : CT} {A : Nat → Int32} : ∀ k, odU τ A k ≤ odL k
  | 0 => Nat.le_refl _
  | k + 1 => Nat.mul_le_mul (odU_le k) (Nat.sub_le _ _)
