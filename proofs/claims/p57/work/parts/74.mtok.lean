/-! WHAT THE MODEL ASKS OF A TOKEN -/
theorem tK_1 {V : Nat → Nat} {L s : Nat} (h : tK V L s = 1) : nLt V L s ≤ 8 := by
  unfold tK at h
  split at h
  · cases h
  · split at h
    · split at h
      · assumption
      · cases h
    · split at h
      · split at h
        · split at h <;> cases h
        · cases h
      · split at h <;> cases h
theorem wN_40 {V : Nat → Nat} {L s : Nat} (h : tK V L s = 1) : wN V s (nLt V L s) < 2 ^ 40 := by
  have y := tK_1 h
  refine Nat.lt_of_lt_of_le (wN_lt (L := L) (nLt V L s) (Nat.le_refl _)) ?_
  rw [show (32 : Nat) = 2 ^ 5 from rfl, ← Nat.pow_mul]
  exact Nat.pow_le_pow_right (by decide) (by omega)
def rkC (V : Nat → Nat) (L s : Nat) : Nat := if isW V L s 20 = true then 2 else if isW V L s 19 = true then 1 else if isG V L s 60 = true then 4 else if isG V L s 62 = true then 4 else if isG V L s 61 = true then 4 else if isG V L s 43 = true then 5 else if isG V L s 45 = true then 5 else if isG V L s 42 = true then 6 else if isG V L s 47 = true then 6 else if isG V L s 37 = true then 6 else 0
