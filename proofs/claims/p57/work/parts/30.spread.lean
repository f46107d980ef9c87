/-! following comes to an end -/
theorem sFolL_bit {τ : CT} {n : Nat} : ∀ k i, (sFolL τ n k).testBit i = true → n.testBit i = false
  | 0, i, h => by
    rw [show sFolL τ n 0 = 0 from rfl, Nat.zero_testBit] at h
    exact absurd h (by decide)
  | k + 1, i, h => by
    unfold sFolL at h
    split at h
    · next c =>
      rw [Nat.testBit_or, Nat.testBit_two_pow] at h
      by_cases e : k = i
      · rw [← e]
        exact c.1
      · rw [decide_eq_false e, Bool.or_false] at h
        exact sFolL_bit k i h
    · exact sFolL_bit k i h
theorem sFol_dis {τ : CT} {n : Nat} : n &&& sFol τ n = 0 := by
  apply Nat.eq_of_testBit_eq
  intro i
  rw [Nat.testBit_and, Nat.zero_testBit]
  cases h : (sFol τ n).testBit i
  · rw [Bool.and_false]
  · rw [sFolL_bit _ _ h]
    rfl
theorem pcN_grow : ∀ a, a < 128 → ∀ f, f < 128 → a &&& f = 0 → f ≠ 0 → pcN a < pcN (a ||| f) := by decide +kernel
theorem sSpr_fix {τ : CT} {n k : Nat} (h : sFol τ (sSprL τ n k) = 0) : ∀ j, sSprL τ n (k + j) = sSprL τ n k
  | 0 => rfl
  | j + 1 => by
    show sSprL τ n (k + j) ||| sFol τ (sSprL τ n (k + j)) = _
    rw [sSpr_fix h j, h, Nat.or_zero]
theorem sSpr_grow {τ : CT} (H : cOk τ) {n : Nat} (hn : n < 128) : ∀ k, sFol τ (sSprL τ n k) ≠ 0 → k ≤ pcN (sSprL τ n k)
  | 0, _ => Nat.zero_le _
  | k + 1, h => by
    have h2 : sFol τ (sSprL τ n k) ≠ 0 := fun z => h (by rw [sSpr_fix z 1, z])
    have h3 := sSpr_grow H hn k h2
    have h4 := pcN_grow _ (sSprL_lt H hn k) _ (sFol_lt H (sSprL τ n k)) sFol_dis h2
    show k + 1 ≤ pcN (sSprL τ n k ||| sFol τ (sSprL τ n k))
    omega
theorem sSpr_end {τ : CT} (H : cOk τ) {n : Nat} (hn : n < 128) : sFol τ (sSprL τ n 8) = 0 := by
  by_cases z : sFol τ (sSprL τ n 8) = 0
  · exact z
  · have h1 := sSpr_grow H hn 8 z
    have h2 := pcN_le _ (sSprL_lt H hn 8)
    omega
theorem sSpr_stop {τ : CT} {n k j : Nat} (h : sFol τ (sSprL τ n k) = 0) (e : k + j = 8) : sSprL τ n k = sSpread τ n := by
  unfold sSpread
  rw [← e, sSpr_fix h j]
