/-! the model's day: eating, growing older on the hill -/
def aEatL (A : Nat → Int32) (g i : Nat) : Nat → Int32 := fun k => if k < i ∧ g.testBit k = true ∧ 0 < A k then A k - 1 else A k
def aAgeL (A : Nat → Int32) (g i : Nat) : Nat → Int32 := fun k => if 7 ≤ k ∧ k < 7 + i ∧ g.testBit (k - 7) = true then A k + 1 else A k
theorem aEatL_0 {A : Nat → Int32} {g : Nat} : aEatL A g 0 = A := by
  funext k
  show (if k < 0 ∧ g.testBit k = true ∧ 0 < A k then A k - 1 else A k) = A k
  rw [if_neg (by omega)]
theorem aEatL_ge {A : Nat → Int32} {g i k : Nat} (h : i ≤ k) : aEatL A g i k = A k := by
  show (if k < i ∧ g.testBit k = true ∧ 0 < A k then A k - 1 else A k) = A k
  rw [if_neg (by omega)]
theorem aEatL_s {A : Nat → Int32} {g i : Nat} : aEatL A g (i + 1) = if g.testBit i = true then if 0 < A i then up (aEatL A g i) i (A i - 1) else aEatL A g i else aEatL A g i := by
  by_cases z : g.testBit i = true ∧ 0 < A i
  · rw [if_pos z.1, if_pos z.2]
    funext k
    show (if k < i + 1 ∧ g.testBit k = true ∧ 0 < A k then A k - 1 else A k) = if k = i then A i - 1 else if k < i ∧ g.testBit k = true ∧ 0 < A k then A k - 1 else A k
    by_cases y : k = i
    · rw [if_pos y, y, if_pos ⟨by omega, z⟩]
    · rw [if_neg y]
      by_cases w : k < i ∧ g.testBit k = true ∧ 0 < A k
      · rw [if_pos w, if_pos ⟨by omega, w.2⟩]
      · rw [if_neg w, if_neg (fun v => w ⟨by omega, v.2⟩)]
  · have : aEatL A g (i + 1) = aEatL A g i := by
      funext k
      show (if k < i + 1 ∧ g.testBit k = true ∧ 0 < A k then A k - 1 else A k) = if k < i ∧ g.testBit k = true ∧ 0 < A k then A k - 1 else A k
      by_cases w : k < i ∧ g.testBit k = true ∧ 0 < A k
      · rw [if_pos w, if_pos ⟨by omega, w.2⟩]
      · rw [if_neg w, if_neg]
        rintro ⟨v1, v2⟩
        by_cases y : k = i
        · rw [y] at v2; exact z v2
        · exact w ⟨by omega, v2⟩
    rw [this]
    split
    · split
      · exact absurd ⟨by assumption, by assumption⟩ z
      · rfl
    · rfl
theorem aAgeL_0 {A : Nat → Int32} {g : Nat} : aAgeL A g 0 = A := by
  funext k
  show (if 7 ≤ k ∧ k < 7 + 0 ∧ g.testBit (k - 7) = true then A k + 1 else A k) = A k
  rw [if_neg (by omega)]
theorem aAgeL_o {A : Nat → Int32} {g i k : Nat} (h : k < 7 ∨ 7 + i ≤ k) : aAgeL A g i k = A k := by
  show (if 7 ≤ k ∧ k < 7 + i ∧ g.testBit (k - 7) = true then A k + 1 else A k) = A k
  rw [if_neg (by omega)]
theorem aAgeL_s {A : Nat → Int32} {g i : Nat} : aAgeL A g (i + 1) = if g.testBit i = true then up (aAgeL A g i) (7 + i) (A (7 + i) + 1) else aAgeL A g i := by
  by_cases w : g.testBit i = true
  · rw [if_pos w]
    funext k
    show (if 7 ≤ k ∧ k < 7 + (i + 1) ∧ g.testBit (k - 7) = true then A k + 1 else A k) = if k = 7 + i then A (7 + i) + 1 else if 7 ≤ k ∧ k < 7 + i ∧ g.testBit (k - 7) = true then A k + 1 else A k
    by_cases z : k = 7 + i
    · have hz : k - 7 = i := by omega
      rw [if_pos z, if_pos ⟨by omega, by omega, by rw [hz]; exact w⟩, z]
    · rw [if_neg z]
      by_cases v : 7 ≤ k ∧ k < 7 + i ∧ g.testBit (k - 7) = true
      · rw [if_pos v, if_pos ⟨v.1, by omega, v.2.2⟩]
      · rw [if_neg v, if_neg (fun u => v ⟨u.1, by omega, u.2.2⟩)]
  · rw [if_neg w]
    funext k
    show (if 7 ≤ k ∧ k < 7 + (i + 1) ∧ g.testBit (k - 7) = true then A k + 1 else A k) = if 7 ≤ k ∧ k < 7 + i ∧ g.testBit (k - 7) = true then A k + 1 else A k
    by_cases v : 7 ≤ k ∧ k < 7 + i ∧ g.testBit (k - 7) = true
    · rw [if_pos v, if_pos ⟨v.1, by omega, v.2.2⟩]
    · rw [if_neg v, if_neg]
      rintro ⟨u1, u2, u3⟩
      by_cases x : k = 7 + i
      · rw [show k - 7 = i by omega] at u3
        exact w u3
      · exact v ⟨u1, by omega, u3⟩
