/-! the model: going home -/
def aHomeL (A : Nat → Int32) (n g i : Nat) : Nat → Int32 := fun k => if k = 14 then nI (n &&& (127 ^^^ g)) else if 7 ≤ k ∧ k < 7 + i ∧ g.testBit (k - 7) = true then 0 else A k
def aHome (τ : CT) (A : Nat → Int32) (n g : Nat) : Nat → Int32 := aHomeL A n g (τ 0 1)
theorem aHomeL_0 {A : Nat → Int32} {n g : Nat} : aHomeL A n g 0 = up A 14 (nI (n &&& (127 ^^^ g))) := by
  funext k
  show (if k = 14 then _ else if 7 ≤ k ∧ k < 7 + 0 ∧ g.testBit (k - 7) = true then 0 else A k) = if k = 14 then _ else A k
  by_cases z : k = 14
  · rw [if_pos z, if_pos z]
  · rw [if_neg z, if_neg z, if_neg (by omega)]
theorem aHomeL_s {A : Nat → Int32} {n g i : Nat} (hi : i < 7) : aHomeL A n g (i + 1) = if g.testBit i = true then up (aHomeL A n g i) (7 + i) 0 else aHomeL A n g i := by
  funext k
  by_cases w : g.testBit i = true
  · rw [if_pos w]
    show (if k = 14 then nI (n &&& (127 ^^^ g)) else if 7 ≤ k ∧ k < 7 + (i + 1) ∧ g.testBit (k - 7) = true then 0 else A k) = if k = 7 + i then 0 else if k = 14 then nI (n &&& (127 ^^^ g)) else if 7 ≤ k ∧ k < 7 + i ∧ g.testBit (k - 7) = true then 0 else A k
    by_cases z : k = 7 + i
    · have hz : k - 7 = i := by omega
      rw [if_pos z, if_neg (by omega), if_pos ⟨by omega, by omega, by rw [hz]; exact w⟩]
    · rw [if_neg z]
      by_cases y : k = 14
      · rw [if_pos y, if_pos y]
      · rw [if_neg y, if_neg y]
        by_cases v : 7 ≤ k ∧ k < 7 + i ∧ g.testBit (k - 7) = true
        · rw [if_pos v, if_pos ⟨v.1, by omega, v.2.2⟩]
        · rw [if_neg v, if_neg (fun u => v ⟨u.1, by omega, u.2.2⟩)]
  · rw [if_neg w]
    show (if k = 14 then nI (n &&& (127 ^^^ g)) else if 7 ≤ k ∧ k < 7 + (i + 1) ∧ g.testBit (k - 7) = true then 0 else A k) = if k = 14 then nI (n &&& (127 ^^^ g)) else if 7 ≤ k ∧ k < 7 + i ∧ g.testBit (k - 7) = true then 0 else A k
    by_cases y : k = 14
    · rw [if_pos y, if_pos y]
    · rw [if_neg y, if_neg y]
      by_cases v : 7 ≤ k ∧ k < 7 + i ∧ g.testBit (k - 7) = true
      · rw [if_pos v, if_pos ⟨v.1, by omega, v.2.2⟩]
      · rw [if_neg v, if_neg]
        rintro ⟨u1, u2, u3⟩
        by_cases x : k = 7 + i
        · rw [show k - 7 = i by omega] at u3
          exact w u3
        · exact v ⟨u1, by omega, u3⟩
