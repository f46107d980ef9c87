/-! stop -/
def soP (τ : CT) (c n i : Nat) : Bool := decide (i &&& (127 ^^^ sCity τ n) = 0) && decide (c &&& (127 ^^^ sShort τ (n ||| i)) = 0)
theorem soP_ge {τ : CT} {c n i : Nat} (h7 : τ 0 1 ≤ 7) (hi : i < 128) (h : 2 ^ τ 0 1 ≤ i) : soP τ c n i = false := by
  unfold soP
  simp only [city_sub h7 hi]
  rw [decide_eq_false (fun z => by omega), Bool.false_and]
/-! press -/
def prP (τ : CT) (x : Int32) (n i : Nat) : Bool := decide (i &&& (127 ^^^ sCity τ n) = 0) && decide (¬ x < nI (pcN i))
def prM (τ : CT) (n i : Nat) : Option Nat → Option Nat
  | none => some i
  | some b => if sLoss τ (n ||| b) < sLoss τ (n ||| i) then some i else if sLoss τ (n ||| i) = sLoss τ (n ||| b) then if pcN i < pcN b then some i else some b else some b
def prS (τ : CT) (x : Int32) (n i : Nat) (o : Option Nat) : Option Nat := if prP τ x n i = true then prM τ n i o else o
theorem prS_o {τ : CT} {x : Int32} {n : Nat} (i : Nat) (o : Option Nat) : prS τ x n i o = o ∨ prS τ x n i o = some i := by
  unfold prS
  split
  · cases o with
    | none => exact Or.inr rfl
    | some b =>
      by_cases y : sLoss τ (n ||| b) < sLoss τ (n ||| i)
      · exact Or.inr (if_pos y)
      · by_cases z : sLoss τ (n ||| i) = sLoss τ (n ||| b)
        · by_cases v : pcN i < pcN b
          · exact Or.inr ((if_neg y).trans ((if_pos z).trans (if_pos v)))
          · exact Or.inl ((if_neg y).trans ((if_pos z).trans (if_neg v)))
        · exact Or.inl ((if_neg y).trans (if_neg z))
  · exact Or.inl rfl
theorem prS_n {τ : CT} {x : Int32} {n : Nat} (i b : Nat) : prS τ x n i (some b) ≠ none := by
  rcases prS_o (τ := τ) (x := x) (n := n) i (some b) with e | e <;> rw [e] <;> exact Option.some_ne_none _
def prV (τ : CT) (n : Nat) : Option Nat → PT3
  | none => none
  | some b => some (nI (sLoss τ (n ||| b)), nI (pcN b), nI b)
theorem prV_take {τ : CT} {n i : Nat} (H : cOk τ) (hi : i < 128) : ∀ o, (∀ b, o = some b → b < 128) → pTake (prV τ n o) (nI i) (nI (sLoss τ (n ||| i))) (nI (pcN i)) = prV τ n (prM τ n i o) := by
  intro o ho
  cases o with
  | none => rfl
  | some b =>
    have h1 := pcN_le _ hi
    have h2 := pcN_le _ (ho b rfl)
    have h3 := sLoss_le H (n ||| i)
    have h4 := sLoss_le H (n ||| b)
    show (if nI (sLoss τ (n ||| b)) < nI (sLoss τ (n ||| i)) then some (nI (sLoss τ (n ||| i)), nI (pcN i), nI i) else if nI (sLoss τ (n ||| i)) = nI (sLoss τ (n ||| b)) then if nI (pcN i) < nI (pcN b) then some (nI (sLoss τ (n ||| i)), nI (pcN i), nI i) else some (nI (sLoss τ (n ||| b)), nI (pcN b), nI b) else some (nI (sLoss τ (n ||| b)), nI (pcN b), nI b)) = prV τ n (if sLoss τ (n ||| b) < sLoss τ (n ||| i) then some i else if sLoss τ (n ||| i) = sLoss τ (n ||| b) then if pcN i < pcN b then some i else some b else some b)
    simp only [nI_ltB (show sLoss τ (n ||| b) < 2 ^ 31 by omega) (show sLoss τ (n ||| i) < 2 ^ 31 by omega), nI_eqB (show sLoss τ (n ||| i) < 2 ^ 31 by omega) (show sLoss τ (n ||| b) < 2 ^ 31 by omega), nI_ltB (show pcN i < 2 ^ 31 by omega) (show pcN b < 2 ^ 31 by omega)]
    split
    · rfl
    · split
      · split <;> rfl
      · rfl
theorem prP_ge {τ : CT} {x : Int32} {n i : Nat} (h7 : τ 0 1 ≤ 7) (hi : i < 128) (h : 2 ^ τ 0 1 ≤ i) : prP τ x n i = false := by
  unfold prP
  simp only [city_sub h7 hi]
  rw [decide_eq_false (fun z => by omega), Bool.false_and]
