/-! the model's day, joined -/
def aSeed (A : Nat → Int32) : Int32 := 137 * A 19 + 71 - (137 * A 19 + 71) / 1000 * 1000
def sOdd (τ : CT) (g : Nat) : Int32 := if 100 < nI (τ 0 3 * pcN (sShort τ g)) then 100 else nI (τ 0 3 * pcN (sShort τ g))
def aWalk (A : Nat → Int32) (g : Nat) : Nat → Int32 := up A 14 (nI g)
def aMid (τ : CT) (A : Nat → Int32) (g : Nat) : Nat → Int32 := up (up (aEatL (aWalk A g) g (τ 0 1)) 16 (A 16 + nI (sLoss τ g))) 19 (aSeed A)
def aFoe (τ : CT) (A : Nat → Int32) (g : Nat) : Nat → Int32 := if aSeed A - aSeed A / 100 * 100 < sOdd τ g then up (up (aMid τ A g) 16 (A 16 + nI (sLoss τ g) + nI (τ 0 4))) 17 (A 17 + 1) else aMid τ A g
def aAge (τ : CT) (A : Nat → Int32) (g : Nat) : Nat → Int32 := aAgeL (aFoe τ A g) g (τ 0 1)
def aDay (τ : CT) (A : Nat → Int32) (n : Nat) : Nat → Int32 := up (aHome τ (aAge τ A (n ||| sFol τ n)) (n ||| sFol τ n) (sBackM τ (aAge τ A (n ||| sFol τ n)) (n ||| sFol τ n) (τ 0 1))) 18 (aHome τ (aAge τ A (n ||| sFol τ n)) (n ||| sFol τ n) (sBackM τ (aAge τ A (n ||| sFol τ n)) (n ||| sFol τ n) (τ 0 1)) 18 + 1)
theorem aFoe_14 {τ : CT} {A : Nat → Int32} {g : Nat} (h7 : τ 0 1 ≤ 7) : aFoe τ A g 14 = nI g := by
  have a14 : aMid τ A g 14 = nI g := (aEatL_ge (A := aWalk A g) (g := g) (i := τ 0 1) (k := 14) (by omega)).trans up_s
  unfold aFoe
  split
  · exact a14
  · exact a14
