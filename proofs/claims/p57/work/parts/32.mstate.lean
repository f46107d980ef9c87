/-! THE MODEL'S STATE AS A VALUE: cell 227 holds loaves (0..6), days (7..13), out (14), granted (15), lost (16), foes (17), day (18), seed (19); 226 is the pile, field 46 the man asked for, 48 the day's odds -/
theorem gone_one : ∀ n, n < 128 → ∀ m, m < 7 → n.testBit m = true → nI (pcN (n &&& (127 ^^^ 2 ^ m % 128))) = nI (pcN n) - 1 := by decide +kernel
/-! the model's formula -/
def mU (τ : CT) (A : Nat → Int32) (n m : Nat) : UT := (A m, nI (τ 5 m), nI (τ 6 m), nI (pcN n) - 1, A (7 + m), nI (pcN (sShort τ n)))
