/-! more plain questions -/
theorem aGr_128 {τ : CT} {g : Nat} (H : cOk τ) (h : g < 2 ^ τ 0 2) : g < 32 := Nat.lt_of_lt_of_le h (Nat.pow_le_pow_right (n := 2) (j := 5) (by decide) (o_dm H))
def sKept (τ : CT) (q : Nat) : Bool := decide (τ 7 q ≤ sLoss τ (sAll τ))
theorem c_kept {X : XT} {d T q : Nat} {h : HT} {Q : QT} {τ : CT} (H : CTown h T τ) (hq : q < τ 0 2) : wq X (d + 2) 95 0 [some (.ref T), some (.int (nI q))] [] h Q = Q (some (.int (if sKept τ q = true then 1 else 0))) h := by
  rw [c_canKeep H hq]
  unfold sKept
  simp only [decide_eq_true_eq]
/-- granted, but not kept -/
def brL (τ : CT) (g : Nat) : Nat → Nat
  | 0 => 0
  | i + 1 => if g.testBit i = true ∧ sKept τ i = false then brL τ g i ||| 2 ^ i else brL τ g i
theorem brL_more {τ : CT} {g k : Nat} (hg : g < 2 ^ k) : ∀ j, brL τ g (k + j) = brL τ g k
  | 0 => rfl
  | j + 1 => by
    refine (if_neg ?_).trans (brL_more hg j)
    rintro ⟨w, _⟩
    have : k + j < k := bit_lt hg w
    omega
