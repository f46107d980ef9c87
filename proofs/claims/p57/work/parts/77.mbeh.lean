/-! BEHIND A UNIT, as the model goes -/
theorem rk_6 {V : Nat → Nat} {L s : Nat} : rkC V L s ≤ 6 := by
  unfold rkC
  repeat' split
  all_goals omega
def sgC (V : Nat → Nat) (L s r : Nat) : Nat := if r = 2 then 38 else if r = 1 then 124 else sA V L s
