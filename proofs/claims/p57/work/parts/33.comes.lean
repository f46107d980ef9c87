/-! the model's run of a formula is the same value -/
theorem nI_dn {p : Nat} : nI (p + 1) - 1 = nI p := by
  rw [← nI_1]
  exact Int32.add_sub_cancel _ _
theorem nI_dnN {p : Nat} : nI (p + 1) + -1 = nI p := by
  rw [← nI_1, Int32.add_assoc]
  exact Int32.add_zero _
theorem mU_sU {τ : CT} {A : Nat → Int32} {n m : Nat} : mU τ A n m = sU τ n (A m) (A (7 + m)) m := rfl
