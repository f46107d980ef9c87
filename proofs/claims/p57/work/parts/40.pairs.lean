/-! plain questions -/
theorem in14 : m_in 14 20 = true := by decide
theorem cl14 : (14 : Int32).toNatClampNeg = 14 := by decide
theorem in15 : m_in 15 20 = true := by decide
theorem cl15 : (15 : Int32).toNatClampNeg = 15 := by decide
theorem in16 : m_in 16 20 = true := by decide
theorem cl16 : (16 : Int32).toNatClampNeg = 16 := by decide
theorem in17 : m_in 17 20 = true := by decide
theorem cl17 : (17 : Int32).toNatClampNeg = 17 := by decide
theorem in18 : m_in 18 20 = true := by decide
theorem cl18 : (18 : Int32).toNatClampNeg = 18 := by decide
theorem in19 : m_in 19 20 = true := by decide
theorem cl19 : (19 : Int32).toNatClampNeg = 19 := by decide
theorem nI_5b {b c : Nat} : 5 * nI b + nI c = nI (5 * b + c) := by
  rw [show (5 : Int32) = nI 5 from rfl, pk_mul, nI_add]
theorem nI_7c {c : Nat} : (7 : Int32) + nI c = nI (7 + c) := nI_add 7 c
theorem m_5b {b c n : Nat} (hb : b < 2) (hc : c < n) (hn : n ≤ 5) : m_in (nI (5 * b + c)) 10 = true := q_in (by omega) (by decide)
theorem bit01 {n m : Nat} (hn : n < 128) (hm : m < 8) : nI n >>> (nI m &&& 31) &&& 1 = if n.testBit m = true then 1 else 0 := by
  by_cases z : n.testBit m = true
  · rw [if_pos z]
    exact (nI_bit4 n hn m hm).mpr z
  · rw [if_neg z]
    exact (nI_bit0 n hn m hm).mpr (by simpa using z)
theorem if_b1 {c : Prop} [Decidable c] : ((if c then (1 : Int32) else 0) = 1) = c := by
  by_cases z : c
  · rw [if_pos z, eq_self, eq_true z]
  · rw [if_neg z, eq_false z, eq_false (show ¬ (0 : Int32) = 1 by decide)]
theorem if_b0 {c : Prop} [Decidable c] : ((if c then (1 : Int32) else 0) = 0) = ¬ c := by
  by_cases z : c
  · rw [if_pos z, eq_false (show ¬ (1 : Int32) = 0 by decide), eq_true z, not_true_eq_false]
  · rw [if_neg z, eq_self, eq_false z, not_false_eq_true]
