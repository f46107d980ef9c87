/-! about, fault, end, feed -/
theorem i32_n {v : Int32} {k : Int32} (n : v ≠ k) : (v.toInt = k.toInt) = False := eq_false (fun e => n (Int32.toInt_inj.mp e))
theorem q_to {X : XT} {d M e t : Nat} {ps : List (Int × Nat)} {x : Int} {ls : LT} {st : List Value} {h : HT} {Q : QT} (z : m_swt ps e x = t) : wq X d M (m_swt ps e x) ls st h Q = wq X d M t ls st h Q := by rw [z]
