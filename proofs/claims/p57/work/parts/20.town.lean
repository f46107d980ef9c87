/-! sets as numbers below 128: how Int32's operations go -/
def pcN (n : Nat) : Nat := n % 2 + n / 2 % 2 + n / 4 % 2 + n / 8 % 2 + n / 16 % 2 + n / 32 % 2 + n / 64 % 2
theorem nI_or (a b : Nat) : nI a ||| nI b = nI (a ||| b) := by
  apply Int32.toBitVec_inj.mp
  simp [nI, Int32.toBitVec_or, Int32.toBitVec_ofNat']
theorem nI_and (a b : Nat) : nI a &&& nI b = nI (a &&& b) := by
  apply Int32.toBitVec_inj.mp
  simp [nI, Int32.toBitVec_and, Int32.toBitVec_ofNat']
theorem nI_bit : ∀ n, n < 128 → ∀ i, i < 8 → (nI n >>> (nI i &&& 31)) &&& 1 = nI (n / 2 ^ i % 2) := by decide +kernel
theorem nI_bit4 : ∀ n, n < 128 → ∀ i, i < 8 → ((nI n >>> (nI i &&& 31)) &&& 1 = 1) = (n.testBit i = true) := by
  intro n hn i hi
  rw [nI_bit n hn i hi]
  have h1 : n / 2 ^ i % 2 = 0 ∨ n / 2 ^ i % 2 = 1 := by omega
  have h2 : n.testBit i = decide (n / 2 ^ i % 2 = 1) := Nat.testBit_eq_decide_div_mod_eq
  rw [h2]
  rcases h1 with z | z
  · rw [z]; decide
  · rw [z]; decide
theorem nI_bit0 : ∀ n, n < 128 → ∀ i, i < 8 → ((nI n >>> (nI i &&& 31)) &&& 1 = 0) = (n.testBit i = false) := by
  intro n hn i hi
  rw [nI_bit n hn i hi]
  have h1 : n / 2 ^ i % 2 = 0 ∨ n / 2 ^ i % 2 = 1 := by omega
  have h2 : n.testBit i = decide (n / 2 ^ i % 2 = 1) := Nat.testBit_eq_decide_div_mod_eq
  rw [h2]
  rcases h1 with z | z
  · rw [z]; decide
  · rw [z]; decide
theorem nI_sh : ∀ i, i < 8 → (1 : Int32) <<< (nI i &&& 31) = nI (2 ^ i) := by decide +kernel
theorem nI_all : ∀ i, i < 8 → (1 : Int32) <<< (nI i &&& 31) - 1 = nI (2 ^ i - 1) := by decide +kernel
theorem nI_not : ∀ a, a < 128 → ∀ b, b < 128 → nI a &&& (nI b ^^^ (-1)) = nI (a &&& (127 ^^^ b)) := by decide +kernel
/-! leaves -/
def usF (x k : Int32) : Int32 := (x.toUInt32 >>> (k.toUInt32 &&& Int32.toUInt32 31)).toInt32
def bc1 (x : Int32) : Int32 := x - (usF x 1 &&& 1431655765)
def bc2 (x : Int32) : Int32 := (x &&& 858993459) + (usF x 2 &&& 858993459)
def bc3 (x : Int32) : Int32 := x + usF x 4 &&& 252645135
def bc4 (x : Int32) : Int32 := x + usF x 8
def bc5 (x : Int32) : Int32 := x + usF x 16 &&& 63
theorem bc_ok : ∀ n, n < 128 → bc5 (bc4 (bc3 (bc2 (bc1 (nI n))))) = nI (pcN n) := by decide +kernel
theorem c_bitCount {X : XT} {d n : Nat} {h : HT} {Q : QT} (hn : n < 128) : wq X d 74 0 [some (.int (nI n))] [] h Q = Q (some (.int (nI (pcN n)))) h := by
  simp only [u74_0, u74_1, u74_2, u74_3, u74_4, u74_7, u74_8, u74_9, u74_10, u74_11, u74_14, u74_15, u74_16, u74_17, u74_18, u74_21, u74_22, u74_23, u74_24, u74_25, u74_26, u74_27, u74_28, u74_29, u74_32, u74_33, u74_34, u74_35, u74_36, u74_38, u74_39, u74_40, u74_41, u74_42, u74_43, u74_45, u74_46, u74_47, u74_48, u74_49, u74_51, u74_52, eq_self, q_nl0, q_nlI, q_nlR, not_false_eq_true, q_nz0, q_nz1, q_zv0, q_zv1, q_tl1, q_tl0, q_wif, q_swc, q_swn, List.cons_append, List.nil_append]
  exact congrArg (fun z => Q (some (.int z)) h) (bc_ok n hn)
theorem c_isOut {X : XT} {d a : Nat} {h : HT} {Q : QT} {x : Int32} (ha : (m_sh (KS X) a).1 = 7) : wq X d 83 0 [some (.ref a), some (.int x)] [] h Q = Q (some (.int (if m_gI h a 0 >>> (x &&& 31) &&& 1 = 1 then 1 else 0))) h := by
  simp only [u83_0, u83_1, u83_4, u83_5, u83_6, u83_7, u83_8, u83_9, u83_12, u83_13, u83_16, u83_17, eq_self, q_nl0, q_nlI, q_nlR, not_false_eq_true, q_nz0, q_nz1, q_zv0, q_zv1, q_tl1, q_tl0, q_wif, q_swc, q_swn, List.cons_append, List.nil_append, ha]
  split <;> rfl
theorem c_everyone {X : XT} {d T : Nat} {h : HT} {Q : QT} (ha : (m_sh (KS X) T).1 = 9) : wq X d 96 0 [some (.ref T)] [] h Q = Q (some (.int (1 <<< (m_gI h T 4 &&& 31) - 1))) h := by
  simp only [u96_0, u96_1, u96_2, u96_5, u96_6, u96_7, u96_8, eq_self, q_nl0, q_nlI, q_nlR, not_false_eq_true, q_nz0, q_nz1, q_zv0, q_zv1, q_tl1, q_tl0, q_wif, q_swc, q_swn, List.cons_append, List.nil_append, ha]
theorem c_isMan {X : XT} {d : Nat} {h : HT} {Q : QT} {x : Int32} (hT : (m_sh (KS X) (m_gR h 1 2)).1 = 9) : wq X d 82 0 [some (.ref 1), some (.int x)] [] h Q = Q (some (.int (if x < 0 then 0 else if x < m_gI h (m_gR h 1 2) 4 then if x < 7 then 1 else 0 else 0))) h := by
  simp only [u82_0, u82_1, u82_4, u82_5, u82_6, u82_9, u82_12, u82_15, u82_16, u82_18, u82_21, u82_22, u82_25, u82_26, eq_self, q_nl0, q_nlI, q_nlR, not_false_eq_true, q_nz0, q_nz1, q_zv0, q_zv1, q_tl1, q_tl0, q_wif, q_swc, q_swn, List.cons_append, List.nil_append, hT, sh_1]
  split
  · rfl
  · split
    · split <;> rfl
    · rfl
