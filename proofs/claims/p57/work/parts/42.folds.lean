/-! loops as folds -/
def fL {α : Type} (s : Nat → α → α) (a : α) : Nat → α
  | 0 => a
  | i + 1 => s i (fL s a i)
theorem q_loopL {α : Type} (P : Nat → α → Prop) (n : Nat) (hs : ∀ i, i < n → ∀ l, ∃ l', P i l = P (i + 1) l') (l : α) : ∃ l', P 0 l = P n l' := by
  induction n with
  | zero => exact ⟨l, rfl⟩
  | succ n ih =>
    obtain ⟨l1, e1⟩ := ih (fun i hi => hs i (by omega))
    obtain ⟨l2, e2⟩ := hs n (by omega) l1
    exact ⟨l2, e1.trans e2⟩
theorem fL_s {α : Type} {s : Nat → α → α} {a : α} {i : Nat} : fL s a (i + 1) = s i (fL s a i) := rfl
theorem fL_more {α : Type} {s : Nat → α → α} {a : α} {k : Nat} (h : ∀ i o, k ≤ i → s i o = o) : ∀ j, fL s a (k + j) = fL s a k
  | 0 => rfl
  | j + 1 => (h (k + j) _ (Nat.le_add_right _ _)).trans (fL_more h j)
theorem fL_to {α : Type} {s : Nat → α → α} {a : α} {k n : Nat} (hk : k ≤ n) (h : ∀ i o, k ≤ i → s i o = o) : fL s a n = fL s a k := by
  have := fL_more (a := a) h (n - k)
  rw [show k + (n - k) = n by omega] at this
  exact this
theorem fO_lt {s : Nat → Option Nat → Option Nat} (hs : ∀ i o, s i o = o ∨ s i o = some i) : ∀ n b, fL s none n = some b → b < n
  | 0, b, h => by cases h
  | n + 1, b, h => by
    rw [fL_s] at h
    rcases hs n (fL s none n) with e | e
    · rw [e] at h
      have := fO_lt hs n b h
      omega
    · rw [e] at h
      cases h
      omega
def oI : Option Nat → Int32
  | none => -1
  | some b => nI b
def mI (v : Nat → Int32) : Option Nat → Int32
  | none => -1
  | some b => v b
def bS (p : Nat → Bool) (i a : Nat) : Nat := if p i = true then a ||| 2 ^ i else a
theorem oI_lt0 {b : Nat} (h : b < 2 ^ 31) : (nI b < 0) = False := eq_false (nI_pos h)
theorem m1_lt0 : ((-1 : Int32) < 0) = True := eq_true (by decide)
theorem m1_lt {b : Nat} (h : b < 2 ^ 31) : ((-1 : Int32) < nI b) = True := by
  refine eq_true (Int32.lt_iff_toInt_lt.mpr ?_)
  rw [nI_toInt h, show (-1 : Int32).toInt = -1 from rfl]
  omega
theorem pc_0 : ∀ n, n < 128 → (pcN n = 0) = (n = 0) := by decide +kernel
/-! the man who is out the longest -/
def lgM (A : Nat → Int32) (i : Nat) : Option Nat → Option Nat
  | none => some i
  | some b => if A (7 + b) < A (7 + i) then some i else some b
def lgS (A : Nat → Int32) (i : Nat) (o : Option Nat) : Option Nat := if (aN A).testBit i = true then lgM A i o else o
theorem lgS_o {A : Nat → Int32} (i : Nat) (o : Option Nat) : lgS A i o = o ∨ lgS A i o = some i := by
  unfold lgS
  split
  · cases o with
    | none => exact Or.inr rfl
    | some b =>
      by_cases y : A (7 + b) < A (7 + i)
      · exact Or.inr (if_pos y)
      · exact Or.inl (if_neg y)
  · exact Or.inl rfl
theorem bit_ge {n k i : Nat} (hn : n < 2 ^ k) (h : k ≤ i) : n.testBit i = false := by
  cases z : n.testBit i
  · rfl
  · have := bit_lt hn z
    omega
/-! who is in the city -/
def sCity (τ : CT) (n : Nat) : Nat := sAll τ &&& (127 ^^^ n)
theorem sCity_lt {τ : CT} {n : Nat} (H : cOk τ) : sCity τ n < 128 := Nat.lt_of_le_of_lt Nat.and_le_left (sAll_lt H)
theorem sCity_bit {τ : CT} {n i : Nat} (hi : i < 7) : (sCity τ n).testBit i = (decide (i < τ 0 1) && !n.testBit i) := by
  unfold sCity
  rw [and_bit hi]
  unfold sAll
  rw [Nat.testBit_two_pow_sub_one]
theorem and_b0 : ∀ c, c < 128 → ∀ i, i < 7 → (nI (c &&& 2 ^ i) = 0) = (c.testBit i = false) := by decide +kernel
theorem c_inCity {X : XT} {d T N : Nat} {h : HT} {Q : QT} {τ : CT} {A : Nat → Int32} (H : CQ h T τ N A) : wq X (d + 1) 134 0 [some (.ref 1)] [] h Q = Q (some (.int (nI (sCity τ (aN A))))) h := by
  simp only [u134_0, u134_1, u134_4, u134_7, u134_8, u134_11, u134_14, u134_15, u134_16, u134_17, eq_self, q_nl0, q_nlI, q_nlR, not_false_eq_true, q_nz0, q_nz1, q_zv0, q_zv1, q_tl1, q_tl0, q_wif, q_swc, q_swn, List.cons_append, List.nil_append, if_true, if_false, e10, e01, Bool.false_eq_true, sh_1, sh_38, shT_0 (ct_T (cq_t H)), cq_T H, p_1_3 (cq_p H), c_every (cq_t H), cq_o H, nI_not _ (sAll_lt (cq_k H)) _ (cq_n H)]
  rfl
theorem p2_lt {i : Nat} (h : i < 7) : 2 ^ i < 128 := Nat.pow_lt_pow_right (a := 2) (n := 7) (by decide) h
/-! pillars -/
def piP (τ : CT) (n : Nat) (i : Nat) : Bool := n.testBit i && decide (sShort τ n &&& (127 ^^^ sShort τ (n &&& (127 ^^^ 2 ^ i))) ≠ 0)
theorem bS_b {p : Nat → Bool} {i : Nat} {a : Nat} : bS p i a = if p i = true then a ||| 2 ^ i else a := rfl
theorem s128 {τ : CT} (H : cOk τ) (n : Nat) : sShort τ n < 128 := by
  have := sShort_16 H n
  omega
theorem and_128 {a b : Nat} (h : a < 128) : a &&& b < 128 := Nat.lt_of_le_of_lt Nat.and_le_left h
theorem nI_0eq {a : Nat} (h : a < 128) : (nI a = 0) = (a = 0) := propext (nI_eq (b := 0) (by omega) (by omega))
/-! idle -/
def idP (τ : CT) (n : Nat) (i : Nat) : Bool := (sCity τ n).testBit i && decide (sShort τ (n ||| 2 ^ i) = sShort τ n)
theorem or_128 {a b : Nat} (h : a < 128) (g : b < 128) : a ||| b < 128 := Nat.or_lt_two_pow (n := 7) h g
theorem nI_eqB {a b : Nat} (h : a < 2 ^ 31) (g : b < 2 ^ 31) : (nI a = nI b) = (a = b) := propext (nI_eq h g)
theorem nI_ltB {a b : Nat} (h : a < 2 ^ 31) (g : b < 2 ^ 31) : (nI a < nI b) = (a < b) := propext (nI_ltI h g)
theorem city_in {τ : CT} {n i : Nat} (h7 : τ 0 1 ≤ 7) (hi : i < τ 0 1) : ((sCity τ n).testBit i = true) = (n.testBit i = false) := by
  rw [sCity_bit (by omega), decide_eq_true hi, Bool.true_and]
  simp
theorem city_ge {τ : CT} {n i : Nat} (hi : τ 0 1 ≤ i) : (sCity τ n).testBit i = false := by
  refine bit_ge (k := τ 0 1) (Nat.lt_of_le_of_lt Nat.and_le_left ?_) hi
  have : 0 < 2 ^ τ 0 1 := Nat.two_pow_pos _
  unfold sAll
  omega
/-! the dearest -/
def deM (τ : CT) (n : Nat) (i : Nat) : Option Nat → Option Nat
  | none => some i
  | some b => if sLoss τ (n ||| 2 ^ b) < sLoss τ (n ||| 2 ^ i) then some i else some b
def deS (τ : CT) (n : Nat) (i : Nat) (o : Option Nat) : Option Nat := if (sCity τ n).testBit i = true then deM τ n i o else o
theorem deS_o {τ : CT} {n : Nat} (i : Nat) (o : Option Nat) : deS τ n i o = o ∨ deS τ n i o = some i := by
  unfold deS
  split
  · cases o with
    | none => exact Or.inr rfl
    | some b =>
      by_cases y : sLoss τ (n ||| 2 ^ b) < sLoss τ (n ||| 2 ^ i)
      · exact Or.inr (if_pos y)
      · exact Or.inl (if_neg y)
  · exact Or.inl rfl
