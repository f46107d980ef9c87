/-! OWN WORDS AND SIGNS, as the model tells them -/
def cvF : Nat → Nat → Nat
  | 0, _ => 0
  | f + 1, n => if n = 0 then 0 else cvF f (n / 32) * 256 + (n % 32 + 96)
/-- a word's number to the base of 256 -/
def cv (n : Nat) : Nat := cvF 8 n
theorem cvF_lt : ∀ f n, cvF f n < 256 ^ f
  | 0, _ => Nat.lt_succ_self 0
  | f + 1, n => by
    have := cvF_lt f (n / 32)
    unfold cvF
    rw [Nat.pow_succ]
    split
    · exact Nat.mul_pos (Nat.pow_pos (by decide)) (by decide)
    · omega
theorem cvF_inj : ∀ f n m, n < 32 ^ f → m < 32 ^ f → cvF f n = cvF f m → n = m
  | 0, n, m, h1, h2, _ => by
    have h1 : n < 1 := h1
    have h2 : m < 1 := h2
    omega
  | f + 1, n, m, h1, h2, e => by
    unfold cvF at e
    rw [Nat.pow_succ] at h1 h2
    by_cases zn : n = 0
    · by_cases zm : m = 0
      · omega
      · rw [if_pos zn, if_neg zm] at e
        omega
    · by_cases zm : m = 0
      · rw [if_neg zn, if_pos zm] at e
        omega
      · rw [if_neg zn, if_neg zm] at e
        have l1 : n % 32 < 32 := Nat.mod_lt _ (by decide)
        have l2 : m % 32 < 32 := Nat.mod_lt _ (by decide)
        have e1 : cvF f (n / 32) = cvF f (m / 32) := by omega
        have := cvF_inj f (n / 32) (m / 32) (by omega) (by omega) e1
        omega
theorem nL_inj {a b : Nat} (ha : a < 2 ^ 64) (hb : b < 2 ^ 64) (e : nL a = nL b) : a = b := by
  have e : (Int64.ofNat a).toBitVec.toNat = (Int64.ofNat b).toBitVec.toNat := congrArg (fun x : Int64 => x.toBitVec.toNat) e
  have q : ∀ c : Nat, c < 2 ^ 64 → (Int64.ofNat c).toBitVec.toNat = c := fun c hc => by
    show (BitVec.ofNat 64 c).toNat = c
    rw [BitVec.toNat_ofNat]
    exact Nat.mod_eq_of_lt hc
  rw [q a ha, q b hb] at e
  exact e
theorem cv_lt (n : Nat) : cv n < 2 ^ 64 := cvF_lt 8 n
theorem cv_inj {n m : Nat} (hn : n < 2 ^ 40) (hm : m < 2 ^ 40) (e : nL (cv n) = nL (cv m)) : n = m := cvF_inj 8 n m hn hm (nL_inj (cv_lt _) (cv_lt _) e)
