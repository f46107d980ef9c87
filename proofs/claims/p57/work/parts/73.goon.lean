/-! THE MODEL'S TOKENS -/
def hM (h : HT) (a b c e : Int32) (w : Int64) : HT := (fun x k => if x = 195 then (if k = 6 then a else if k = 7 then b else if k = 8 then c else if k = 9 then e else h.1 x k) else h.1 x k, fun x k => if x = 195 ∧ k = 10 then w else h.2.1 x k, h.2.2)
/-- the sign at p; 0 behind the text -/
def sA (V : Nat → Nat) (L p : Nat) : Nat := if p < L then V p else 0
theorem wN_lt {V : Nat → Nat} {L s : Nat} : ∀ j, j ≤ nLt V L s → wN V s j < 32 ^ j
  | 0, _ => Nat.lt_succ_self 0
  | j + 1, h => by
    have := wN_lt (V := V) (L := L) (s := s) j (by omega)
    have z := of_decide_eq_true (rl_lt (P := isLt V L) L s j (show j < nLt V L s by omega))
    show wN V s j * 32 + (V (s + j) - 96) < 32 ^ (j + 1)
    rw [Nat.pow_succ]
    omega
