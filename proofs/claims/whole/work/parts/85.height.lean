/-! HEIGHTS OF WHAT IS READ -/
def hF (κ : Nat → Nat × Nat) : Nat → Nat
  | 0 => 0
  | i + 1 => if (κ i).1 ∈ fOps then hF κ i + 1 else if (κ i).1 = 126 then hF κ i else hF κ i - 1
def hC1 (h : Nat) (q : Nat × Nat) : Prop := q.1 ∈ fOps ∧ h < 30 ∧ q.2 ≤ 9999 ∨ q.1 = 126 ∧ 1 ≤ h ∧ h ≤ 30 ∨ q.1 ∈ fBins ∧ 2 ≤ h ∧ h ≤ 30
def hGd (S : SF) : Prop := ∀ i, i < S.2.2.1 → hC1 (hF S.2.2.2 i) (S.2.2.2 i)
def hN (S : SF) : Nat := hF S.2.2.2 S.2.2.1
theorem hF_eq {κ κ' : Nat → Nat × Nat} : ∀ n, (∀ i, i < n → κ' i = κ i) → hF κ' n = hF κ n
  | 0, _ => rfl
  | n + 1, H => by
    have ih := hF_eq n (fun i hi => H i (by omega))
    show (if (κ' n).1 ∈ fOps then hF κ' n + 1 else if (κ' n).1 = 126 then hF κ' n else hF κ' n - 1) = if (κ n).1 ∈ fOps then hF κ n + 1 else if (κ n).1 = 126 then hF κ n else hF κ n - 1
    rw [ih, H n (by omega)]
theorem hGd_ad {k v : Nat} {S : SF} (G : hGd S) (hn : S.2.2.1 < 1600) (c : hC1 (hN S) (k, v)) : hGd (adS k v S) ∧ hN (adS k v S) = if k ∈ fOps then hN S + 1 else if k = 126 then hN S else hN S - 1 := by
  obtain ⟨s, u, n, κ⟩ := S
  have hn : n < 1600 := hn
  have G : ∀ i, i < n → hC1 (hF κ i) (κ i) := G
  have c : hC1 (hF κ n) (k, v) := c
  have e : adS k v (s, u, n, κ) = (s, u, n + 1, fun i => if i = n then (k, v) else κ i) := if_pos hn
  rw [e]
  have q : ∀ m, m ≤ n → hF (fun i => if i = n then (k, v) else κ i) m = hF κ m := fun m hm => hF_eq m (fun i hi => if_neg (by omega))
  have en : (fun i => if i = n then (k, v) else κ i) n = (k, v) := if_pos rfl
  refine ⟨fun i hi => ?_, ?_⟩
  · have hi : i < n + 1 := hi
    show hC1 (hF (fun i => if i = n then (k, v) else κ i) i) (if i = n then (k, v) else κ i)
    rw [q i (by omega)]
    by_cases y : i = n
    · rw [if_pos y, y]
      exact c
    · rw [if_neg y]
      exact G i (by omega)
  · show (if (if n = n then (k, v) else κ n).1 ∈ fOps then hF (fun i => if i = n then (k, v) else κ i) n + 1 else if (if n = n then (k, v) else κ n).1 = 126 then hF (fun i => if i = n then (k, v) else κ i) n else hF (fun i => if i = n then (k, v) else κ i) n - 1) = if k ∈ fOps then hF κ n + 1 else if k = 126 then hF κ n else hF κ n - 1
    rw [if_pos rfl, q n (Nat.le_refl n)]
theorem dN_b {V : Nat → Nat} {L s : Nat} : ∀ j, j ≤ nDg V L s → dN V s j < 10 ^ j
  | 0, _ => Nat.lt_succ_self 0
  | j + 1, h => by
    have ih := dN_b (V := V) (L := L) (s := s) j (by omega)
    have z := of_decide_eq_true (rl_lt (P := isDg V L) L s j (show j < nDg V L s by omega))
    show dN V s j * 10 + (V (s + j) - 48) < 10 ^ (j + 1)
    rw [Nat.pow_succ]
    omega
theorem dN_4 {V : Nat → Nat} {L s : Nat} (h : tK V L s = 2) : dN V s (nDg V L s) ≤ 9999 := by
  have y : nDg V L s ≤ 4 := by
    unfold tK at h
    split at h
    · cases h
    · split at h
      · split at h <;> cases h
      · split at h
        · split at h
          · assumption
          · cases h
        · split at h <;> cases h
  have := dN_b (V := V) (L := L) (s := s) (nDg V L s) (Nat.le_refl _)
  have q : 10 ^ nDg V L s ≤ 10 ^ 4 := Nat.pow_le_pow_right (by decide) y
  omega
