/-! HEIGHTS OF WHAT IS READ -/
def hF (κ : Nat → Nat × Nat) : Nat → Nat
  | 0 => 0
  | i + 1 => if (κ i).1 ∈ fOps then hF κ i + 1 else if (κ i).1 = 126 then hF κ i else hF κ i - 1
def hC1 (h : Nat) (q : Nat × Nat) : Prop := q.1 ∈ fOps ∧ h < 30 ∧ q.2 ≤ 9999 ∨ q.1 = 126 ∧ 1 ≤ h ∧ h ≤ 30 ∨ q.1 ∈ fBins ∧ 2 ≤ h ∧ h ≤ 30
def hGd (S : SF) : Prop := ∀ i, i < S.2.2.1 → hC1 (hF S.2.2.2 i) (S.2.2.2 i)
def hN (S : SF) : Nat := hF S.2.2.2 S.2.2.1
theorem hF_eq {κ κ' : Nat → Nat × Nat} : ∀ n, (∀ i, i < n → κ' i = κ i) → hF κ' n = hF κ n
  | 0, _ => rfl
  | n + 1, H => by
    have ih := hF_eq n (fun i hi => H i (by omega))
    show (if (κ' n).1 ∈ fOps then hF κ' n + 1 else if (κ' n).1 = 126 then hF κ' n else hF κ' n - 1) = if (κ n).1 ∈ fOps then hF κ n + 1 else if (κ n).1 = 126 then hF κ n else hF κ n - 1
    rw [ih, H n (by omega)]
theorem hGd_ad {k v : Nat} {S : SF} (G : hGd S) (hn : S.2.2.1 < 1600) (c : hC1 (hN S) (k, v)) : hGd (adS k v S) ∧ hN (adS k v S) = if k ∈ fOps then hN S + 1 else if k = 126 then hN S else hN S - 1 := by
  obtain ⟨s, u, n, κ⟩ := S
  have hn : n < 1600 := hn
  have G : ∀ i, i < n → hC1 (hF κ i) (κ i) := G
  have c : hC1 (hF κ n) (k, v) := c
  have e : adS k v (s, u, n, κ) = (s, u, n + 1, fun i => if i = n then (k, v) else κ i) := if_pos hn
  rw [e]
  have q : ∀ m, m ≤ n → hF (fun i => if i = n then (k, v) else κ i) m = hF κ m := fun m hm => hF_eq m (fun i hi => if_neg (by omega))
  have en : (fun i => if i = n then (k, v) else κ i) n = (k, v) := if_pos rfl
  refine ⟨fun i hi => ?_, ?_⟩
  · have hi : i < n + 1 := hi
    show hC1 (hF (fun i => if i = n then (k, v) else κ i) i) (if i = n then (k, v) else κ i)
    rw [q i (by omega)]
    by_cases y : i = n
    · rw [if_pos y, y]
      exact c
    · rw [if_neg y]
      exact G i (by omega)
  · show (if (if n = n then (k, v) else κ n).1 ∈ fOps then hF (fun i => if i = n then (k, v) else κ i) n + 1 else if (if n = n then (k, v) else κ n).1 = 126 then hF (fun i => if i = n then (k, v) else κ i) n else hF (fun i => if i = n then (k, v) else κ i) n - 1) = if k ∈ fOps then hF κ n + 1 else if k = 126 then hF κ n else hF κ n - 1
    rw [if_pos rfl, q n (Nat.le_refl n)]
theorem dN_b {V : Nat → Nat} {L s : Nat} : ∀ j, j ≤ nDg V L s → dN V s j < 10 ^ j
  | 0, _ => Nat.lt_succ_self 0
  | j + 1, h => by
    have ih := dN_b (V := V) (L := L) (s := s) j (by omega)
    have z := of_decide_eq_true (rl_lt (P := isDg V L) L s j (show j < nDg V L s by omega))
    show dN V s j * 10 + (V (s + j) - 48) < 10 ^ (j + 1)
    rw [Nat.pow_succ]
    omega
theorem dN_4 {V : Nat → Nat} {L s : Nat} (h : tK V L s = 2) : dN V s (nDg V L s) ≤ 9999 := by
  have y : nDg V L s ≤ 4 := by
    unfold tK at h
    split at h
    · cases h
    · split at h
      · split at h <;> cases h
      · split at h
        · split at h
          · assumption
          · cases h
        · split at h <;> cases h
  have := dN_b (V := V) (L := L) (s := s) (nDg V L s) (Nat.le_refl _)
  have q : 10 ^ nDg V L s ≤ 10 ^ 4 := Nat.pow_le_pow_right (by decide) y
  omega
def HI (S : SF) : Prop := hGd S ∧ hN S ≤ S.2.1 ∧ S.2.2.1 ≤ 9 * S.2.1
theorem bins_no : ∀ k, k ∈ fBins → ¬ k ∈ fOps ∧ k ≠ 126 := by decide
theorem n9 {w : Nat} {S S1 : SF} (b : GB w S S1) (hn : S.2.2.1 ≤ 9 * S.2.1) : S1.2.2.1 + 1 ≤ 9 * S1.2.1 := by
  obtain ⟨b1, b2, b3⟩ := b
  have : (9 - w) * (S1.2.1 - S.2.1) ≤ 9 * (S1.2.1 - S.2.1) := Nat.mul_le_mul (by omega) (Nat.le_refl _)
  omega
theorem lo_h {V : Nat → Nat} {L l w : Nat} {g : Nat → Nat → SF → RF} {S0 : SF} (hv : ∀ i, i < L → V i < 256) (hb : ∀ S S1, g (l + 1) w S = .inr S1 → GB w S S1) (hg : ∀ S S1, HI S → g (l + 1) w S = .inr S1 → HI S1 ∧ hN S1 = hN S + 1) : ∀ k r S1, lo g V L l w k r = .inr S1 → (∀ S, r = .inr S → HI S ∧ hN S = hN S0 + 1) → HI S1 ∧ hN S1 = hN S0 + 1
  | 0, r, S1, h, H => H S1 h
  | k + 1, .inl e, S1, h, H => by cases h
  | k + 1, .inr S, S1, h, H => by
    obtain ⟨hi, hn⟩ := H S rfl
    by_cases z : opC V L S.1 l = 0
    · rw [show lo g V L l w (k + 1) (.inr S) = .inr S from if_pos z] at h
      cases h
      exact ⟨hi, hn⟩
    · rw [show lo g V L l w (k + 1) (.inr S) = lo g V L l w k (adR (opC V L S.1 l) 0 (g (l + 1) w (avS V L S))) from if_neg z] at h
      have ob := ((opC_ok (l := l) (s := S.1) hv).resolve_left z).1
      refine lo_h hv hb hg k _ S1 h (fun S' e => ?_)
      cases q : g (l + 1) w (avS V L S) with
      | inl e' =>
        rw [q] at e
        cases e
      | inr S2 =>
        rw [q] at e
        have e : adS (opC V L S.1 l) 0 S2 = S' := by
          injection e
        subst e
        have gb := hb _ _ q
        obtain ⟨⟨i1, i2, i3⟩, i4⟩ := hg (avS V L S) S2 hi q
        have i4 : hN S2 = hN S + 1 := i4
        have u30 := gb.2.1
        have n9' := n9 gb (show (avS V L S).2.2.1 ≤ 9 * (avS V L S).2.1 from hi.2.2)
        have m := adS_n (k := opC V L S.1 l) (v := 0) (S := S2)
        obtain ⟨c1, c2⟩ := hGd_ad (k := opC V L S.1 l) (v := 0) i1 (by omega) (Or.inr (Or.inr ⟨ob, by omega, by omega⟩))
        rw [if_neg (bins_no _ ob).1, if_neg (bins_no _ ob).2] at c2
        refine ⟨⟨c1, ?_, ?_⟩, by omega⟩
        · rw [m.2.1]
          omega
        · rw [m.2.1]
          omega
theorem lev_h {V : Nat → Nat} {L : Nat} (hv : ∀ i, i < L → V i < 256) : ∀ f l w S S1, HI S → lev V L f l w S = .inr S1 → w ≤ 7 → l ≤ 5 → 6 * (8 - w) ≤ f + l → HI S1 ∧ hN S1 = hN S + 1
  | 0, l, w, S, S1, hi, h, hw, hl, hm => by omega
  | f + 1, l, w, S, S1, hi, h, hw, hl, hm => by
    have ih := lev_h (V := V) (L := L) hv f
    unfold lev at h
    by_cases h5 : 5 ≤ l
    · rw [if_pos h5] at h
      unfold un at h
      by_cases zb : unB V L w S = true
      · rw [if_pos zb] at h
        cases h
      · have nb : ¬ ((isG V L S.1 40 = false ∧ kuC V L S.1 = 0 ∧ tK V L S.1 ≠ 2) ∨ (isG V L S.1 40 = true ∧ 6 < w) ∨ 30 ≤ S.2.1) := fun q => zb (decide_eq_true q)
        rw [if_neg zb] at h
        obtain ⟨i1, i2, i3⟩ := hi
        by_cases zo : isG V L S.1 40 = true
        · rw [if_pos zo] at h
          have w6 : w ≤ 6 := Nat.le_of_not_lt (fun q => nb (Or.inr (Or.inl ⟨zo, q⟩)))
          cases q : lev V L f 0 (w + 1) (avS V L (upU S)) with
          | inl e =>
            rw [q] at h
            cases h
          | inr S2 =>
            rw [q] at h
            have b := ih 0 (w + 1) (avS V L (upU S)) S2 ⟨i1, show hN S ≤ S.2.1 + 1 by omega, show S.2.2.1 ≤ 9 * (S.2.1 + 1) by omega⟩ q (by omega) (by omega) (by omega)
            by_cases y : isG V L S2.1 41 = true
            · rw [show exG V L 41 (.inr S2) = .inr (avS V L S2) from if_pos y] at h
              have h : avS V L S2 = S1 := by injection h
              subst h
              exact b
            · rw [show exG V L 41 (.inr S2) = rfS V L 2 S2 from if_neg y] at h
              cases h
        · rw [if_neg zo] at h
          have zo' : isG V L S.1 40 = false := by simpa using zo
          have h : unS V L S = S1 := by injection h
          subst h
          have hu : S.2.1 < 30 := Nat.lt_of_not_le (fun q => nb (Or.inr (Or.inr q)))
          have m := adS_n (k := if kuC V L S.1 = 0 then 110 else kuC V L S.1) (v := if kuC V L S.1 = 0 then dN V S.1 (nDg V L S.1) else 0) (S := upU S)
          have ko : (if kuC V L S.1 = 0 then 110 else kuC V L S.1) ∈ fOps := by
            by_cases y : kuC V L S.1 = 0
            · rw [if_pos y]
              decide
            · rw [if_neg y]
              exact (ku_ok.resolve_left y).1
          have kv : (if kuC V L S.1 = 0 then dN V S.1 (nDg V L S.1) else 0) ≤ 9999 := by
            by_cases y : kuC V L S.1 = 0
            · rw [if_pos y]
              exact dN_4 (L := L) (Classical.byContradiction (fun q => nb (Or.inl ⟨zo', y, q⟩)))
            · rw [if_neg y]
              exact Nat.zero_le _
          obtain ⟨c1, c2⟩ := hGd_ad (k := if kuC V L S.1 = 0 then 110 else kuC V L S.1) (v := if kuC V L S.1 = 0 then dN V S.1 (nDg V L S.1) else 0) (S := upU S) (show hGd (upU S) from i1) (show S.2.2.1 < 1600 by omega) (Or.inl ⟨ko, show hN S < 30 by omega, kv⟩)
          rw [if_pos ko] at c2
          have c2 : hN (unS V L S) = hN S + 1 := c2
          have e2 : (unS V L S).2.1 = S.2.1 + 1 := m.2.1
          have e3 : (unS V L S).2.2.1 ≤ S.2.2.1 + 1 := m.2.2
          exact ⟨⟨c1, by omega, by omega⟩, c2⟩
    · rw [if_neg h5] at h
      by_cases zn : l = 2 ∧ isW V L S.1 18 = true
      · rw [if_pos zn] at h
        by_cases y : 6 < w
        · rw [if_pos y] at h
          cases h
        · rw [if_neg y] at h
          cases q : lev V L f 2 (w + 1) (avS V L S) with
          | inl e =>
            rw [q] at h
            cases h
          | inr S2 =>
            rw [q] at h
            obtain ⟨⟨i1, i2, i3⟩, i4⟩ := ih 2 (w + 1) (avS V L S) S2 hi q (by omega) (by omega) (by omega)
            have i4 : hN S2 = hN S + 1 := i4
            have gb := lev_n f 2 (w + 1) _ _ q (by omega) (by omega) (by omega)
            have n9' := n9 gb (show (avS V L S).2.2.1 ≤ 9 * (avS V L S).2.1 from hi.2.2)
            have u30 := gb.2.1
            have h : adS 126 0 S2 = S1 := by injection h
            subst h
            have m := adS_n (k := 126) (v := 0) (S := S2)
            obtain ⟨c1, c2⟩ := hGd_ad (k := 126) (v := 0) i1 (by omega) (Or.inr (Or.inl ⟨rfl, by omega, by omega⟩))
            rw [if_neg (by decide), if_pos rfl] at c2
            refine ⟨⟨c1, ?_, ?_⟩, by omega⟩
            · rw [m.2.1]
              omega
            · rw [m.2.1]
              omega
      · rw [if_neg zn] at h
        exact lo_h (S0 := S) hv (fun S' S1' e => lev_n f (l + 1) w S' S1' e hw (by omega) (by omega)) (fun S' S1' hi' e => ih (l + 1) w S' S1' hi' e hw (by omega) (by omega)) _ _ _ h (fun S' e => ih (l + 1) w S S' hi e hw (by omega) (by omega))
