/-! WHAT A FORMULA'S READING KEEPS TO -/
def GB (w : Nat) (S S1 : SF) : Prop := S.2.1 < S1.2.1 ∧ S1.2.1 ≤ 30 ∧ S1.2.2.1 + 1 ≤ S.2.2.1 + (9 - w) * (S1.2.1 - S.2.1)
theorem adS_n {k v : Nat} {S : SF} : (adS k v S).1 = S.1 ∧ (adS k v S).2.1 = S.2.1 ∧ (adS k v S).2.2.1 ≤ S.2.2.1 + 1 := by
  unfold adS
  by_cases z : S.2.2.1 < 1600
  · rw [if_pos z]
    exact ⟨rfl, rfl, Nat.le_refl _⟩
  · rw [if_neg z]
    exact ⟨rfl, rfl, Nat.le_succ _⟩
theorem GB_tr {w : Nat} {S S1 S2 S3 : SF} (a : GB w S S1) (b : GB w S1 S2) (e : S3.2.1 = S2.2.1) (n : S3.2.2.1 ≤ S2.2.2.1 + 1) : GB w S S3 := by
  obtain ⟨a1, a2, a3⟩ := a
  obtain ⟨b1, b2, b3⟩ := b
  unfold GB
  have e1 : S2.2.1 - S.2.1 = (S1.2.1 - S.2.1) + (S2.2.1 - S1.2.1) := by omega
  refine ⟨by omega, by omega, ?_⟩
  rw [e, e1, Nat.mul_add]
  omega
theorem lo_inr {V : Nat → Nat} {L l w : Nat} {g : Nat → Nat → SF → RF} {S0 : SF} (hg : ∀ S S1, g (l + 1) w S = .inr S1 → GB w S S1) : ∀ k r S1, lo g V L l w k r = .inr S1 → (∀ S, r = .inr S → GB w S0 S) → GB w S0 S1
  | 0, r, S1, h, H => H S1 h
  | k + 1, .inl e, S1, h, H => by cases h
  | k + 1, .inr S, S1, h, H => by
    have hS := H S rfl
    by_cases z : opC V L S.1 l = 0
    · rw [show lo g V L l w (k + 1) (.inr S) = .inr S from if_pos z] at h
      cases h
      exact hS
    · rw [show lo g V L l w (k + 1) (.inr S) = lo g V L l w k (adR (opC V L S.1 l) 0 (g (l + 1) w (avS V L S))) from if_neg z] at h
      refine lo_inr hg k _ S1 h (fun S' e => ?_)
      cases q : g (l + 1) w (avS V L S) with
      | inl e' =>
        rw [q] at e
        cases e
      | inr S2 =>
        rw [q] at e
        have e : adS (opC V L S.1 l) 0 S2 = S' := by
          injection e
        have b := hg _ _ q
        have m := adS_n (k := opC V L S.1 l) (v := 0) (S := S2)
        rw [e] at m
        exact GB_tr hS b m.2.1 m.2.2
theorem lev_n {V : Nat → Nat} {L : Nat} : ∀ f l w S S1, lev V L f l w S = .inr S1 → w ≤ 7 → l ≤ 5 → 6 * (8 - w) ≤ f + l → GB w S S1
  | 0, l, w, S, S1, h, hw, hl, hm => by omega
  | f + 1, l, w, S, S1, h, hw, hl, hm => by
    have ih := lev_n (V := V) (L := L) f
    unfold lev at h
    by_cases h5 : 5 ≤ l
    · rw [if_pos h5] at h
      unfold un at h
      by_cases zb : unB V L w S = true
      · rw [if_pos zb] at h
        cases h
      · have nb : ¬ ((isG V L S.1 40 = false ∧ kuC V L S.1 = 0 ∧ tK V L S.1 ≠ 2) ∨ (isG V L S.1 40 = true ∧ 6 < w) ∨ 30 ≤ S.2.1) := fun q => zb (decide_eq_true q)
        rw [if_neg zb] at h
        by_cases zo : isG V L S.1 40 = true
        · rw [if_pos zo] at h
          have w6 : w ≤ 6 := Nat.le_of_not_lt (fun q => nb (Or.inr (Or.inl ⟨zo, q⟩)))
          cases q : lev V L f 0 (w + 1) (avS V L (upU S)) with
          | inl e =>
            rw [q] at h
            cases h
          | inr S2 =>
            rw [q] at h
            obtain ⟨b1, b2, b3⟩ := ih 0 (w + 1) _ _ q (by omega) (by omega) (by omega)
            have b1 : S.2.1 + 1 < S2.2.1 := b1
            have b3 : S2.2.2.1 + 1 ≤ S.2.2.1 + (9 - (w + 1)) * (S2.2.1 - (S.2.1 + 1)) := b3
            by_cases y : isG V L S2.1 41 = true
            · rw [show exG V L 41 (.inr S2) = .inr (avS V L S2) from if_pos y] at h
              have h : avS V L S2 = S1 := by injection h
              subst h
              refine ⟨show S.2.1 < S2.2.1 by omega, b2, ?_⟩
              show S2.2.2.1 + 1 ≤ S.2.2.1 + (9 - w) * (S2.2.1 - S.2.1)
              have : (9 - (w + 1)) * (S2.2.1 - (S.2.1 + 1)) ≤ (9 - w) * (S2.2.1 - S.2.1) := Nat.mul_le_mul (by omega) (by omega)
              omega
            · rw [show exG V L 41 (.inr S2) = rfS V L 2 S2 from if_neg y] at h
              cases h
        · rw [if_neg zo] at h
          have h : unS V L S = S1 := by injection h
          subst h
          have hu : S.2.1 < 30 := Nat.lt_of_not_le (fun q => nb (Or.inr (Or.inr q)))
          have m := adS_n (k := if kuC V L S.1 = 0 then 110 else kuC V L S.1) (v := if kuC V L S.1 = 0 then dN V S.1 (nDg V L S.1) else 0) (S := upU S)
          have e2 : (unS V L S).2.1 = S.2.1 + 1 := m.2.1
          have e3 : (unS V L S).2.2.1 ≤ S.2.2.1 + 1 := m.2.2
          refine ⟨by omega, by omega, ?_⟩
          rw [e2, show S.2.1 + 1 - S.2.1 = 1 by omega, Nat.mul_one]
          omega
    · rw [if_neg h5] at h
      by_cases zn : l = 2 ∧ isW V L S.1 18 = true
      · rw [if_pos zn] at h
        by_cases y : 6 < w
        · rw [if_pos y] at h
          cases h
        · rw [if_neg y] at h
          cases q : lev V L f 2 (w + 1) (avS V L S) with
          | inl e =>
            rw [q] at h
            cases h
          | inr S2 =>
            rw [q] at h
            obtain ⟨b1, b2, b3⟩ := ih 2 (w + 1) _ _ q (by omega) (by omega) (by omega)
            have b1 : S.2.1 < S2.2.1 := b1
            have b3 : S2.2.2.1 + 1 ≤ S.2.2.1 + (9 - (w + 1)) * (S2.2.1 - S.2.1) := b3
            have h : adS 126 0 S2 = S1 := by injection h
            subst h
            have m := adS_n (k := 126) (v := 0) (S := S2)
            refine ⟨by omega, by omega, ?_⟩
            rw [m.2.1]
            have e9 : (9 - w) * (S2.2.1 - S.2.1) = (9 - (w + 1)) * (S2.2.1 - S.2.1) + (S2.2.1 - S.2.1) := by
              rw [show 9 - w = (9 - (w + 1)) + 1 by omega, Nat.add_mul, Nat.one_mul]
            omega
      · rw [if_neg zn] at h
        exact lo_inr (fun S' S1' e => ih (l + 1) w S' S1' e hw (by omega) (by omega)) _ _ _ h (fun S' e => ih (l + 1) w S S' e hw (by omega) (by omega))
/-- the joining sign's level -/
theorem lo_op {V : Nat → Nat} {L l w : Nat} {g : Nat → Nat → SF → RF} (hg : ∀ S S1, g (l + 1) w S = .inr S1 → GB w S S1) : ∀ k S S1, lo g V L l w k (.inr S) = .inr S1 → 30 < k + S.2.1 → S.2.1 ≤ 30 → opC V L S1.1 l = 0
  | 0, S, S1, h, hk, hu => by omega
  | k + 1, S, S1, h, hk, hu => by
    by_cases z : opC V L S.1 l = 0
    · rw [show lo g V L l w (k + 1) (.inr S) = .inr S from if_pos z] at h
      cases h
      exact z
    · rw [show lo g V L l w (k + 1) (.inr S) = lo g V L l w k (adR (opC V L S.1 l) 0 (g (l + 1) w (avS V L S))) from if_neg z] at h
      cases q : g (l + 1) w (avS V L S) with
      | inl e =>
        rw [q] at h
        cases k <;> cases h
      | inr S2 =>
        rw [q] at h
        obtain ⟨b1, b2, b3⟩ := hg _ _ q
        have b1 : S.2.1 < S2.2.1 := b1
        have m := adS_n (k := opC V L S.1 l) (v := 0) (S := S2)
        exact lo_op hg k _ S1 h (by rw [m.2.1]; omega) (by rw [m.2.1]; exact b2)
