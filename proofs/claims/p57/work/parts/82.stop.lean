/-! WHERE A LEVEL'S READING STOPS -/
def rkB (l : Nat) : Nat := if l = 0 then 0 else if l = 1 then 1 else if l = 2 then 2 else if l = 3 then 4 else if l = 4 then 5 else 6
theorem rk_3 {V : Nat → Nat} {L s : Nat} : rkC V L s ≠ 3 := by
  unfold rkC
  repeat' split
  all_goals decide
/-- the token behind a level -/
def TB (V : Nat → Nat) (L l : Nat) (S : SF) : Prop := ¬ (l ≤ 2 ∧ rkC V L S.1 = 4) → rkC V L S.1 ≤ rkB l
theorem lo_TB {V : Nat → Nat} {L l w : Nat} {g : Nat → Nat → SF → RF} (hg : ∀ S S1, S.2.1 ≤ 30 → g (l + 1) w S = .inr S1 → S1.2.1 ≤ 30 ∧ TB V L (l + 1) S1) : ∀ k r S1, lo g V L l w k r = .inr S1 → (∀ S, r = .inr S → S.2.1 ≤ 30 ∧ TB V L (l + 1) S) → TB V L (l + 1) S1
  | 0, r, S1, h, H => (H S1 h).2
  | k + 1, .inl e, S1, h, H => by cases h
  | k + 1, .inr S, S1, h, H => by
    by_cases z : opC V L S.1 l = 0
    · rw [show lo g V L l w (k + 1) (.inr S) = .inr S from if_pos z] at h
      cases h
      exact (H S rfl).2
    · rw [show lo g V L l w (k + 1) (.inr S) = lo g V L l w k (adR (opC V L S.1 l) 0 (g (l + 1) w (avS V L S))) from if_neg z] at h
      refine lo_TB hg k _ S1 h (fun S' e => ?_)
      cases q : g (l + 1) w (avS V L S) with
      | inl e' =>
        rw [q] at e
        cases e
      | inr S2 =>
        rw [q] at e
        have e : adS (opC V L S.1 l) 0 S2 = S' := by
          injection e
        have b := hg _ _ (show (avS V L S).2.1 ≤ 30 from (H S rfl).1) q
        have m := adS_n (k := opC V L S.1 l) (v := 0) (S := S2)
        rw [e] at m
        unfold TB at *
        rw [m.1, m.2.1]
        exact b
theorem lev_TB {V : Nat → Nat} {L : Nat} (hv : ∀ i, i < L → V i < 256) : ∀ f l w S S1, lev V L f l w S = .inr S1 → w ≤ 7 → l ≤ 5 → 6 * (8 - w) ≤ f + l → TB V L l S1
  | 0, l, w, S, S1, h, hw, hl, hm => by omega
  | f + 1, l, w, S, S1, h, hw, hl, hm => by
    have ih := lev_TB (V := V) (L := L) hv f
    have r6 := rk_6 (V := V) (L := L) (s := S1.1)
    have r3 := rk_3 (V := V) (L := L) (s := S1.1)
    by_cases h5 : 5 ≤ l
    · have : l = 5 := by omega
      subst this
      exact fun _ => r6
    · unfold lev at h
      rw [if_neg h5] at h
      by_cases zn : l = 2 ∧ isW V L S.1 18 = true
      · rw [if_pos zn] at h
        by_cases y : 6 < w
        · rw [if_pos y] at h
          cases h
        · rw [if_neg y] at h
          cases q : lev V L f 2 (w + 1) (avS V L S) with
          | inl e =>
            rw [q] at h
            cases h
          | inr S2 =>
            rw [q] at h
            have h : adS 126 0 S2 = S1 := by injection h
            have b := ih 2 (w + 1) _ _ q (by omega) (by omega) (by omega)
            have m := adS_n (k := 126) (v := 0) (S := S2)
            rw [h] at m
            unfold TB at *
            rw [m.1, zn.1]
            exact b
      · rw [if_neg zn] at h
        have hg : ∀ S S1, S.2.1 ≤ 30 → lev V L f (l + 1) w S = .inr S1 → S1.2.1 ≤ 30 ∧ TB V L (l + 1) S1 := fun S' S1' _ e => ⟨(lev_n f (l + 1) w S' S1' e hw (by omega) (by omega)).2.1, ih (l + 1) w S' S1' e hw (by omega) (by omega)⟩
        have hn : ∀ S S1, lev V L f (l + 1) w S = .inr S1 → GB w S S1 := fun S' S1' e => lev_n f (l + 1) w S' S1' e hw (by omega) (by omega)
        cases q : lev V L f (l + 1) w S with
        | inl e =>
          rw [q] at h
          split at h <;> cases h
        | inr S2 =>
          rw [q] at h
          have b2 := hn _ _ q
          have t := lo_TB (l := l) (w := w) (g := lev V L f) hg _ _ S1 h (fun S' e => by
            have e : S2 = S' := by injection e
            subst e
            exact ⟨b2.2.1, ih (l + 1) w S S2 q hw (by omega) (by omega)⟩)
          intro ns
          by_cases z2 : l = 2
          · subst z2
            have t := t (fun q => by omega)
            have t : rkC V L S1.1 ≤ 4 := t
            have n4 : rkC V L S1.1 ≠ 4 := fun q => ns ⟨Nat.le_refl 2, q⟩
            show rkC V L S1.1 ≤ 2
            omega
          · rw [if_neg z2] at h
            have o := lo_op (l := l) (w := w) (g := lev V L f) hn 30 S2 S1 h (by have := b2.1; omega) b2.2.1
            have rn : rkC V L S1.1 ≠ rkL l := fun q => ((rk_op (s := S1.1) hv l (by omega)).1.mpr q) o
            have t := t (fun q => ns ⟨by omega, q.2⟩)
            have hl' : l = 0 ∨ l = 1 ∨ l = 3 ∨ l = 4 := by omega
            rcases hl' with rfl | rfl | rfl | rfl
            · have t : rkC V L S1.1 ≤ 1 := t
              have rn : rkC V L S1.1 ≠ 1 := rn
              show rkC V L S1.1 ≤ 0
              omega
            · have t : rkC V L S1.1 ≤ 2 := t
              have rn : rkC V L S1.1 ≠ 2 := rn
              show rkC V L S1.1 ≤ 1
              omega
            · have t : rkC V L S1.1 ≤ 5 := t
              have rn : rkC V L S1.1 ≠ 5 := rn
              show rkC V L S1.1 ≤ 4
              omega
            · have t : rkC V L S1.1 ≤ 6 := t
              have rn : rkC V L S1.1 ≠ 6 := rn
              show rkC V L S1.1 ≤ 5
              omega
