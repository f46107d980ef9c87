/-! WHAT THE LAW'S CHECKS SAY, of the counts themselves -/
theorem bS_bits {p : Nat → Bool} : ∀ k m, (fL (bS p) 0 k).testBit m = (decide (m < k) && p m)
  | 0, m => by
    show (0 : Nat).testBit m = _
    rw [Nat.zero_testBit, decide_eq_false (Nat.not_lt_zero m)]
    rfl
  | k + 1, m => by
    rw [fL_s, bS_b]
    by_cases z : p k = true
    · rw [if_pos z, Nat.testBit_or, bS_bits k m, Nat.testBit_two_pow]
      by_cases e : k = m
      · rw [← e, z, decide_eq_true rfl, decide_eq_true (Nat.lt_succ_self k)]
        simp
      · rw [decide_eq_false e, Bool.or_false]
        have : decide (m < k) = decide (m < k + 1) := decide_eq_decide.mpr (by omega)
        rw [this]
    · rw [if_neg z, bS_bits k m]
      by_cases e : k = m
      · rw [← e, show p k = false by simpa using z, Bool.and_false, Bool.and_false]
      · have : decide (m < k) = decide (m < k + 1) := decide_eq_decide.mpr (by omega)
        rw [this]
theorem bS_lt {p : Nat → Bool} : ∀ k, fL (bS p) 0 k < 2 ^ k
  | 0 => Nat.one_pos
  | k + 1 => by
    rw [fL_s, bS_b]
    have h := bS_lt (p := p) k
    split
    · exact orb (Nat.lt_trans h (Nat.pow_lt_pow_right (by decide) (Nat.lt_succ_self k))) (Nat.lt_succ_self k)
    · exact Nat.lt_trans h (Nat.pow_lt_pow_right (by decide) (Nat.lt_succ_self k))
theorem loss_off {τ : CT} (H : cOk τ) (n x : Nat) (hn : n < 128) : sLoss τ (n &&& (127 ^^^ x)) ≤ sLoss τ n := by
  have e : n &&& (127 ^^^ x) ||| n = n := by
    apply Nat.eq_of_testBit_eq
    intro i
    rw [Nat.testBit_or, Nat.testBit_and]
    cases n.testBit i <;> simp
  have := sLoss_mono H (n &&& (127 ^^^ x)) n
  rw [e] at this
  exact this
theorem or_all {τ : CT} {n : Nat} (hn : n < 2 ^ τ 0 1) : n ||| sAll τ = sAll τ := by
  apply Nat.eq_of_testBit_eq
  intro i
  unfold sAll
  rw [Nat.testBit_or, Nat.testBit_two_pow_sub_one]
  by_cases z : i < τ 0 1
  · simp [z]
  · rw [bit_ge hn (by omega), decide_eq_false z]
    rfl
theorem loss_all {τ : CT} (H : cOk τ) {n : Nat} (hn : n < 2 ^ τ 0 1) : sLoss τ n ≤ sLoss τ (sAll τ) := by
  have := sLoss_mono H n (sAll τ)
  rw [or_all hn] at this
  exact this
/-- the first of those a fold keeps is one that it takes -/
theorem miS_sat {p : Nat → Bool} : ∀ k b, fL (miS p) none k = some b → p b = true
  | 0, b, h => nomatch h
  | k + 1, b, h => by
    rw [fL_s] at h
    unfold miS at h
    by_cases z : p k = true
    · rw [if_pos z] at h
      generalize hg : fL (fun i o => if p i = true then miM i o else o) none k = o at h
      have ih := fun b' (e : fL (miS p) none k = some b') => miS_sat k b' e
      have hg' : fL (miS p) none k = o := hg
      rw [hg'] at ih
      cases o with
      | none =>
        cases h
        exact z
      | some c =>
        have h' : (if pcN k < pcN c then some k else some c) = some b := h
        split at h'
        · cases h'
          exact z
        · cases h'
          exact ih _ rfl
    · rw [if_neg z] at h
      exact miS_sat k b h
theorem miS_some {p : Nat → Bool} {i : Nat} (z : p i = true) : ∀ k, i < k → fL (miS p) none k ≠ none
  | 0, h => absurd h (Nat.not_lt_zero i)
  | k + 1, h => by
    rw [fL_s]
    by_cases e : i = k
    · unfold miS
      rw [← e, if_pos z]
      generalize fL (fun i o => if p i = true then miM i o else o) none i = o
      cases o with
      | none => exact Option.some_ne_none _
      | some c =>
        show (if pcN i < pcN c then some i else some c) ≠ none
        split <;> exact Option.some_ne_none _
    · have ih := miS_some z k (by omega)
      generalize fL (miS p) none k = o at ih ⊢
      cases o with
      | none => exact absurd rfl ih
      | some c => exact miS_n k c
/-- and the greatest, where it weighs -/
theorem bvS_max {p : Nat → Bool} {V C : Nat → Nat} : ∀ k b, fL (bvS p V C) none k = some b → p b = true ∧ ∀ i, i < k → p i = true → V i ≤ V b
  | 0, b, h => nomatch h
  | k + 1, b, h => by
    rw [fL_s] at h
    unfold bvS at h
    have ih := fun b' (e : fL (bvS p V C) none k = some b') => bvS_max k b' e
    by_cases z : p k = true
    · rw [if_pos z] at h
      generalize hg : fL (fun i o => if p i = true then bvM V C i o else o) none k = o at h
      have hg' : fL (bvS p V C) none k = o := hg
      rw [hg'] at ih
      cases o with
      | none =>
        cases h
        refine ⟨z, fun i hi hp => ?_⟩
        by_cases e : i = k
        · rw [e]
          exact Nat.le_refl _
        · exfalso
          have : ∀ k, i < k → fL (bvS p V C) none k ≠ none := by
            intro k
            induction k with
            | zero => intro h; exact absurd h (Nat.not_lt_zero i)
            | succ k ih2 =>
              intro h
              rw [fL_s]
              by_cases e : i = k
              · unfold bvS
                rw [← e, if_pos hp]
                generalize fL (fun i o => if p i = true then bvM V C i o else o) none i = o
                cases o with
                | none => exact Option.some_ne_none _
                | some c =>
                  show (if V c < V i then some i else if V i = V c then if C i < C c then some i else some c else some c) ≠ none
                  split
                  · exact Option.some_ne_none _
                  · split
                    · split <;> exact Option.some_ne_none _
                    · exact Option.some_ne_none _
              · have ih3 := ih2 (by omega)
                generalize fL (bvS p V C) none k = o at ih3 ⊢
                cases o with
                | none => exact absurd rfl ih3
                | some c => exact bvS_n k c
          exact this k (by omega) hg'
      | some c =>
        obtain ⟨h1, h2⟩ := ih c rfl
        have h' : (if V c < V k then some k else if V k = V c then if C k < C c then some k else some c else some c) = some b := h
        have key : b = k ∧ V c ≤ V k ∨ b = c ∧ V k ≤ V c := by
          split at h'
          · cases h'
            exact Or.inl ⟨rfl, by omega⟩
          · split at h'
            · split at h'
              · cases h'
                exact Or.inl ⟨rfl, by omega⟩
              · cases h'
                exact Or.inr ⟨rfl, by omega⟩
            · cases h'
              exact Or.inr ⟨rfl, by omega⟩
        rcases key with ⟨rfl, hle⟩ | ⟨rfl, hle⟩
        · refine ⟨z, fun i hi hp => ?_⟩
          by_cases e : i = b
          · rw [e]
            exact Nat.le_refl _
          · have := h2 i (by omega) hp
            omega
        · refine ⟨h1, fun i hi hp => ?_⟩
          by_cases e : i = k
          · rw [e]
            exact hle
          · exact h2 i (by omega) hp
    · rw [if_neg z] at h
      obtain ⟨h1, h2⟩ := ih b h
      refine ⟨h1, fun i hi hp => ?_⟩
      by_cases e : i = k
      · rw [e] at hp
        exact absurd hp z
      · exact h2 i (by omega) hp
/-- what costs most: the pick of press is such a pick -/
theorem prS_bv {τ : CT} {x : Int32} {n : Nat} : ∀ k, fL (prS τ x n) none k = fL (bvS (prP τ x n) (fun i => sLoss τ (n ||| i)) pcN) none k
  | 0 => rfl
  | k + 1 => by
    rw [fL_s, fL_s, prS_bv k]
    unfold prS bvS
    split
    · generalize fL (fun i o => if prP τ x n i = true then bvM (fun i => sLoss τ (n ||| i)) pcN i o else o) none k = o
      cases o <;> rfl
    · rfl
theorem spr_sup {τ : CT} {n i : Nat} (h : n.testBit i = true) : ∀ k, (sSprL τ n k).testBit i = true
  | 0 => h
  | k + 1 => by
    show (sSprL τ n k ||| sFol τ (sSprL τ n k)).testBit i = true
    rw [Nat.testBit_or, spr_sup h k]
    rfl
/-- who is weakest -/
theorem wk_min {τ : CT} {A : Nat → Int32} {m v : Nat} (hb : (aN A).testBit m = true) (hr : reO τ A m = some v) : ∀ k, (∀ q, fL (wkS τ A) none k = some q → q.1 < k ∧ (aN A).testBit q.1 = true ∧ reO τ A q.1 = some q.2) ∧ (m < k → ∃ q, fL (wkS τ A) none k = some q ∧ q.2 ≤ v)
  | 0 => ⟨fun q h => (nomatch h), fun h => absurd h (Nat.not_lt_zero m)⟩
  | k + 1 => by
    obtain ⟨i1, i2⟩ := wk_min hb hr k
    rw [fL_s]
    generalize fL (wkS τ A) none k = o at i1 i2 ⊢
    unfold wkS
    by_cases z : (aN A).testBit k = true
    · rw [if_pos z]
      cases e : reO τ A k with
      | none =>
        refine ⟨fun q h => ?_, fun h => ?_⟩
        · obtain ⟨a, b, c⟩ := i1 q h
          exact ⟨by omega, b, c⟩
        · refine i2 ?_
          apply Classical.byContradiction
          intro w
          have : m = k := by omega
          rw [this, e] at hr
          cases hr
      | some u =>
        cases o with
        | none =>
          refine ⟨fun q h => ?_, fun h => ?_⟩
          · have h' : some (k, u) = some q := h
            cases h'
            exact ⟨Nat.lt_succ_self k, z, e⟩
          · refine ⟨(k, u), rfl, ?_⟩
            by_cases w : m = k
            · rw [w, e] at hr
              cases hr
              exact Nat.le_refl _
            · obtain ⟨q, hq, _⟩ := i2 (by omega)
              cases hq
        | some q0 =>
          have es : wkM k u (some q0) = if u < q0.2 then some (k, u) else some q0 := rfl
          refine ⟨fun q h => ?_, fun h => ?_⟩
          · have h' : (if u < q0.2 then some (k, u) else some q0) = some q := h
            split at h'
            · cases h'
              exact ⟨Nat.lt_succ_self k, z, e⟩
            · cases h'
              obtain ⟨a, b, c⟩ := i1 _ rfl
              exact ⟨by omega, b, c⟩
          · show ∃ q, (if u < q0.2 then some (k, u) else some q0) = some q ∧ q.2 ≤ v
            by_cases y : u < q0.2
            · rw [if_pos y]
              refine ⟨_, rfl, ?_⟩
              by_cases w : m = k
              · rw [w, e] at hr
                cases hr
                exact Nat.le_refl _
              · obtain ⟨q, hq, hle⟩ := i2 (by omega)
                cases hq
                show u ≤ v
                omega
            · rw [if_neg y]
              refine ⟨_, rfl, ?_⟩
              by_cases w : m = k
              · rw [w, e] at hr
                cases hr
                omega
              · obtain ⟨q, hq, hle⟩ := i2 (by omega)
                cases hq
                exact hle
    · rw [if_neg z]
      refine ⟨fun q h => ?_, fun h => ?_⟩
      · obtain ⟨a, b, c⟩ := i1 q h
        exact ⟨by omega, b, c⟩
      · refine i2 ?_
        apply Classical.byContradiction
        intro w
        have : m = k := by omega
        rw [this] at hb
        exact z hb
