/-! RANKS AND LEVELS -/
def rkL (l : Nat) : Nat := if l = 0 then 1 else if l = 1 then 2 else if l = 2 then 4 else if l = 3 then 5 else 6
theorem tx21 : ∀ v, v < 256 → (nI v ∈ m_tx 21 ↔ (v = 60 ∨ v = 62 ∨ v = 61)) := by decide +kernel
theorem tx22 : ∀ v, v < 256 → (nI v ∈ m_tx 22 ↔ (v = 43 ∨ v = 45)) := by decide +kernel
theorem tx23 : ∀ v, v < 256 → (nI v ∈ m_tx 23 ↔ (v = 42 ∨ v = 47 ∨ v = 37)) := by decide +kernel
theorem isW_f {V : Nat → Nat} {L s i : Nat} (h : tK V L s ≠ 1) : isW V L s i = false := decide_eq_false (fun q => h q.1)
theorem isG_f {V : Nat → Nat} {L s c : Nat} (h : tK V L s ≠ 3) : isG V L s c = false := decide_eq_false (fun q => h q.1)
theorem isG_3 {V : Nat → Nat} {L s c : Nat} (h : tK V L s = 3) : isG V L s c = decide (V s = c) := by
  unfold isG
  by_cases y : V s = c
  · rw [decide_eq_true (show tK V L s = 3 ∧ V s = c from ⟨h, y⟩), decide_eq_true y]
  · rw [decide_eq_false (show ¬ (tK V L s = 3 ∧ V s = c) from fun q => y q.2), decide_eq_false y]
theorem isW_two {V : Nat → Nat} {L s : Nat} (h : isW V L s 20 = true) : isW V L s 19 = false := by
  have a := of_decide_eq_true h
  refine decide_eq_false (fun q => ?_)
  have e : txW 20 = txW 19 := a.2.symm.trans q.2
  exact absurd e (by decide +kernel)
/-- what joins, by its rank: the level and the code -/
theorem rk_op {V : Nat → Nat} {L s : Nat} (hv : ∀ i, i < L → V i < 256) : ∀ l, l < 5 → (opC V L s l ≠ 0 ↔ rkC V L s = rkL l) ∧ (opC V L s l ≠ 0 → sgC V L s (rkL l) = opC V L s l) := by
  intro l hl
  have hl' : l = 0 ∨ l = 1 ∨ l = 2 ∨ l = 3 ∨ l = 4 := by omega
  by_cases t3 : tK V L s = 3
  · have hsl : s < L := tK_0 (V := V) (L := L) (s := s) (by omega)
    have hv' := hv s hsl
    have es : sA V L s = V s := if_pos hsl
    have w0 : ∀ i, isW V L s i = false := fun i => isW_f (by omega)
    have er : rkC V L s = if V s = 60 then 4 else if V s = 62 then 4 else if V s = 61 then 4 else if V s = 43 then 5 else if V s = 45 then 5 else if V s = 42 then 6 else if V s = 47 then 6 else if V s = 37 then 6 else 0 := by
      unfold rkC
      simp only [w0, isG_3 t3, decide_eq_true_eq, Bool.false_eq_true, if_false]
    have e21 := tx21 (V s) hv'
    have e22 := tx22 (V s) hv'
    have e23 := tx23 (V s) hv'
    have o0 : opC V L s 0 = 0 := by
      show (if isW V L s 19 = true then 124 else 0) = 0
      rw [w0]
      rfl
    have o1 : opC V L s 1 = 0 := by
      show (if isW V L s 20 = true then 38 else 0) = 0
      rw [w0]
      rfl
    have oS : ∀ i, opS V L s i = if nI (V s) ∈ m_tx i then V s else 0 := fun i => by
      unfold opS
      by_cases y : nI (V s) ∈ m_tx i
      · rw [if_pos ⟨t3, y⟩, if_pos y]
      · rw [if_neg (fun q => y q.2), if_neg y]
    have o2 : opC V L s 2 = if nI (V s) ∈ m_tx 21 then V s else 0 := oS 21
    have o3 : opC V L s 3 = if nI (V s) ∈ m_tx 22 then V s else 0 := oS 22
    have o4 : opC V L s 4 = if nI (V s) ∈ m_tx 23 then V s else 0 := oS 23
    have r12 : rkC V L s ≠ 1 ∧ rkC V L s ≠ 2 := by
      rw [er]
      constructor
      · repeat' split
        all_goals decide
      · repeat' split
        all_goals decide
    rcases hl' with rfl | rfl | rfl | rfl | rfl
    · exact ⟨⟨fun q => absurd o0 q, fun q => absurd q r12.1⟩, fun q => absurd o0 q⟩
    · exact ⟨⟨fun q => absurd o1 q, fun q => absurd q r12.2⟩, fun q => absurd o1 q⟩
    · rw [o2, er]
      by_cases y : nI (V s) ∈ m_tx 21
      · rw [if_pos y]
        have y' := e21.mp y
        refine ⟨⟨fun _ => ?_, fun _ => by omega⟩, fun _ => es⟩
        show _ = 4
        rcases y' with q | q | q <;> rw [q] <;> rfl
      · rw [if_neg y]
        refine ⟨⟨fun q => absurd rfl q, fun q => absurd (e21.mpr ?_) y⟩, fun q => absurd rfl q⟩
        have q : _ = 4 := q
        by_cases a : V s = 60
        · exact Or.inl a
        · rw [if_neg a] at q
          by_cases b : V s = 62
          · exact Or.inr (Or.inl b)
          · rw [if_neg b] at q
            by_cases c : V s = 61
            · exact Or.inr (Or.inr c)
            · rw [if_neg c] at q
              repeat' split at q
              all_goals cases q
    · rw [o3, er]
      by_cases y : nI (V s) ∈ m_tx 22
      · rw [if_pos y]
        have y' := e22.mp y
        refine ⟨⟨fun _ => ?_, fun _ => by omega⟩, fun _ => es⟩
        show _ = 5
        rcases y' with q | q <;> rw [q] <;> rfl
      · rw [if_neg y]
        refine ⟨⟨fun q => absurd rfl q, fun q => absurd (e22.mpr ?_) y⟩, fun q => absurd rfl q⟩
        have q : _ = 5 := q
        by_cases a : V s = 43
        · exact Or.inl a
        · by_cases b : V s = 45
          · exact Or.inr b
          · rw [if_neg a, if_neg b] at q
            repeat' split at q
            all_goals cases q
    · rw [o4, er]
      by_cases y : nI (V s) ∈ m_tx 23
      · rw [if_pos y]
        have y' := e23.mp y
        refine ⟨⟨fun _ => ?_, fun _ => by omega⟩, fun _ => es⟩
        show _ = 6
        rcases y' with q | q | q <;> rw [q] <;> rfl
      · rw [if_neg y]
        refine ⟨⟨fun q => absurd rfl q, fun q => absurd (e23.mpr ?_) y⟩, fun q => absurd rfl q⟩
        have q : _ = 6 := q
        by_cases a : V s = 42
        · exact Or.inl a
        · by_cases b : V s = 47
          · exact Or.inr (Or.inl b)
          · by_cases c : V s = 37
            · exact Or.inr (Or.inr c)
            · rw [if_neg a, if_neg b, if_neg c] at q
              repeat' split at q
              all_goals cases q
  · have g0 : ∀ c, isG V L s c = false := fun c => isG_f t3
    have er : rkC V L s = if isW V L s 20 = true then 2 else if isW V L s 19 = true then 1 else 0 := by
      unfold rkC
      simp only [g0, Bool.false_eq_true, if_false]
    have oS : ∀ i, opS V L s i = 0 := fun i => if_neg (fun q => t3 q.1)
    have o2 : opC V L s 2 = 0 := oS 21
    have o3 : opC V L s 3 = 0 := oS 22
    have o4 : opC V L s 4 = 0 := oS 23
    have r3 : rkC V L s ≤ 2 := by
      rw [er]
      repeat' split
      all_goals omega
    rcases hl' with rfl | rfl | rfl | rfl | rfl
    · have o0 : opC V L s 0 = if isW V L s 19 = true then 124 else 0 := rfl
      rw [o0, er]
      by_cases a : isW V L s 20 = true
      · rw [isW_two a, if_pos a]
        exact ⟨⟨fun q => absurd rfl q, fun q => by cases q⟩, fun q => absurd rfl q⟩
      · rw [if_neg a]
        by_cases b : isW V L s 19 = true
        · rw [if_pos b, if_pos b]
          exact ⟨⟨fun _ => rfl, fun _ => by decide⟩, fun _ => rfl⟩
        · rw [if_neg b, if_neg b]
          exact ⟨⟨fun q => absurd rfl q, fun q => by cases q⟩, fun q => absurd rfl q⟩
    · have o1 : opC V L s 1 = if isW V L s 20 = true then 38 else 0 := rfl
      rw [o1, er]
      by_cases a : isW V L s 20 = true
      · rw [if_pos a, if_pos a]
        exact ⟨⟨fun _ => rfl, fun _ => by decide⟩, fun _ => rfl⟩
      · rw [if_neg a, if_neg a]
        refine ⟨⟨fun q => absurd rfl q, fun q => ?_⟩, fun q => absurd rfl q⟩
        split at q <;> cases q
    · exact ⟨⟨fun q => absurd o2 q, fun q => by have q : rkC V L s = 4 := q; omega⟩, fun q => absurd o2 q⟩
    · exact ⟨⟨fun q => absurd o3 q, fun q => by have q : rkC V L s = 5 := q; omega⟩, fun q => absurd o3 q⟩
    · exact ⟨⟨fun q => absurd o4 q, fun q => by have q : rkC V L s = 6 := q; omega⟩, fun q => absurd o4 q⟩
