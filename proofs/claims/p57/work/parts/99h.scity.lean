/-! CITY keeps both alike -/
theorem aNew_ok {τ : CT} {f : Nat → Int32} (O : lOk τ) : aOk τ 999 (aNew τ f) := by
  obtain ⟨⟨p1, p2, p3, p4, p5, p6, p7, -⟩, -⟩ := O
  have h2 := Nat.two_pow_pos (τ 0 1)
  have h7 := p2_7 p2
  have p7 : τ 0 6 ≤ 2 ^ τ 0 1 - 1 := p7
  have e14 : aNew τ f 14 = nI (τ 0 6) := rfl
  have en : aN (aNew τ f) = τ 0 6 := by
    unfold aN
    rw [e14]
    exact q_cl (by omega)
  have e15 : aNew τ f 15 = 0 := by
    show (if 15 < τ 0 1 then _ else (0 : Int32)) = 0
    exact if_neg (by omega)
  have e18 : aNew τ f 18 = 0 := by
    show (if 18 < τ 0 1 then _ else (0 : Int32)) = 0
    exact if_neg (by omega)
  refine ⟨⟨by rw [en, e14], by rw [en]; omega⟩, ⟨0, Nat.two_pow_pos _, e15⟩, ⟨τ 0 5, by omega, rfl⟩, 0, Nat.zero_le _, e18, fun m hm => ⟨0, Nat.le_refl _, ?_, fun _ => rfl⟩⟩
  show (if 7 + m = 19 then _ else if 7 + m = 14 then _ else if 7 + m < τ 0 1 then _ else if 7 + m < 20 then (0 : Int32) else f (7 + m)) = 0
  rw [if_neg (by omega), if_neg (by omega), if_neg (by omega), if_pos (by omega)]
theorem rNew_ok {τ : CT} {f : Nat → Int32} {h : HT} {C : Nat} (O : lOk τ) (H : CCity h C τ) : Rep τ (rNew h C) (aNew τ f) := by
  obtain ⟨⟨p1, p2, p3, p4, p5, p6, p7, -⟩, -⟩ := O
  refine ⟨⟨?_, ?_, ?_, ?_, ?_, ?_⟩, fun m hm => ?_, fun m hm _ => ?_⟩
  · exact H.1.2.2.2.2.2.2
  · show (0 : Int32) = if 16 < τ 0 1 then _ else (0 : Int32)
    exact (if_neg (by omega)).symm
  · show (0 : Int32) = if 17 < τ 0 1 then _ else (0 : Int32)
    exact (if_neg (by omega)).symm
  · show (0 : Int32) = if 15 < τ 0 1 then _ else (0 : Int32)
    exact (if_neg (by omega)).symm
  · show (0 : Int32) = if 18 < τ 0 1 then _ else (0 : Int32)
    exact (if_neg (by omega)).symm
  · exact H.1.2.2.2.2.2.1
  · show (if m < 7 then m_gI h (C + 5) m else _) = if m = 19 then _ else if m = 14 then _ else if m < τ 0 1 then _ else if m < 20 then (0 : Int32) else f m
    rw [if_pos (by omega), if_neg (by omega), if_neg (by omega), if_pos hm]
    exact H.2.2.2.2.2.1 m hm
  · show (if m < 7 then (0 : Int32) else _) = if 7 + m = 19 then _ else if 7 + m = 14 then _ else if 7 + m < τ 0 1 then _ else if 7 + m < 20 then (0 : Int32) else f (7 + m)
    rw [if_pos (by omega), if_neg (by omega), if_neg (by omega), if_neg (by omega), if_pos (by omega)]
