/-! BOXES -/
theorem CQ_eq5 {h g : HT} {T N N' : Nat} {τ : CT} {A A' : Nat → Int32} (r : ∀ c k, m_gR g c k = m_gR h c k) (e : ∀ c k, 5 ≤ c → c < 38 → isP c k = false → m_gI g c k = m_gI h c k) (H : CQ h T τ N A) (R : Rep τ (gS g 38) A') (K : aOk τ N' A') : CQ g T τ N' A' := by
  have hT := ct_T (cq_t H)
  refine ⟨⟨hT, Ptr_of (cq_p H) r, cq_k H, CCity_of (fun j k h1 h2 h3 => e _ _ ?_ ?_ ?_) (cq_t H).2.2.2⟩, cq_f H, (r 1 2).trans (cq_T H), R, K⟩
  · rcases hT with t | t <;> omega
  · rcases hT with t | t <;> omega
  · unfold isP
    simp only [Bool.or_eq_false_iff, decide_eq_false_iff_not]
    rcases hT with t | t <;> omega
theorem p_box {h : HT} (hp : Ptr h) {j : Nat} (hj : j < 3) : m_gR h 169 j = 186 + 3 * j := by
  have : ∀ j, j < 3 → (169, j, 186 + 3 * j) ∈ PT := by decide +kernel
  exact hp _ (this j hj)
theorem vn1 : vp_nar .boolean 1 = 1 := by decide
theorem vn0 : vp_nar .boolean 0 = 0 := by decide
theorem ix3 {x : Int32} : (ixB x 3 = true ∨ ixB x 3 = false) := by
  cases ixB x 3
  · exact Or.inr rfl
  · exact Or.inl rfl
theorem c3_f {x : Int32} (ix : ixB x 3 = false) (h0 : ¬ x < 0) : ¬ x < 3 := fun x1 => by
  have h1 : ¬ x.toInt < 0 := fun z => h0 (Int32.lt_iff_toInt_lt.mpr z)
  have h2 := Int32.lt_iff_toInt_lt.mp x1
  have h3 : x.toInt < 3 := h2
  have : ixB x 3 = true := decide_eq_true ⟨by omega, by omega⟩
  rw [this] at ix
  cases ix
