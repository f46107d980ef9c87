/-! THE LAW'S build answers 1 -/
section BUILT2
variable {X : XT} {d : Nat} {h : HT} {t : Nat → Int32}
theorem ra_TR {τ : CT} (R : RA X τ) (Z : RZ X t) (e : m_gI h 195 = t) : TR h τ (nB X) := by
  obtain ⟨⟨a0, a1, a2, a3, a4, a5, a6⟩, ac, am, ad, _⟩ := R
  obtain ⟨⟨z0, z1, z2, z3, z4, z5, z6, z7⟩, zc, zm, zd⟩ := Z
  unfold TR
  rw [e, a0, a1, a2, a3, a4, a5, a6]
  refine ⟨⟨z0, z1, z2, z3, z4, z5, z6, z7⟩, fun c hc => ?_, fun m hm => ?_, fun q hq => ?_⟩
  · obtain ⟨x1, x2⟩ := ac c hc
    rw [x1, x2]
    exact zc c hc
  · obtain ⟨x1, x2, x3, x4⟩ := am m hm
    obtain ⟨y1, y2, y3, y4⟩ := zm m hm
    rw [x1, x2, x3, x4]
    exact ⟨y1, y2, y3, y4⟩
  · obtain ⟨x1, x2⟩ := ad q hq
    rw [x1, x2]
    exact zd q hq
theorem ra_LB {τ : CT} (R : RA X τ) (K : cOk τ) : LB τ (nB X) := by
  refine ⟨K, ?_, ?_, ?_, nB_3, fun n _ l y m _ _ => rb_go R.2.2.2.2 nB_3⟩
  · rw [R.1.1]
    exact nC_3
  · rw [R.1.2.1]
    exact nM_5
  · rw [R.1.2.2.1]
    exact nD_3
end BUILT2
