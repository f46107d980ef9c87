/-! CITY: a good text is the city then -/
theorem a_city {X : XT} {d : Nat} {h : HT} {τ : CT} {A : Nat → Int32} {bh ah : Nat} {W : Nat → Nat → Int32} {F : Nat → Bool} {B : Nat → Nat → Int32} {n t : Nat} {S : Nat → Nat → Int32} {L : Nat} {V : Nat → Nat} {xx yy : Int32} {s : Nat} {τ' : CT} (C : CI h (τ, A, bh, ah, W, F, B, n, t, S, L, V, xx, yy)) (O : OKs (τ, A, bh, ah, W, F, B, n, t, S, L, V, xx, yy)) (q : rdA V L = .inr (s, τ')) : lOk τ' ∧ Ac X (d + 111) 14 [some (.ref 1), none, none] h (nI (τ' 0 1)) (τ', aNew τ' (fun _ => 0), 0, 0, W, fun _ => false, B, 0, t, S, 0, V, 0, -1) := by
  obtain ⟨⟨T, H, H1'⟩, ⟨o, HA⟩, H3, H4, H5, H6⟩ := C
  obtain ⟨O1, O2, O3, O4, O5, O6, O7, O8⟩ := O
  have iT := ct_T (cq_t H)
  have hT : T = 5 ∨ T = 23 := iT
  have iC : isT (28 - T) := by
    rcases hT with z | z
    · exact Or.inr (by omega)
    · exact Or.inl (by omega)
  have tp : Tp h L V := ⟨cq_p H, H5, O7, O8⟩
  have L1 : lOk τ' := rdA_ok O8 q
  obtain ⟨g, a1, a2, a3, a4, a5, a6, a7, a8, a9, a10, a11, ⟨h1, a12, a13⟩, a14⟩ := c_cityG (X := X) (d := d) tp H1' iC (cq_T H) iT q
  have hi : Hi h g := ⟨a1, fun c k x => a4 c k (by unfold exC; omega) (by omega) (by omega) (by omega) (by omega) (by omega)⟩
  have ak := aNew_ok (f := fun _ => 0) L1
  have CQ' : CQ g (28 - T) τ' 999 (aNew τ' (fun _ => 0)) := by
    refine ⟨⟨iC, Ptr_rf a1 (cq_p H), L1.1, a8⟩, L1.2.2.2.2.2.1, a2, ?_, ak⟩
    rw [a12]
    exact rNew_ok L1 a13
  have C1 : CI g (τ', aNew τ' (fun _ => 0), 0, 0, W, fun _ => false, B, 0, t, S, 0, V, 0, -1) := by
    refine ⟨⟨28 - T, CQ', a3.trans (by omega)⟩, ⟨o, HA.1, ⟨?_, a9.1, a9.2⟩, fun j hj => absurd hj (Nat.not_lt_zero _), fun j _ hj => absurd hj (Nat.not_lt_zero _), fun z => absurd z (Nat.lt_irrefl _)⟩, fun j hj => ⟨a11 j hj, fun z => (nomatch z)⟩, ⟨a10, ?_, fun i hi => absurd hi (Nat.not_lt_zero _)⟩, ⟨a5, fun i hi => absurd hi (Nat.not_lt_zero _)⟩, a6, a7⟩
    · exact (a4 44 1 (by unfold exC; omega) (by omega) (by omega) (by omega) (by omega) (by omega)).trans HA.2.1.1
    · exact (a4 179 6 (by unfold exC; omega) (by omega) (by omega) (by omega) (by omega) (by omega)).trans H4.2.1
  exact ⟨L1, ⟨by omega, fun j hj => absurd hj (Nat.not_lt_zero _), fun _ _ z => (nomatch z), Nat.zero_le _, O5, fun i hi => absurd hi (Nat.not_lt_zero _), Nat.zero_le _, fun i hi => absurd hi (Nat.not_lt_zero _)⟩, g, hi, C1, a14⟩
