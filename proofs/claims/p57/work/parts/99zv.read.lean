/-! WHAT THE LAW WROTE, READ AGAIN: all of it -/
def fgC (X : XT) : Nat → Nat := crN (drC X 0)
def ggC (X : XT) : Nat → Nat := crV (drC X 0)
/-- the text, as it was written; and from its beginning on -/
def RT (X : XT) : List Nat := cA (fgC X) (ggC X) (nC X) ++ bAm X (nC X) (nM X) ++ dA (dmN X) (dmV X) (nD X) ++ bkL (nB X) [] ++ foL' X [] ++ drL' X []
def RF' (X : XT) : List Nat := cF (fgC X) (ggC X) 0 (nC X) (mF X (nC X) 0 (nM X) (dF (dmN X) (dmV X) 0 (nD X) (bkL (nB X) (foL' X (drL' X [])))))
theorem RT_e {X : XT} : RT X = RF' X := by
  have e1 : ∀ U, cF (fgC X) (ggC X) 0 (nC X) U = cA (fgC X) (ggC X) (nC X) ++ U := fun U => by
    have := cF_e (U := U) (f := fgC X) (g := ggC X) (nC X) 0
    rw [Nat.zero_add] at this
    exact this
  have e2 : ∀ U, mF X (nC X) 0 (nM X) U = bAm X (nC X) (nM X) ++ U := fun U => by
    have := mF_e (U := U) (X := X) (n := nC X) (nM X) 0
    rw [Nat.zero_add] at this
    exact this
  have e3 : ∀ U, dF (dmN X) (dmV X) 0 (nD X) U = dA (dmN X) (dmV X) (nD X) ++ U := fun U => by
    have := dF_e (U := U) (f := dmN X) (g := dmV X) (nD X) 0
    rw [Nat.zero_add] at this
    exact this
  have e4 : ∀ U, bkL (nB X) U = bkL (nB X) [] ++ U := fun U => by
    unfold bkL
    split
    · rfl
    · rw [List.append_nil]
  have e5 : ∀ U, foL' X U = foL' X [] ++ U := fun U => by
    unfold foL'
    split
    · unfold fLn
      simp only [List.append_assoc, List.append_nil]
    · rfl
  unfold RT RF'
  rw [e1, e2, e3, e4 (foL' X (drL' X [])), e5 (drL' X [])]
  simp only [List.append_assoc]
def RA (X : XT) (τ : CT) : Prop := (τ 0 0 = nC X ∧ τ 0 1 = nM X ∧ τ 0 2 = nD X ∧ τ 0 3 = (if isF X = true then nF X else 0) ∧ τ 0 4 = (if isF X = true then nR X else 0) ∧ τ 0 5 = (if isD X = true then nW X else 0) ∧ τ 0 6 = ouN X (nM X)) ∧ (∀ c, c < nC X → τ 1 c = fgC X c ∧ τ 2 c = ggC X c) ∧ (∀ c, c < nM X → τ 3 c = skS (mW X c) (nC X) (nC X) ∧ τ 4 c = mLv (mW X c) ∧ τ 5 c = mDe (mW X c) ∧ τ 6 c = (if mHo (mW X c) = true then mOt (mW X c) else 0)) ∧ (∀ c, c < nD X → τ 7 c = dmN X c ∧ τ 8 c = dmV X c) ∧ RB τ (nB X)
theorem read_all {X : XT} {V : Nat → Nat} {L : Nat} (H : St V L 0 (RT X)) : ∃ s τ, rdA V L = .inr (s, τ) ∧ RA X τ := by
  have h3 := nC_3 (X := X)
  have h5 := nM_5 (X := X)
  have hd := nD_3 (X := X)
  have hb := nB_3 (X := X)
  have n0 : nb ([] : List Nat) := Or.inl rfl
  have n1 := nb_dr (X := X) n0
  have n2 := nb_fo (X := X) n1
  have n3 := nb_bk (b := nB X) hb n2
  have n4 := nb_dF (f := dmN X) (g := dmV X) (k := 0) (r := nD X) n3
  have n5 := nb_mF (X := X) (m := nC X) (k := 0) (r := nM X) n4
  have n6 := nb_cF (f := fgC X) (g := ggC X) (k := 0) (r := nC X) n5
  rw [RT_e] at H
  have hs : tS V L 0 = 0 := ts_nb H n6
  unfold rdA
  rw [hs]
  obtain ⟨s1, τ1, e1, P1, H1⟩ := pp_crafts (f := fgC X) (g := ggC X) (fun k => Nat.le_trans (mk_e 3 _ (by decide)).2 (by decide)) (fun k => Nat.le_trans (mk_e 31 _ (by decide)).2 (by decide)) n5 (nC X) 0 0 (fun _ _ => 0) (1600 - nC X) (by omega) ⟨rfl, fun _ _ => rfl, fun c hc => absurd hc (Nat.not_lt_zero c)⟩ H
  rw [Nat.sub_add_cancel (by omega)] at e1
  rw [Nat.zero_add] at P1
  obtain ⟨p0, pz, pc⟩ := P1
  have M0 : PM X τ1 (fgC X) (ggC X) (nC X) 0 := ⟨⟨p0, pz 1 (by decide), pz 6 (by decide), fun j h1 _ _ => pz j h1⟩, pc, fun c hc => absurd hc (Nat.not_lt_zero c)⟩
  have S2 : ∃ s2 τ2, rdL V L (1600 - nC X) (.inr (s1, τ1)) = rdL V L (1600 - nC X - nM X) (.inr (s2, τ2)) ∧ PM X τ2 (fgC X) (ggC X) (nC X) (nM X) ∧ St V L s2 (dF (dmN X) (dmV X) 0 (nD X) (bkL (nB X) (foL' X (drL' X [])))) := by
    by_cases z : nC X = 0
    · have z2 : nM X = 0 := if_pos z
      rw [z2] at H1 ⊢
      exact ⟨s1, τ1, rfl, M0, H1⟩
    · obtain ⟨s2, τ2, e2, P2, H2⟩ := pp_men (X := X) (f := fgC X) (g := ggC X) h3 (Nat.pos_of_ne_zero z) n4 (nM X) 0 s1 τ1 (1600 - nC X - nM X) (by omega) M0 H1
      rw [Nat.sub_add_cancel (by omega)] at e2
      rw [Nat.zero_add] at P2
      exact ⟨s2, τ2, e2, P2, H2⟩
  obtain ⟨s2, τ2, e2, P2, H2⟩ := S2
  obtain ⟨⟨q0, q1, q6, qz⟩, qc, qm⟩ := P2
  have D0 : PD X τ2 (fgC X) (ggC X) (dmN X) (dmV X) (nC X) (nM X) 0 := ⟨⟨q0, q1, qz 2 (by decide) (by decide) (by decide), q6, fun j h1 h2 _ h4 => qz j h1 h2 h4⟩, fun c hc => ⟨(qc c hc).1, (qc c hc).2.1⟩, fun c hc => ⟨(qm c hc).1, (qm c hc).2.1, (qm c hc).2.2.1, (qm c hc).2.2.2.1⟩, fun c hc => absurd hc (Nat.not_lt_zero c)⟩
  obtain ⟨s3, τ3, e3, P3, H3⟩ := pp_dems (X := X) (f := fgC X) (g := ggC X) (p := dmN X) (q := dmV X) (n := nC X) (m := nM X) (fun k => Nat.le_trans (mk_e 127 _ (by decide)).2 (by decide)) (fun k => Nat.le_trans (mk_e 15 _ (by decide)).2 (by decide)) n3 (nD X) 0 s2 τ2 (1600 - nC X - nM X - nD X) (by omega) D0 H2
  rw [Nat.sub_add_cancel (by omega)] at e3
  rw [Nat.zero_add] at P3
  obtain ⟨⟨r0, r1, r2, r6, rz⟩, rc, rm, rd⟩ := P3
  obtain ⟨F4, s4, τ4, hF, e4, H4, R4, u0, ur⟩ := p_back (τ := τ3) hb H3 n2 (rz 7 (by decide) (by decide) (by decide) (by decide)) (rz 9 (by decide) (by decide) (by decide) (by decide)) (1600 - nC X - nM X - nD X - 1)
  rw [Nat.sub_add_cancel (by omega)] at e4
  have z3 : τ4 0 3 = 0 := (u0 3 (by omega)).trans (rz 3 (by decide) (by decide) (by decide) (by decide))
  have z4 : τ4 0 4 = 0 := (u0 4 (by omega)).trans (rz 4 (by decide) (by decide) (by decide) (by decide))
  have z5 : τ4 0 5 = 0 := (u0 5 (by omega)).trans (rz 5 (by decide) (by decide) (by decide) (by decide))
  have z10 : τ4 0 10 = 0 := (u0 10 (by omega)).trans (rz 10 (by decide) (by decide) (by decide) (by decide))
  have z11 : τ4 0 11 = 0 := (u0 11 (by omega)).trans (rz 11 (by decide) (by decide) (by decide) (by decide))
  have c1 : ∀ c, c < nC X → τ4 1 c = fgC X c ∧ τ4 2 c = ggC X c := fun c hc => ⟨(ur 1 (by decide) (by decide) c).trans (rc c hc).1, (ur 2 (by decide) (by decide) c).trans (rc c hc).2⟩
  have c2 : ∀ c, c < nM X → τ4 3 c = skS (mW X c) (nC X) (nC X) ∧ τ4 4 c = mLv (mW X c) ∧ τ4 5 c = mDe (mW X c) ∧ τ4 6 c = (if mHo (mW X c) = true then mOt (mW X c) else 0) := fun c hc => ⟨(ur 3 (by decide) (by decide) c).trans (rm c hc).1, (ur 4 (by decide) (by decide) c).trans (rm c hc).2.1, (ur 5 (by decide) (by decide) c).trans (rm c hc).2.2.1, (ur 6 (by decide) (by decide) c).trans (rm c hc).2.2.2⟩
  have c3 : ∀ c, c < nD X → τ4 7 c = dmN X c ∧ τ4 8 c = dmV X c := fun c hc => ⟨(ur 7 (by decide) (by decide) c).trans (rd c hc).1, (ur 8 (by decide) (by decide) c).trans (rd c hc).2.1⟩
  have S5 : ∃ F5 s5 τ5, 100 ≤ F5 ∧ rdL V L F4 (.inr (s4, τ4)) = rdL V L F5 (.inr (s5, τ5)) ∧ St V L s5 (drL' X []) ∧ τ5 0 3 = (if isF X = true then nF X else 0) ∧ τ5 0 4 = (if isF X = true then nR X else 0) ∧ (∀ j, j ≠ 3 → j ≠ 4 → j ≠ 10 → τ5 0 j = τ4 0 j) ∧ ∀ r, r ≠ 0 → ∀ j, τ5 r j = τ4 r j := by
    cases z : isF X with
    | false =>
      refine ⟨F4, s4, τ4, by omega, rfl, ?_, z3, z4, fun _ _ _ _ => rfl, fun _ _ _ => rfl⟩
      have : foL' X (drL' X []) = drL' X [] := if_neg (by rw [z]; decide)
      rw [this] at H4
      exact H4
    | true =>
      have ef : foL' X (drL' X []) = fLn (nF X) (nR X) (drL' X []) := if_pos z
      rw [ef] at H4
      obtain ⟨k, s5, e5, H5⟩ := p_foes (τ := τ4) H4 n1 nF_100 (Nat.le_trans nR_63 (by decide)) z10
      obtain ⟨F5, rfl⟩ : ∃ F5, F4 = F5 + 1 := ⟨F4 - 1, by omega⟩
      refine ⟨F5, s5, _, by omega, rd_1 k e5, H5, rfl, rfl, fun j h1 h2 h3' => ?_, fun r hr j => if_neg hr⟩
      show (if j = 3 then nF X else if j = 4 then nR X else if j = 10 then 1 else τ4 0 j) = τ4 0 j
      rw [if_neg h1, if_neg h2, if_neg h3']
  obtain ⟨F5, s5, τ5, hF5, e5, H5, w3, w4, w0, wr⟩ := S5
  have S6 : ∃ F6 s6 τ6, 10 ≤ F6 ∧ rdL V L F5 (.inr (s5, τ5)) = rdL V L F6 (.inr (s6, τ6)) ∧ St V L s6 [] ∧ τ6 0 5 = (if isD X = true then nW X else 0) ∧ (∀ j, j ≠ 5 → j ≠ 11 → τ6 0 j = τ5 0 j) ∧ ∀ r, r ≠ 0 → ∀ j, τ6 r j = τ5 r j := by
    cases z : isD X with
    | false =>
      refine ⟨F5, s5, τ5, by omega, rfl, ?_, (w0 5 (by decide) (by decide) (by decide)).trans z5, fun _ _ _ => rfl, fun _ _ _ => rfl⟩
      have : drL' X [] = [] := if_neg (by rw [z]; decide)
      rw [this] at H5
      exact H5
    | true =>
      have ef : drL' X [] = wLn (nW X) [] := if_pos z
      rw [ef] at H5
      obtain ⟨k, s6, e6, H6⟩ := p_draw (τ := τ5) H5 n0 (Nat.le_trans nW_511 (by decide)) ((w0 11 (by decide) (by decide) (by decide)).trans z11)
      obtain ⟨F6, rfl⟩ : ∃ F6, F5 = F6 + 1 := ⟨F5 - 1, by omega⟩
      refine ⟨F6, s6, _, by omega, rd_1 k e6, H6, rfl, fun j h1 h2 => ?_, fun r hr j => if_neg hr⟩
      show (if j = 5 then nW X else if j = 11 then 1 else τ5 0 j) = τ5 0 j
      rw [if_neg h1, if_neg h2]
  obtain ⟨F6, s6, τ6, hF6, e6, H6, x5, x0, xr⟩ := S6
  have e7 : rdL V L F6 (.inr (s6, τ6)) = .inr (s6, τ6) := by
    obtain ⟨F7, rfl⟩ : ∃ F7, F6 = F7 + 1 := ⟨F6 - 1, by omega⟩
    show (if tK V L s6 = 0 then .inr (s6, τ6) else rdL V L F7 (exL V L 59 (liX V L s6 τ6))) = _
    rw [if_pos (t_end H6)]
  have y0 : ∀ j, j ≠ 3 → j ≠ 4 → j ≠ 5 → j ≠ 10 → j ≠ 11 → τ6 0 j = τ4 0 j := fun j h1 h2 h3' h4 h5' => (x0 j h3' h5').trans (w0 j h1 h2 h4)
  have yr : ∀ r, r ≠ 0 → ∀ j, τ6 r j = τ4 r j := fun r hr j => (xr r hr j).trans (wr r hr j)
  refine ⟨s6, τ6, e1.trans (e2.trans (e3.trans (e4.trans (e5.trans (e6.trans e7))))), ⟨?_, ?_, ?_, (x0 3 (by decide) (by decide)).trans w3, (x0 4 (by decide) (by decide)).trans w4, x5, ?_⟩, fun c hc => ?_, fun c hc => ?_, fun c hc => ?_, RB_cg (y0 9 (by decide) (by decide) (by decide) (by decide) (by decide)) (yr 9 (by decide)) (yr 10 (by decide)) R4⟩
  · exact (y0 0 (by decide) (by decide) (by decide) (by decide) (by decide)).trans ((u0 0 (by omega)).trans r0)
  · exact (y0 1 (by decide) (by decide) (by decide) (by decide) (by decide)).trans ((u0 1 (by omega)).trans r1)
  · exact (y0 2 (by decide) (by decide) (by decide) (by decide) (by decide)).trans ((u0 2 (by omega)).trans r2)
  · exact (y0 6 (by decide) (by decide) (by decide) (by decide) (by decide)).trans ((u0 6 (by omega)).trans r6)
  · rw [yr 1 (by decide), yr 2 (by decide)]
    exact c1 c hc
  · rw [yr 3 (by decide), yr 4 (by decide), yr 5 (by decide), yr 6 (by decide)]
    exact c2 c hc
  · rw [yr 7 (by decide), yr 8 (by decide)]
    exact c3 c hc
