/-! THE LAW'S build: a city of its draws, and its row -/
section BUILT
variable {X : XT} {d : Nat} {h : HT} {t : Nat → Int32}
/-- the row as it is at last -/
def RZ (X : XT) (t : Nat → Int32) : Prop := (t 0 = nI (nC X) ∧ t 1 = nI (nM X) ∧ t 2 = nI (nD X) ∧ t 3 = nI (nB X) ∧ t 4 = nI (if isF X = true then nF X else 0) ∧ t 5 = nI (if isF X = true then nR X else 0) ∧ t 6 = nI (if isD X = true then nW X else 0) ∧ t 7 = nI (ouN X (nM X))) ∧ (∀ j, j < nC X → t (10 + 2 * j) = nI (fgC X j) ∧ t (11 + 2 * j) = nI (ggC X j)) ∧ (∀ j, j < nM X → t (20 + 4 * j) = nI (skS (mW X j) (nC X) (nC X)) ∧ t (21 + 4 * j) = nI (mLv (mW X j)) ∧ t (22 + 4 * j) = nI (mDe (mW X j)) ∧ t (23 + 4 * j) = nI (if mHo (mW X j) = true then mOt (mW X j) else 0)) ∧ ∀ j, j < nD X → t (50 + 2 * j) = nI (dmN X j) ∧ t (51 + 2 * j) = nI (dmV X j)
def rowF (X : XT) (t : Nat → Int32) : Nat → Int32 := (if isD X = true then up (if isF X = true then up (up (up t 3 (nI (nB X))) 4 (nI (nF X))) 5 (nI (nR X)) else up t 3 (nI (nB X))) 6 (nI (nW X)) else if isF X = true then up (up (up t 3 (nI (nB X))) 4 (nI (nF X))) 5 (nI (nR X)) else up t 3 (nI (nB X)))
theorem rz_fin (R : RD X t (drC X 0) (nC X) (nM X) (nD X) (nD X)) : RZ X (rowF X t) := by
  obtain ⟨r0, r1, r2, r7, rz, rc, rm, rd⟩ := R
  unfold rowF
  have key : ∀ k, (if isD X = true then up (if isF X = true then up (up (up t 3 (nI (nB X))) 4 (nI (nF X))) 5 (nI (nR X)) else up t 3 (nI (nB X))) 6 (nI (nW X)) else if isF X = true then up (up (up t 3 (nI (nB X))) 4 (nI (nF X))) 5 (nI (nR X)) else up t 3 (nI (nB X))) k = if k = 3 then nI (nB X) else if k = 4 then (if isF X = true then nI (nF X) else t 4) else if k = 5 then (if isF X = true then nI (nR X) else t 5) else if k = 6 then (if isD X = true then nI (nW X) else t 6) else t k := by
    intro k
    by_cases k3 : k = 3
    · subst k3
      unfold up
      cases isD X <;> cases isF X <;> simp
    · by_cases k4 : k = 4
      · subst k4
        unfold up
        cases isD X <;> cases isF X <;> simp
      · by_cases k5 : k = 5
        · subst k5
          unfold up
          cases isD X <;> cases isF X <;> simp
        · by_cases k6 : k = 6
          · subst k6
            unfold up
            cases isD X <;> cases isF X <;> simp
          · unfold up
            cases isD X <;> cases isF X <;> simp only [if_true, if_false, Bool.false_eq_true, k3, k4, k5, k6]
  have oth : ∀ k, k < 3 ∨ 7 ≤ k → (if isD X = true then up (if isF X = true then up (up (up t 3 (nI (nB X))) 4 (nI (nF X))) 5 (nI (nR X)) else up t 3 (nI (nB X))) 6 (nI (nW X)) else if isF X = true then up (up (up t 3 (nI (nB X))) 4 (nI (nF X))) 5 (nI (nR X)) else up t 3 (nI (nB X))) k = t k := fun k hk => by
    rw [key, if_neg (by omega), if_neg (by omega), if_neg (by omega), if_neg (by omega)]
  refine ⟨⟨(oth 0 (by omega)).trans r0, (oth 1 (by omega)).trans r1, (oth 2 (by omega)).trans r2, ?_, ?_, ?_, ?_, (oth 7 (by omega)).trans r7⟩, fun j hj => ⟨(oth _ (by omega)).trans (rc j hj).1, (oth _ (by omega)).trans (rc j hj).2⟩, fun j hj => ?_, fun j hj => ⟨(oth _ (by omega)).trans (rd j hj).1, (oth _ (by omega)).trans (rd j hj).2⟩⟩
  · rw [key, if_pos rfl]
  · rw [key, if_neg (by decide), if_pos rfl, rz 4 (by decide) (by decide)]
    cases isF X
    · rw [if_neg (by decide), if_neg (by decide)]
      rfl
    · rw [if_pos rfl, if_pos rfl]
  · rw [key, if_neg (by decide), if_neg (by decide), if_pos rfl, rz 5 (by decide) (by decide)]
    cases isF X
    · rw [if_neg (by decide), if_neg (by decide)]
      rfl
    · rw [if_pos rfl, if_pos rfl]
  · rw [key, if_neg (by decide), if_neg (by decide), if_neg (by decide), if_pos rfl, rz 6 (by decide) (by decide)]
    cases isD X
    · rw [if_neg (by decide), if_neg (by decide)]
      rfl
    · rw [if_pos rfl, if_pos rfl]
  · obtain ⟨y1, y2, y3, y4⟩ := rm j hj
    exact ⟨(oth _ (by omega)).trans y1, (oth _ (by omega)).trans y2, (oth _ (by omega)).trans y3, (oth _ (by omega)).trans y4⟩
theorem written (hX1 : X.1 ≤ 260) (W : TW h [] t) : ∃ g t' l4 l5 l6 l7 l8, TW g (RT X) t' ∧ RZ X t' ∧ ∀ Q : QT, wq X (d + 13) 102 0 [some (.ref 1), some (.ref 195), some (.ref 10000), none, none, none, none, none, none] [] h Q = wq X (d + 13) 102 781 [some (.ref 1), some (.ref 195), some (.ref 10000), some (.int (drC X 0)), l4, l5, l6, l7, l8] [] g Q := by
  have h3 := nC_3 (X := X)
  have h5 := nM_5 (X := X)
  have hd := nD_3 (X := X)
  obtain ⟨g0, t0, W0, R0, q0⟩ := bp_0 (X := X) (d := d) hX1 W
  obtain ⟨g1, t1, W1, R1, q1⟩ := bl_crafts (X := X) (d := d) W0 R0
  have q1' : ∀ Q : QT, wq X (d + 13) 102 39 [some (.ref 1), some (.ref 195), some (.ref 10000), some (.int (drC X 0)), some (.int 0), some (.int 0), none, none, none] [] g0 Q = wq X (d + 13) 102 156 [some (.ref 1), some (.ref 195), some (.ref 10000), some (.int (drC X 0)), some (.int (nI (cA (fgC X) (ggC X) (nC X)).length)), some (.int (nI (nC X))), none, none, none] [] g1 Q := by
    intro Q
    unfold fgC ggC nC
    exact q1 Q
  have W1' : TW g1 (cA (fgC X) (ggC X) (nC X)) t1 := by
    unfold fgC ggC nC
    exact W1
  have R1' : RC t1 (drC X 0) (nC X) := by
    unfold nC
    exact R1
  clear q1 W1 R1
  obtain ⟨g2, t2, W2, R2, q2⟩ := bp_1 (X := X) (d := d) (l4 := nI (cA (fgC X) (ggC X) (nC X)).length) (l5 := nI (nC X)) W1' R1'
  have b1 := cA_len (f := fgC X) (g := ggC X) (nC X)
  obtain ⟨g3, t3, l6, l7, l8, W3, R3, q3⟩ := bo_men (X := X) (d := d) (l6 := none) (l7 := none) (l8 := none) hX1 W2 h3 (by
    by_cases z : nC X = 0
    · exact Or.inl (if_pos z)
    · exact Or.inr (Nat.pos_of_ne_zero z)) h5 R2 (show (cA (fgC X) (ggC X) (nC X)).length ≤ 200 by omega)
  have b2 := ln_app b1 (bAm_len (X := X) h3 (nM X))
  obtain ⟨g4, t4, W4, R4, q4⟩ := bp_2 (X := X) (d := d) (l4 := nI (cA (fgC X) (ggC X) (nC X) ++ bAm X (nC X) (nM X)).length) (l5 := nI (nM X)) (l6 := l6) (l7 := l7) (l8 := l8) W3 R3
  obtain ⟨g5, t5, W5, R5, q5⟩ := bo_dems (X := X) (d := d) (l6 := l6) (l7 := l7) (l8 := l8) hX1 W4 h3 h5 hd R4 (show (cA (fgC X) (ggC X) (nC X) ++ bAm X (nC X) (nM X)).length ≤ 600 by omega)
  have b3 := ln_app b2 (dA_len (f := dmN X) (g := dmV X) (nD X))
  obtain ⟨g6, W6, q6⟩ := bp_3 (X := X) (d := d) (l5 := some (.int (nI (nD X)))) (l6 := l6) (l7 := l7) (l8 := l8) W5 (by omega) rfl
  have b4 := ln_app b3 (show (bkL (nB X) []).length ≤ 48 by
    unfold bkL
    split
    · exact Nat.zero_le _
    · rw [List.append_nil, tb_len]
      have := nB_3 (X := X)
      exact tx_48 _ (by omega) (by omega))
  obtain ⟨g7, W7, q7⟩ := bp_4 (X := X) (d := d) (l5 := some (.int (nI (nD X)))) (l6 := l6) (l7 := l7) (l8 := l8) hX1 W6 (by omega)
  have b5 := ln_app b4 (show (foL' X []).length ≤ 40 by
    unfold foL'
    split
    · unfold fLn
      have := dg_len (nF X)
      have := dg_len (nR X)
      simp only [List.length_append, tl_43, tl_44, tl_30, List.length_cons, List.length_nil]
      omega
    · exact Nat.zero_le _)
  obtain ⟨g8, W8, q8⟩ := bp_5 (X := X) (d := d) (l5 := some (.int (nI (nD X)))) (l6 := l6) (l7 := l7) (l8 := l8) hX1 W7 (by omega)
  have W9 : TW g8 (RT X) (rowF X t5) := W8
  exact ⟨g8, rowF X t5, _, _, _, _, _, W9, rz_fin R5, fun Q => (q0 Q).trans ((q1' Q).trans ((q2 Q).trans ((q3 Q).trans ((q4 Q).trans ((q5 Q).trans ((q6 Q).trans ((q7 Q).trans (q8 Q))))))))⟩
end BUILT
