/-! THE LAW'S RUN, for every script -/
section LRUN
variable {X : XT}
def lsN (n : Nat) : LT := List.replicate n none
theorem l_tail {h1 : HT} (hX : X.1 ≤ 260) (hc : iniC h1 = true) : ∃ f g, m_run X f 1000 315 12 (some (.ref 10000) :: some (.ref 1) :: List.replicate 21 none) [.ref 195] KS0 (m_clr h1 195) = some (some (.int 1), KS0 ++ [(20, 21)], g) := by
  obtain ⟨g, τ, C, W, LL, _, q1⟩ := built (X := Xf X 0) (d := 887) hX (ini_TW hc)
  obtain ⟨f1, r2⟩ := wq_end q1
  rw [KS_0] at r2
  have r2' := run_Xf hX _ _ _ _ _ _ _ _ _ r2
  rw [← ent_102] at r2'
  have hx1 : (Xf X 1).2 100000 ≠ 0 := by
    rw [Xf_at]
    decide
  have W0 := ww_clr W
  obtain ⟨f2, r3⟩ := wq_end (l_begin (X := Xf X 1) (d := 999) hx1 (ww_T W0) LL.2.2.1 (ww_C W0))
  rw [KS_1] at r3
  have r3' := run_Xf hX _ _ _ _ _ _ _ _ _ r3
  have rb : m_run X (f2 + 1 + 1) 999 171 0 (m_ent (m_ml 171) [.ref 195]) [] KS0 g = some (some (.ref 196), KS0 ++ [(20, 21)], hC (m_clr g 196) 196 (bgZ τ)) := by
    rw [ent_171]
    exact r_inl (q := (2, [some (.ref 195), none, none], [.int 21], KS0, g)) (q_dec D171_0 0 rfl) rfl (r_inl (q := (4, [some (.ref 195), none, none], [.ref 196], KS0 ++ [(20, 21)], m_clr g 196)) (q_dec D171_0 1 rfl) (new_21 KS0_195) r3')
  obtain ⟨g3, q3⟩ := l_head (X := Xf X 1) (d := 988) hx1 hX LL (ww_A (fun k _ => bgZ_e k) (ww_hC (bgZ τ) W0))
  obtain ⟨f3, r4⟩ := wq_end q3
  rw [KS_1] at r4
  have r4' := run_Xf hX _ _ _ _ _ _ _ _ _ r4
  exact ⟨_, g3, r_inl (q := (13, some (.ref 10000) :: some (.ref 1) :: some (.ref 195) :: List.replicate 20 none, [], KS0, m_clr h1 195)) (q_dec D315_0 6 rfl) rfl (r_inl (q := (14, some (.ref 10000) :: some (.ref 1) :: some (.ref 195) :: List.replicate 20 none, [.ref 1], KS0, m_clr h1 195)) (q_dec D315_0 7 rfl) rfl (r_inl (q := (15, some (.ref 10000) :: some (.ref 1) :: some (.ref 195) :: List.replicate 20 none, [.ref 195, .ref 1], KS0, m_clr h1 195)) (q_dec D315_0 8 rfl) rfl (r_inl (q := (16, some (.ref 10000) :: some (.ref 1) :: some (.ref 195) :: List.replicate 20 none, [.ref 10000, .ref 195, .ref 1], KS0, m_clr h1 195)) (q_dec D315_0 9 rfl) rfl (r_call (d := 999) (y := 102) (As := [.ref 1, .ref 195, .ref 10000]) (rest := []) (q_dec D315_0 10 rfl) rfl r2' (r_inl (q := (20, some (.ref 10000) :: some (.ref 1) :: some (.ref 195) :: some (.int 1) :: List.replicate 19 none, [], KS0, g)) (q_dec D315_0 11 rfl) rfl (r_inl (q := (21, some (.ref 10000) :: some (.ref 1) :: some (.ref 195) :: some (.int 1) :: List.replicate 19 none, [.ref 195], KS0, g)) (q_dec D315_0 12 rfl) rfl (r_call (d := 999) (y := 171) (As := [.ref 195]) (rest := []) (q_dec D315_0 13 rfl) rfl rb r4')))))))⟩
theorem l_run (X : XT) (hX : X.1 ≤ 260) : ∃ f K' h', m_run X f 1000 315 0 (some (.ref 10000) :: List.replicate 22 none) [] [] h00 = some (some (.int 1), K', h') ∧ K'.length ≤ 600000 ∧ m_sl K' ≤ 7302250 := by
  obtain ⟨h1, e1, hc⟩ := ck_gen ck_ok
  have r1 : m_run X 3000 999 0 0 (m_ent (m_ml 0) [.ref 1]) [] i1K (m_clr h00 1) = some (none, KS0.take 194, h1) := run_X _ _ _ _ _ _ _ _ _ e1
  obtain ⟨f, g, e⟩ := l_tail hX hc
  refine ⟨_, KS0 ++ [(20, 21)], g, r_inl (q := (3, some (.ref 10000) :: List.replicate 22 none, [.ref 1], i1K, m_clr h00 1)) (q_dec D315_0 0 rfl) new_HL (r_inl (q := (4, some (.ref 10000) :: List.replicate 22 none, [.ref 1, .ref 1], i1K, m_clr h00 1)) (q_dec D315_0 1 rfl) rfl (r_call (d := 999) (y := 0) (As := [.ref 1]) (rest := [.ref 1]) (q_dec D315_0 2 rfl) rfl r1 (r_inl (q := (8, some (.ref 10000) :: some (.ref 1) :: List.replicate 21 none, [], KS0.take 194, h1)) (q_dec D315_0 3 rfl) rfl (r_inl (q := (10, some (.ref 10000) :: some (.ref 1) :: List.replicate 21 none, [.int 70], KS0.take 194, h1)) (q_dec D315_0 4 rfl) rfl (r_inl (q := (12, some (.ref 10000) :: some (.ref 1) :: List.replicate 21 none, [.ref 195], KS0.take 194 ++ [(20, 70)], m_clr h1 195)) (q_dec D315_0 5 rfl) (new_70 KS0_194) (by rw [KS0_e]; exact e)))))), by decide +kernel, by decide +kernel⟩
end LRUN
