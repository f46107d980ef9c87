/-! FROM THE ENTRY -/
section HRUN
variable {X : XT} {f d M pc n : Nat} {i : Instr} {ls : LT} {st : List Value} {K : KT} {h : HT} {r : Option Value × KT × HT}
theorem r_inl {q : Nat × LT × List Value × KT × HT} (hd : decode (m_bts M) pc = .ok (i, n)) (ha : m_act X M pc i n ls st K h = some (.inl q)) (e : m_run X f d M q.1 q.2.1 q.2.2.1 q.2.2.2.1 q.2.2.2.2 = some r) : m_run X (f + 1) d M pc ls st K h = some r := by
  rw [m_run, hd]
  dsimp only
  rw [ha]
  exact e
theorem r_call {f1 f2 y : Nat} {As rest : List Value} {r1 : Option Value × KT × HT} (hd : decode (m_bts M) pc = .ok (i, n)) (ha : m_act X M pc i n ls st K h = some (.inr (.inl (y, As, rest)))) (e1 : m_run X f1 d y 0 (m_ent (m_ml y) As) [] K h = some r1) (e2 : m_run X f2 (d + 1) M (pc + 3) ls (r1.1.toList ++ rest) r1.2.1 r1.2.2 = some r) : m_run X (f1 + f2 + 1) (d + 1) M pc ls st K h = some r := by
  rw [m_run, hd]
  dsimp only
  rw [ha]
  dsimp only
  rw [m_monoK f2 e1]
  dsimp only
  rw [Nat.add_comm f1 f2]
  exact m_monoK f1 e2
theorem l_run (X : XT) (hX : X.1 ≤ 3072) : ∃ f K' h', m_run X f 1000 315 0 [some (.ref 10000), none, none, none] [] [] h00 = some (some (.int 1), K', h') ∧ K'.length ≤ 600000 ∧ m_sl K' ≤ 7302250 := by
  obtain ⟨h1, e1, h2, e2, hc⟩ := ck_gen ck_ok
  have r1 : m_run X 3000 999 0 0 (m_ent (m_ml 0) [.ref 1]) [] i1K (m_clr h00 1) = some (none, KS.take 194, h1) := run_X _ _ _ _ _ _ _ _ _ e1
  have r2 := run_X (X := X) _ _ _ _ _ _ _ _ _ e2
  obtain ⟨O, C, K⟩ := ini_ok hc
  have lp := l_loop hX 5000 0 h2 _ (by omega) (by decide) C K O
  have st : wq X 1000 315 15 [some (.ref 10000), some (.ref 1), none, none] [.ref 195] h2 (fun v _ => v = some (.int 1)) := by
    rw [u315_15, u315_16, u315_17]
    exact lp
  obtain ⟨f3, v, h', q1, q2⟩ := st
  subst q2
  have len : (KS.take 194).length = 194 := by decide +kernel
  refine ⟨_, KS, h', r_inl (q := (3, [some (.ref 10000), none, none, none], [.ref 1], i1K, m_clr h00 1)) (q_dec D315_0 0 rfl) rfl (r_inl (q := (4, [some (.ref 10000), none, none, none], [.ref 1, .ref 1], i1K, m_clr h00 1)) (q_dec D315_0 1 rfl) rfl (r_call (d := 999) (y := 0) (As := [.ref 1]) (rest := [.ref 1]) (q_dec D315_0 2 rfl) rfl r1 (r_inl (q := (8, [some (.ref 10000), some (.ref 1), none, none], [], KS.take 194, h1)) (q_dec D315_0 3 rfl) rfl (r_inl (q := (11, [some (.ref 10000), some (.ref 1), none, none], [.ref 195], KS.take 194 ++ [(10, 67)], m_clr h1 195)) (q_dec D315_0 4 rfl) ?_ (r_inl (q := (12, [some (.ref 10000), some (.ref 1), none, none], [.ref 195, .ref 195], KS.take 194 ++ [(10, 67)], m_clr h1 195)) (q_dec D315_0 5 rfl) rfl (r_call (d := 999) (y := 186) (As := [.ref 195]) (rest := [.ref 195]) (q_dec D315_0 6 rfl) rfl r2 q1)))))), by decide +kernel, by decide +kernel⟩
  generalize KS.take 194 = k at len
  have a : m_act X 315 8 (.new 10) 3 [some (.ref 10000), some (.ref 1), none, none] [] k h1 = m_mk k h1 10 67 fun o K h => some (.inl (8 + 3, [some (.ref 10000), some (.ref 1), none, none], .ref o :: [], K, h)) := rfl
  refine a.trans ?_
  unfold m_mk
  rw [len]
  rfl
end HRUN
