/-! WHAT THE CONSTRUCTORS MAKE, by the kernel -/
def i1K : KT := [(0, 11)]
def i1 : Option (Option Value × KT × HT) := m_run X0 3000 999 0 0 (m_ent (m_ml 0) [.ref 1]) [] i1K (m_clr h00 1)
def i2F (K : KT) (h : HT) : Option (Option Value × KT × HT) := m_run X0 3000 999 186 0 (m_ent (m_ml 186) [.ref 195]) [] (K ++ [(10, 67)]) (m_clr h 195)
/-- what is 0 in the beginning -/
def iniZ : List (Nat × Nat) := [(23, 0), (23, 4), (23, 10), (23, 14), (23, 15), (23, 16), (23, 9), (33, 1), (33, 2), (37, 0), (38, 0), (38, 3), (38, 4), (38, 5), (38, 6), (38, 7), (44, 1), (44, 2), (44, 3), (170, 0), (170, 1), (170, 2), (179, 5), (179, 6), (2, 1), (4, 2), (195, 40), (198, 0), (199, 0), (200, 0), (201, 0), (202, 0), (203, 0), (204, 0), (205, 0), (216, 0), (227, 14), (227, 15), (227, 16), (227, 17), (227, 18), (227, 19), (195, 50), (195, 51), (237, 0), (237, 1), (237, 2), (195, 62), (195, 63), (195, 2), (195, 4)] ++ (List.range 128).map fun n => (36, n)
def iniC (h : HT) : Bool := PT.all (fun q => Nat.beq (m_gR h q.1 q.2.1) q.2.2) && (Nat.beq (m_gR h 1 2) 23 && Nat.beq (m_gR h 4 1) 5) && iniZ.all (fun q => decide (m_gI h q.1 q.2 = 0)) && (decide (m_gI h 4 3 = -1) && decide (m_gI h 195 5 = -1))
def ck (a : Option (Option Value × KT × HT)) (F : KT → HT → Option (Option Value × KT × HT)) : Bool := match a with
  | some (none, K1, h1) => decide (K1 = KS.take 194) && (match F K1 h1 with
    | some (none, K, h) => decide (K = KS) && iniC h
    | _ => false)
  | _ => false
theorem ck_gen {a : Option (Option Value × KT × HT)} {F : KT → HT → Option (Option Value × KT × HT)} (e : ck a F = true) : ∃ h1, a = some (none, KS.take 194, h1) ∧ ∃ h2, F (KS.take 194) h1 = some (none, KS, h2) ∧ iniC h2 = true := by
  unfold ck at e
  split at e
  · rename_i K1 h1
    have e1 := Bool.and_eq_true_iff.mp e
    have k1 : K1 = KS.take 194 := of_decide_eq_true e1.1
    subst k1
    refine ⟨h1, rfl, ?_⟩
    have e2 := e1.2
    generalize F (KS.take 194) h1 = b at e2 ⊢
    split at e2
    · rename_i K h2
      have e3 := Bool.and_eq_true_iff.mp e2
      have k2 : K = KS := of_decide_eq_true e3.1
      subst k2
      exact ⟨h2, rfl, e3.2⟩
    · cases e2
  · cases e
set_option maxRecDepth 100000 in
theorem ck_ok : ck i1 i2F = true := by decide +kernel
