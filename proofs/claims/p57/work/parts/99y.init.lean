/-! THE CONSTRUCTORS -/
def X0 : XT := (5000, fun _ => 0)
theorem act_X {X : XT} {M pc : Nat} {i : Instr} {n : Nat} {ls : LT} {st : List Value} {K : KT} {h : HT} {r : _} (e : m_act X0 M pc i n ls st K h = some r) : m_act X M pc i n ls st K h = some r := by
  cases i with
  | arraylength =>
    unfold m_act at e ⊢
    unfold m_1R m_ck at e ⊢
    dsimp only at e ⊢
    split at e
    · rename_i z
      rw [if_pos z]
      split at e
      · rename_i a r'
        generalize a + 1 = a at e ⊢
        split at e
        · rename_i z1
          rw [if_pos z1]
          by_cases y : a = 10000
          · subst y
            rw [if_neg (by decide)] at e
            cases e
          · rw [show m_xl X a = m_xl X0 a from by unfold m_xl; rw [if_neg y, if_neg y]]
            have hb : (a == 10000) = false := by simpa using y
            rw [hb, Bool.false_and] at e ⊢
            exact e
        · rename_i z1
          rw [if_neg z1]
          exact e
      · cases e
    · cases e
  | iaload =>
    unfold m_act at e ⊢
    unfold m_1I m_1R m_ck at e ⊢
    dsimp only at e ⊢
    split at e
    · rename_i z
      rw [if_pos z]
      split at e
      · rename_i j r1
        split at e
        · rename_i a r'
          generalize a + 1 = a at e ⊢
          split at e
          · rename_i z1
            rw [if_pos z1]
            by_cases y : a = 10000
            · subst y
              rw [if_neg (by rw [show (10000 == 10000 && Nat.blt X0.1 4096 || 10000 == 10001) = false from by decide]; simp)] at e
              cases e
            · rw [show m_xl X a = m_xl X0 a from by unfold m_xl; rw [if_neg y, if_neg y], show m_xI X a j.toNatClampNeg = m_xI X0 a j.toNatClampNeg from by unfold m_xI; rw [if_neg y, if_neg y]]
              have hb : (a == 10000) = false := by simpa using y
              rw [hb, Bool.false_and] at e ⊢
              exact e
          · rename_i z1
            rw [if_neg z1]
            exact e
        · cases e
      · cases e
    · cases e
  | baload =>
    unfold m_act at e ⊢
    unfold m_1I m_1R m_ck at e ⊢
    dsimp only at e ⊢
    split at e
    · rename_i z
      rw [if_pos z]
      split at e
      · rename_i j r1
        split at e
        · rename_i a r'
          generalize a + 1 = a at e ⊢
          split at e
          · rename_i z1
            rw [if_pos z1]
            by_cases y : a = 10000
            · subst y
              rw [if_neg (by rw [show m_xb 10000 = false from by decide]; simp)] at e
              cases e
            · rw [show m_xl X a = m_xl X0 a from by unfold m_xl; rw [if_neg y, if_neg y]]
              exact e
          · rename_i z1
            rw [if_neg z1]
            exact e
        · cases e
      · cases e
    · cases e
  | _ => exact e
theorem run_X {X : XT} : ∀ (f d M pc : Nat) (ls : LT) (st : List Value) (K : KT) (h : HT) (r : Option Value × KT × HT), m_run X0 f d M pc ls st K h = some r → m_run X f d M pc ls st K h = some r := by
  intro f
  induction f with
  | zero => intro d M pc ls st K h r e; cases e
  | succ f ih =>
    intro d M pc ls st K h r e
    rw [m_run] at e ⊢
    split at e
    · cases e
    · rename_i i n hd
      split at e
      · cases e
      · rename_i q hq
        rw [act_X hq]
        exact ih _ _ _ _ _ _ _ _ e
      · rename_i v hv
        rw [act_X hv]
        exact e
      · rename_i q hq
        rw [act_X hq]
        dsimp only
        split at e
        · cases e
        · split at e
          · cases e
          · rename_i r1 hr1
            rw [ih _ _ _ _ _ _ _ _ hr1]
            exact ih _ _ _ _ _ _ _ _ e
