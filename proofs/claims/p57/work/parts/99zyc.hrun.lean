/-! WHAT STANDS BESIDE THE SCRIPT IS NEVER READ -/
def Xf (X : XT) (v : Int32) : XT := (X.1, fun j => if j = 100000 then v else X.2 j)
theorem act_Xf {X : XT} {v : Int32} (hX : X.1 ≤ 260) {M pc : Nat} {i : Instr} {n : Nat} {ls : LT} {st : List Value} {K : KT} {h : HT} {r : _} (e : m_act (Xf X v) M pc i n ls st K h = some r) : m_act X M pc i n ls st K h = some r := by
  cases i with
  | iaload =>
    unfold m_act at e ⊢
    unfold m_1I m_1R m_ck at e ⊢
    dsimp only at e ⊢
    split at e
    · rename_i z
      rw [if_pos z]
      split at e
      · rename_i j r1
        split at e
        · rename_i a r'
          generalize a + 1 = a at e ⊢
          split at e
          · rename_i z1
            rw [if_pos z1]
            by_cases y : a = 10000
            · subst y
              split at e
              · rename_i z2
                have hj : j.toNatClampNeg < X.1 := by
                  have q := (Bool.and_eq_true_iff.mp z2).2
                  have q2 := (Bool.and_eq_true_iff.mp (show (!(decide (j < 0)) && Nat.blt j.toNatClampNeg X.1) = true from q)).2
                  exact Nat.blt_eq.mp q2
                refine Eq.trans (if_pos z2) ?_
                rw [show m_xI X 10000 j.toNatClampNeg = m_xI (Xf X v) 10000 j.toNatClampNeg from by
                  show X.2 j.toNatClampNeg = if j.toNatClampNeg = 100000 then v else X.2 j.toNatClampNeg
                  rw [if_neg (by omega)]]
                exact e
              · cases e
            · rw [show m_xI X a j.toNatClampNeg = m_xI (Xf X v) a j.toNatClampNeg from by unfold m_xI; rw [if_neg y, if_neg y]]
              exact e
          · rename_i z1
            rw [if_neg z1]
            exact e
        · cases e
      · cases e
    · cases e
  | _ => exact e
theorem run_Xf {X : XT} {v : Int32} (hX : X.1 ≤ 260) : ∀ (f d M pc : Nat) (ls : LT) (st : List Value) (K : KT) (h : HT) (r : Option Value × KT × HT), m_run (Xf X v) f d M pc ls st K h = some r → m_run X f d M pc ls st K h = some r := by
  intro f
  induction f with
  | zero => intro d M pc ls st K h r e; cases e
  | succ f ih =>
    intro d M pc ls st K h r e
    rw [m_run] at e ⊢
    split at e
    · cases e
    · rename_i i n hd
      split at e
      · cases e
      · rename_i q hq
        rw [act_Xf hX hq]
        exact ih _ _ _ _ _ _ _ _ e
      · rename_i v hv
        rw [act_Xf hX hv]
        exact e
      · rename_i q hq
        rw [act_Xf hX hq]
        dsimp only
        split at e
        · cases e
        · split at e
          · cases e
          · rename_i r1 hr1
            rw [ih _ _ _ _ _ _ _ _ hr1]
            exact ih _ _ _ _ _ _ _ _ e
theorem Xf_at {X : XT} {v : Int32} : (Xf X v).2 100000 = v := by
  show (if (100000 : Nat) = 100000 then v else X.2 100000) = v
  exact if_pos rfl
theorem KS_0 {X : XT} : KS (Xf X 0) = KS0 := if_pos Xf_at
theorem KS_1 {X : XT} : KS (Xf X 1) = KS0 ++ [(20, 21)] := if_neg (by rw [Xf_at]; decide)
/-! FROM THE ENTRY -/
section HRUN
variable {X : XT} {f d M pc n : Nat} {i : Instr} {ls : LT} {st : List Value} {K : KT} {h : HT} {r : Option Value × KT × HT}
theorem r_inl {q : Nat × LT × List Value × KT × HT} (hd : decode (m_bts M) pc = .ok (i, n)) (ha : m_act X M pc i n ls st K h = some (.inl q)) (e : m_run X f d M q.1 q.2.1 q.2.2.1 q.2.2.2.1 q.2.2.2.2 = some r) : m_run X (f + 1) d M pc ls st K h = some r := by
  rw [m_run, hd]
  dsimp only
  rw [ha]
  exact e
theorem r_call {f1 f2 y : Nat} {As rest : List Value} {r1 : Option Value × KT × HT} (hd : decode (m_bts M) pc = .ok (i, n)) (ha : m_act X M pc i n ls st K h = some (.inr (.inl (y, As, rest)))) (e1 : m_run X f1 d y 0 (m_ent (m_ml y) As) [] K h = some r1) (e2 : m_run X f2 (d + 1) M (pc + 3) ls (r1.1.toList ++ rest) r1.2.1 r1.2.2 = some r) : m_run X (f1 + f2 + 1) (d + 1) M pc ls st K h = some r := by
  rw [m_run, hd]
  dsimp only
  rw [ha]
  dsimp only
  rw [m_monoK f2 e1]
  dsimp only
  rw [Nat.add_comm f1 f2]
  exact m_monoK f1 e2
/-- a state that a rule's run ends, in the machine's words -/
theorem wq_end {Y : XT} {v0 : Option Value} {g : HT} (w : ∀ Q : QT, wq Y d M pc ls st h Q = Q v0 g) : ∃ f, m_run Y f d M pc ls st (KS Y) h = some (v0, KS Y, g) := by
  have e : wq Y d M pc ls st h (fun v h' => v = v0 ∧ h' = g) := by
    rw [w]
    exact ⟨rfl, rfl⟩
  obtain ⟨f, v, h', e1, e2, e3⟩ := e
  subst e2 e3
  exact ⟨f, e1⟩
theorem ent_102 : m_ent (m_ml 102) [.ref 1, .ref 195, .ref 10000] = [some (.ref 1), some (.ref 195), some (.ref 10000), none, none, none, none, none, none] := by
  rw [show m_ml 102 = 9 from by decide +kernel]
  rfl
theorem ent_171 : m_ent (m_ml 171) [.ref 195] = [some (.ref 195), none, none] := by
  rw [show m_ml 171 = 3 from by decide +kernel]
  rfl
theorem new_70 {K : KT} {g : HT} {ls : LT} (len : K.length = 194) : m_act X 315 10 (.newarray .int) 2 ls [.int 70] K g = some (.inl (12, ls, [.ref 195], K ++ [(20, 70)], m_clr g 195)) := by
  have a : m_act X 315 10 (.newarray .int) 2 ls [.int 70] K g = m_mk K g 20 70 fun o K h => some (.inl (10 + 2, ls, .ref o :: [], K, h)) := rfl
  refine a.trans ?_
  unfold m_mk
  rw [len]
  rfl
theorem new_21 {K : KT} {g : HT} {ls : LT} (len : K.length = 195) : m_act X 171 2 (.newarray .int) 2 ls [.int 21] K g = some (.inl (4, ls, [.ref 196], K ++ [(20, 21)], m_clr g 196)) := by
  have a : m_act X 171 2 (.newarray .int) 2 ls [.int 21] K g = m_mk K g 20 21 fun o K h => some (.inl (2 + 2, ls, .ref o :: [], K, h)) := rfl
  refine a.trans ?_
  unfold m_mk
  rw [len]
  rfl
theorem KS0_e : KS0.take 194 ++ [(20, 70)] = KS0 := by decide +kernel
theorem KS0_194 : (KS0.take 194).length = 194 := by decide +kernel
theorem KS0_195 : KS0.length = 195 := by decide +kernel
theorem new_HL {ls : LT} : m_act X 315 0 (.new 10) 3 ls [] [] h00 = some (.inl (3, ls, [.ref 1], i1K, m_clr h00 1)) := rfl
end HRUN
