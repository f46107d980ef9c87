/-! THE MODEL LOOKS AHEAD -/
/-! keeping and bringing back -/
def hC (h : HT) (c : Nat) (v : Nat → Int32) : HT := (fun b k => if b = c then v k else h.1 b k, h.2)
theorem gI_hC {h : HT} {c k : Nat} {v : Nat → Int32} : m_gI (hC h c v) c k = v k := if_pos rfl
theorem gI_hCo {h : HT} {c b k : Nat} {v : Nat → Int32} (z : b ≠ c) : m_gI (hC h c v) b k = m_gI h b k := if_neg z
theorem gR_hC {h : HT} {c b k : Nat} {v : Nat → Int32} : m_gR (hC h c v) b k = m_gR h b k := rfl
theorem sI_hC {h : HT} {c k : Nat} {v : Nat → Int32} {x : Int32} : m_sI (hC h c v) c k x = hC h c (up v k x) := by
  apply hx
  · intro b j
    show (if b = c ∧ j = k then x else if b = c then v j else h.1 b j) = if b = c then (if j = k then x else v j) else h.1 b j
    by_cases a : b = c
    · by_cases e : j = k
      · rw [if_pos ⟨a, e⟩, if_pos a, if_pos e]
      · rw [if_neg (fun w => e w.2), if_pos a, if_pos a, if_neg e]
    · rw [if_neg (fun w => a w.1), if_neg a, if_neg a]
  · rfl
theorem hC_id {h : HT} {c : Nat} : hC h c (m_gI h c) = h := by
  apply hx
  · intro b j
    show (if b = c then h.1 c j else h.1 b j) = h.1 b j
    by_cases a : b = c
    · rw [if_pos a, a]
    · rw [if_neg a]
  · rfl
def cpL (v u : Nat → Int32) (i : Nat) : Nat → Int32 := fun k => if k < i then u k else v k
theorem cpL_0 {v u : Nat → Int32} : cpL v u 0 = v := funext fun k => if_neg (Nat.not_lt_zero k)
theorem cpL_s {v u : Nat → Int32} {i : Nat} : cpL v u (i + 1) = up (cpL v u i) i (u i) := by
  funext k
  show (if k < i + 1 then u k else v k) = if k = i then u i else if k < i then u k else v k
  by_cases z : k = i
  · rw [if_pos z, if_pos (by omega), z]
  · rw [if_neg z]
    by_cases y : k < i
    · rw [if_pos y, if_pos (by omega)]
    · rw [if_neg y, if_neg (by omega)]
theorem Same_hC {h : HT} {c : Nat} {v : Nat → Int32} (hc : ∀ k, isJ c k = true) : Same h (hC h c v) := by
  refine ⟨rfl, fun b k z => gI_hCo ?_⟩
  intro e
  rw [e, hc k] at z
  cases z
theorem c_isAhead {X : XT} {d : Nat} {h : HT} {Q : QT} {x : Int32} : wq X d 103 0 [some (.int x)] [] h Q = Q (some (.int (if ixB x 61 = true then 1 else 0))) h := by
  have := ix_k1 (x := x) (k := 61) (by decide) (by decide)
  rw [show nI (61 - 1) = 60 from rfl] at this
  rw [← this]
  simp only [u103_0, u103_1, u103_4, u103_5, u103_7, u103_10, u103_11, u103_14, u103_15, eq_self, q_nl0, q_nlI, q_nlR, not_false_eq_true, q_nz0, q_nz1, q_zv0, q_zv1, q_tl1, q_tl0, q_wif, q_swc, q_swn, List.cons_append, List.nil_append, if_true, if_false, e10, e01, Bool.false_eq_true]
  split
  · rfl
  · split <;> rfl
theorem c_outB {X : XT} {d n k : Nat} {g : HT} {Q : QT} {τ : CT} {A : Nat → Int32} (hp : Ptr g) (nt : Noted τ A n g) (hk : k ≤ n) (hn : n ≤ 60) : wq X d 114 0 [some (.ref 171), some (.int (nI k))] [] g Q = Q (some (.int (nI (aN (aIt τ A k))))) g := by
  have e1 : (nI k < 0) = False := oI_lt0 (by omega)
  have e2 : (60 < nI k) = False := eq_false (nI_nlt (a := 60) (by omega) (by omega))
  have e3 : m_in (nI k) 61 = true := q_in (by omega) (by decide)
  have e4 : (nI k).toNatClampNeg = k := q_cl (by omega)
  simp only [u114_0, u114_1, u114_4, u114_5, u114_7, u114_10, u114_11, u114_14, u114_15, u114_16, u114_19, u114_20, eq_self, q_nl0, q_nlI, q_nlR, not_false_eq_true, q_nz0, q_nz1, q_zv0, q_zv1, q_tl1, q_tl0, q_wif, q_swc, q_swn, List.cons_append, List.nil_append, if_true, if_false, e10, e01, Bool.false_eq_true, sh_171, sh_175, e1, e2, e3, e4, p_171_1 hp, (nt k hk).1]
