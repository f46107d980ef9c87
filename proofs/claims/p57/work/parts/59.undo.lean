/-! day -/
theorem c_day38 {X : XT} {d T N : Nat} {g : HT} {τ : CT} {A : Nat → Int32} (H : CQ g T τ N A) : ∃ g', Fr 38 g g' ∧ Rep τ (gS g' 38) (aD τ A) ∧ ∀ Q : QT, wq X (d + 4) 107 0 [some (.ref T), some (.ref 38), none] [] g Q = Q (some (.int (nI (aC τ A)))) g' := c_passF (X := X) (d := d) (a := 38) (cq_t H) (cq_f H) (cq_a H) is38 (cq_r H)
theorem Fr_Da {h g : HT} (f : Fr 38 h g) : Da h g := ⟨fun c k => by unfold m_gR; rw [f.1], fun c k y z => f.2 c k (by omega) z⟩
/-! undo, redo -/
theorem hC_2 {h : HT} {a w : Nat → Int32} {k : Nat} {v : Int32} : m_sI (hC (hC h 227 a) 228 w) 227 k v = hC (hC h 227 (up a k v)) 228 w := by
  apply hx
  · intro c j
    show (if c = 227 ∧ j = k then v else if c = 228 then w j else if c = 227 then a j else h.1 c j) = if c = 228 then w j else if c = 227 then (if j = k then v else a j) else h.1 c j
    by_cases z : c = 227
    · by_cases y : j = k
      · rw [if_pos ⟨z, y⟩, if_neg (by omega), if_pos z, if_pos y]
      · rw [if_neg (fun q => y q.2), if_neg (by omega), if_pos z, if_neg (by omega), if_pos z, if_neg y]
    · rw [if_neg (fun q => z q.1)]
      by_cases y : c = 228
      · rw [if_pos y, if_pos y]
      · rw [if_neg y, if_neg z, if_neg y, if_neg z]
  · rfl
