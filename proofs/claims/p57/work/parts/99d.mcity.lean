/-! A TEXT, as the model reads it -/
def hRw (h : HT) (a : Nat) (f : Nat → Int32) : HT := (fun c k => if c = a then f k else h.1 c k, h.2)
theorem gI_hRw {h : HT} {a c k : Nat} {f : Nat → Int32} : m_gI (hRw h a f) c k = if c = a then f k else m_gI h c k := rfl
theorem hRw_id {h : HT} {a : Nat} : hRw h a (m_gI h a) = h := by
  refine Prod.ext (funext fun c => funext fun k => ?_) rfl
  show (if c = a then m_gI h a k else h.1 c k) = h.1 c k
  by_cases x : c = a
  · rw [if_pos x, x]; rfl
  · rw [if_neg x]
theorem sI_hRw {h : HT} {a k : Nat} {f : Nat → Int32} {v : Int32} : m_sI (hRw h a f) a k v = hRw h a (up f k v) := by
  refine Prod.ext (funext fun c => funext fun j => ?_) rfl
  show (if c = a ∧ j = k then v else if c = a then f j else h.1 c j) = if c = a then (if j = k then v else f j) else h.1 c j
  by_cases x : c = a
  · rw [if_pos x, if_pos x]
    by_cases y : j = k
    · rw [if_pos ⟨x, y⟩, if_pos y]
    · rw [if_neg (fun q => y q.2), if_neg y]
  · rw [if_neg (fun q => x q.1), if_neg x, if_neg x]
section MCIT
variable {X : XT} {d R L : Nat} {h : HT} {V : Nat → Nat}
end MCIT
