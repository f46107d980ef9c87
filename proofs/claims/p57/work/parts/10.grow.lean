/-- the cells only grow -/
def g_K (K : KT) (a : AT) : Prop := ∀ q, a = some (.inl q) → K <+: q.2.2.2.1
theorem g_len {K K' : KT} (h : K <+: K') : K.length ≤ K'.length ∧ m_sl K ≤ m_sl K' := by
  obtain ⟨E, rfl⟩ := h
  unfold m_sl
  rw [List.length_append, List.map_append, List.sum_append]
  exact ⟨Nat.le_add_right _ _, Nat.le_add_right _ _⟩
theorem g_none {K : KT} : g_K K none := fun _ h => by cases h
theorem g_nx {K : KT} {pc : Nat} {ls : LT} {st : List Value} {h : HT} : g_K K (some (.inl (pc, ls, st, K, h))) := fun q e => by
  cases e
  exact List.prefix_refl _
theorem g_r {K : KT} {x} : g_K K (some (.inr x)) := fun q e => by cases e
theorem g_ck {K : KT} {b : Bool} {a : AT} (h : g_K K a) : g_K K (m_ck b a) := fun q e => h q (i_ck e).2
theorem g_op {α : Type} {K : KT} {o : Option α} {f : α → AT} (h : ∀ x, g_K K (f x)) : g_K K (m_op o f) := fun q e => by
  obtain ⟨x, -, e⟩ := i_op e
  exact h x q e
theorem g_1I {K : KT} {st : List Value} {f : Int32 → List Value → AT} (h : ∀ a r, g_K K (f a r)) : g_K K (m_1I st f) := fun q e => by
  obtain ⟨a, r, -, e⟩ := i_1I e
  exact h a r q e
theorem g_1L {K : KT} {st : List Value} {f : Int64 → List Value → AT} (h : ∀ a r, g_K K (f a r)) : g_K K (m_1L st f) := fun q e => by
  obtain ⟨a, r, -, e⟩ := i_1L e
  exact h a r q e
theorem g_0R {K : KT} {st : List Value} {f : Nat → List Value → AT} (h : ∀ a r, g_K K (f a r)) : g_K K (m_0R st f) := fun q e => by
  obtain ⟨a, r, -, e⟩ := i_0R e
  exact h _ r q e
theorem g_1R {K : KT} {st : List Value} {f : Nat → List Value → AT} (h : ∀ a r, g_K K (f a r)) : g_K K (m_1R st f) := fun q e => by
  obtain ⟨a, r, -, e⟩ := i_1R e
  exact h _ r q e
theorem g_2I {K : KT} {st : List Value} {f : Int32 → Int32 → List Value → AT} (h : ∀ a b r, g_K K (f a b r)) : g_K K (m_2I st f) := fun q e => by
  obtain ⟨a, b, r, -, e⟩ := i_2I e
  exact h a b r q e
theorem g_2L {K : KT} {st : List Value} {f : Int64 → Int64 → List Value → AT} (h : ∀ a b r, g_K K (f a b r)) : g_K K (m_2L st f) := fun q e => by
  obtain ⟨a, b, r, -, e⟩ := i_2L e
  exact h a b r q e
theorem g_lI {K : KT} {ls : LT} {i : Nat} {f : Int32 → AT} (h : ∀ a, g_K K (f a)) : g_K K (m_lI ls i f) := fun q e => by
  obtain ⟨a, -, e⟩ := i_lI e
  exact h a q e
theorem g_lL {K : KT} {ls : LT} {i : Nat} {f : Int64 → AT} (h : ∀ a, g_K K (f a)) : g_K K (m_lL ls i f) := fun q e => by
  obtain ⟨a, -, e⟩ := i_lL e
  exact h a q e
theorem g_lR {K : KT} {ls : LT} {i : Nat} {f : Nat → AT} (h : ∀ a, g_K K (f a)) : g_K K (m_lR ls i f) := fun q e => by
  obtain ⟨a, -, e⟩ := i_lR e
  exact h _ q e
theorem g_s1 {K : KT} {nL : Nat} {ls : LT} {i : Nat} {v : Value} {f : LT → AT} (h : ∀ l, g_K K (f l)) : g_K K (m_s1 nL ls i v f) := fun q e => h _ q (i_s1 e).2.2
theorem g_s2 {K : KT} {nL : Nat} {ls : LT} {i : Nat} {v : Value} {f : LT → AT} (h : ∀ l, g_K K (f l)) : g_K K (m_s2 nL ls i v f) := fun q e => h _ q (i_s2 e).2.2
theorem g_mk {K : KT} {h : HT} {c n pc : Nat} {ls : LT} {st : List Value} : g_K K (m_mk K h c n fun o K h => some (.inl (pc, ls, .ref o :: st, K, h))) := fun q e => by
  obtain ⟨-, e⟩ := i_ck e
  cases e
  exact List.prefix_append _ _
theorem g_cal {K : KT} {y : Nat} {As rest : List Value} : g_K K (m_cal y As rest) := g_ck g_r
set_option maxHeartbeats 4000000 in
theorem g_act {X : XT} {M pc n : Nat} {i : Instr} {ls : LT} {st : List Value} {K : KT} {h : HT} : g_K K (m_act X M pc i n ls st K h) := by
  cases i
  all_goals unfold m_act
  all_goals dsimp only
  all_goals repeat' (first | exact g_none | exact g_nx | exact g_r | exact g_mk | exact g_cal | refine g_ck ?_ | refine g_op (fun _ => ?_) | refine g_2I (fun _ _ _ => ?_) | refine g_2L (fun _ _ _ => ?_) | refine g_1I (fun _ _ => ?_) | refine g_1L (fun _ _ => ?_) | refine g_1R (fun _ _ => ?_) | refine g_0R (fun _ _ => ?_) | refine g_lI (fun _ => ?_) | refine g_lL (fun _ => ?_) | refine g_lR (fun _ => ?_) | refine g_s1 (fun _ => ?_) | refine g_s2 (fun _ => ?_) | split)
theorem g_run {X : XT} : ∀ (f d M pc : Nat) (ls : LT) (st : List Value) (K : KT) (h : HT) (v : Option Value) (K' : KT) (h' : HT), m_run X f d M pc ls st K h = some (v, K', h') → K <+: K' := by
  intro f
  induction f with
  | zero => intro d M pc ls st K h v K' h' e; cases e
  | succ f ih =>
    intro d M pc ls st K h v K' h' e
    unfold m_run at e
    split at e
    · cases e
    · split at e
      · cases e
      · rename_i q hq
        have a := g_act _ hq
        have b := ih _ _ _ _ _ _ _ _ _ _ e
        exact a.trans b
      · cases e
        exact List.prefix_refl _
      · split at e
        · cases e
        · split at e
          · cases e
          · rename_i r hr
            obtain ⟨v1, K1, h1⟩ := r
            have a := ih _ _ _ _ _ _ _ _ _ _ hr
            have b := ih _ _ _ _ _ _ _ _ _ _ e
            exact a.trans b
/-- neither a call nor an end -/
def g_X (a : AT) : Prop := ∀ z, a ≠ some (.inr z)
theorem x_none : g_X none := fun _ h => by cases h
theorem x_nx {z} : g_X (some (.inl z)) := fun _ h => by cases h
theorem x_ck {b : Bool} {a : AT} (h : g_X a) : g_X (m_ck b a) := fun z e => h z (i_ck e).2
theorem x_op {α : Type} {o : Option α} {f : α → AT} (h : ∀ x, g_X (f x)) : g_X (m_op o f) := fun z e => by
  obtain ⟨x, -, e⟩ := i_op e
  exact h x z e
theorem x_1I {st : List Value} {f : Int32 → List Value → AT} (h : ∀ a r, g_X (f a r)) : g_X (m_1I st f) := fun z e => by
  obtain ⟨a, r, -, e⟩ := i_1I e
  exact h _ _ z e
theorem x_1L {st : List Value} {f : Int64 → List Value → AT} (h : ∀ a r, g_X (f a r)) : g_X (m_1L st f) := fun z e => by
  obtain ⟨a, r, -, e⟩ := i_1L e
  exact h _ _ z e
theorem x_0R {st : List Value} {f : Nat → List Value → AT} (h : ∀ a r, g_X (f a r)) : g_X (m_0R st f) := fun z e => by
  obtain ⟨a, r, -, e⟩ := i_0R e
  exact h _ _ z e
theorem x_1R {st : List Value} {f : Nat → List Value → AT} (h : ∀ a r, g_X (f a r)) : g_X (m_1R st f) := fun z e => by
  obtain ⟨a, r, -, e⟩ := i_1R e
  exact h _ _ z e
theorem x_2I {st : List Value} {f : Int32 → Int32 → List Value → AT} (h : ∀ a b r, g_X (f a b r)) : g_X (m_2I st f) := fun z e => by
  obtain ⟨a, b, r, -, e⟩ := i_2I e
  exact h _ _ _ z e
theorem x_2L {st : List Value} {f : Int64 → Int64 → List Value → AT} (h : ∀ a b r, g_X (f a b r)) : g_X (m_2L st f) := fun z e => by
  obtain ⟨a, b, r, -, e⟩ := i_2L e
  exact h _ _ _ z e
theorem x_lI {ls : LT} {i : Nat} {f : Int32 → AT} (h : ∀ a, g_X (f a)) : g_X (m_lI ls i f) := fun z e => by
  obtain ⟨a, -, e⟩ := i_lI e
  exact h _ z e
theorem x_lL {ls : LT} {i : Nat} {f : Int64 → AT} (h : ∀ a, g_X (f a)) : g_X (m_lL ls i f) := fun z e => by
  obtain ⟨a, -, e⟩ := i_lL e
  exact h _ z e
theorem x_lR {ls : LT} {i : Nat} {f : Nat → AT} (h : ∀ a, g_X (f a)) : g_X (m_lR ls i f) := fun z e => by
  obtain ⟨a, -, e⟩ := i_lR e
  exact h _ z e
theorem x_s1 {nL : Nat} {ls : LT} {i : Nat} {v : Value} {f : LT → AT} (h : ∀ l, g_X (f l)) : g_X (m_s1 nL ls i v f) := fun z e => h _ z (i_s1 e).2.2
theorem x_s2 {nL : Nat} {ls : LT} {i : Nat} {v : Value} {f : LT → AT} (h : ∀ l, g_X (f l)) : g_X (m_s2 nL ls i v f) := fun z e => h _ z (i_s2 e).2.2
theorem x_mk {K : KT} {h : HT} {c n : Nat} {f : Nat → KT → HT → AT} (hf : ∀ o K h, g_X (f o K h)) : g_X (m_mk K h c n f) := x_ck (hf _ _ _)
set_option maxHeartbeats 4000000 in
theorem x_act {X : XT} {M pc n : Nat} {i : Instr} {ls : LT} {st : List Value} {K : KT} {h : HT} {z} (e : m_act X M pc i n ls st K h = some (.inr z)) : (∃ k, i = .invokevirtual k) ∨ (∃ k, i = .invokestatic k) ∨ (∃ k, i = .invokespecial k) ∨ i = .ireturn ∨ i = .lreturn ∨ i = .areturn ∨ i = .return_ := by
  cases i
  case invokevirtual k => exact Or.inl ⟨k, rfl⟩
  case invokestatic k => exact Or.inr (Or.inl ⟨k, rfl⟩)
  case invokespecial k => exact Or.inr (Or.inr (Or.inl ⟨k, rfl⟩))
  case ireturn => exact Or.inr (Or.inr (Or.inr (Or.inl rfl)))
  case lreturn => exact Or.inr (Or.inr (Or.inr (Or.inr (Or.inl rfl))))
  case areturn => exact Or.inr (Or.inr (Or.inr (Or.inr (Or.inr (Or.inl rfl)))))
  case return_ => exact Or.inr (Or.inr (Or.inr (Or.inr (Or.inr (Or.inr rfl)))))
  all_goals exfalso
  all_goals revert e
  all_goals refine (fun (hx : g_X _) => hx z) ?_
  all_goals unfold m_act
  all_goals dsimp only
  all_goals repeat' (first | exact x_none | exact x_nx | refine x_mk (fun _ _ _ => ?_) | refine x_ck ?_ | refine x_op (fun _ => ?_) | refine x_2I (fun _ _ _ => ?_) | refine x_2L (fun _ _ _ => ?_) | refine x_1I (fun _ _ => ?_) | refine x_1L (fun _ _ => ?_) | refine x_1R (fun _ _ => ?_) | refine x_0R (fun _ _ => ?_) | refine x_lI (fun _ => ?_) | refine x_lL (fun _ => ?_) | refine x_lR (fun _ => ?_) | refine x_s1 (fun _ => ?_) | refine x_s2 (fun _ => ?_) | split)
