/-! HOW THE SMALL MACHINE'S HEAP LIES IN THE JVM'S -/
def s_fv (ad : Nat → Nat) : Value := if ad 10003 = 1 then .null else .ref (ad 10002)
def s_con (ad : Nat → Nat) : Value → Value
  | .ref 0 => .null
  | .ref (k + 1) => .ref (ad (k + 1))
  | .retAddr _ => s_fv ad
  | v => v
def s_adr (ad : Nat → Nat) (k : Nat) : Option Nat := match k with
  | 0 => none
  | k + 1 => some (ad (k + 1))
theorem s_rf (ad : Nat → Nat) (k : Nat) : va_rf (s_adr ad k) = s_con ad (.ref k) := by cases k <;> rfl
/-- a field's sort, by its descriptor -/
def s_so (ci j : Nat) : Nat := match (mT ci j).2.2.1 with
  | "I" => 0
  | "J" => 1
  | "Z" => 3
  | _ => 2
def s_ty (t : Nat) : FieldType := match t with
  | 20 => .int
  | 21 => .long
  | 22 => .boolean
  | 23 => .byte
  | _ => .object "HillLeavers$State"
def s_tys (cA : Nat → ClassId) : List (ClassId × FieldType) := (List.range 5).map fun i => (cA (20 + i), s_ty (20 + i))
def s_cell (cA : Nat → ClassId) (ad : Nat → Nat) (h : HT) (k : Nat) (q : Nat × Nat) : va_E :=
  if q.1 < 20 then .inr (q.1, (List.range q.2).map fun j => s_con ad (m_rd (s_so q.1 j) h k j))
  else if q.1 = 21 then .inl (cA q.1, q.2, .inr (.inl (m_gL h k)))
  else if q.1 = 24 then .inl (cA q.1, q.2, .inr (.inr (.inr (.inr (fun j => s_adr ad (m_gR h k j))))))
  else .inl (cA q.1, q.2, .inl (m_gI h k))
def s_ws (cA : Nat → ClassId) (ad : Nat → Nat) (K : KT) (h : HT) : va_W := (List.range K.length).map fun k => (ad (k + 1), s_cell cA ad h (k + 1) (K.getD k (99, 0)))
theorem s_ws_at {cA : Nat → ClassId} {ad : Nat → Nat} {K : KT} {h : HT} {k : Nat} (hk : k < K.length) : (s_ws cA ad K h)[k]? = some (ad (k + 1), s_cell cA ad h (k + 1) (K.getD k (99, 0))) := by
  simp [s_ws, hk]
theorem s_ws_len {cA : Nat → ClassId} {ad : Nat → Nat} {K : KT} {h : HT} : (s_ws cA ad K h).length = K.length := by simp [s_ws]
theorem s_ws_set {cA : Nat → ClassId} {ad : Nat → Nat} {K : KT} {h h' : HT} {k : Nat} {e : va_E} (he : s_cell cA ad h' (k + 1) (K.getD k (99, 0)) = e)
    (ho : ∀ b, b ≠ k + 1 → (∀ j, m_gI h' b j = m_gI h b j) ∧ (∀ j, m_gL h' b j = m_gL h b j) ∧ ∀ j, m_gR h' b j = m_gR h b j) : (s_ws cA ad K h).set k (ad (k + 1), e) = s_ws cA ad K h' := by
  apply List.ext_getElem?
  intro i
  rw [List.getElem?_set]
  by_cases hi : k = i
  · subst hi
    by_cases hk : k < K.length
    · rw [if_pos rfl, if_pos (by rw [s_ws_len]; exact hk), s_ws_at hk, he]
    · rw [if_pos rfl, if_neg (by rw [s_ws_len]; exact hk), List.getElem?_eq_none (by rw [s_ws_len]; omega)]
  · rw [if_neg hi]
    by_cases hk : i < K.length
    · rw [s_ws_at hk, s_ws_at hk]
      obtain ⟨o1, o2, o3⟩ := ho (i + 1) (by omega)
      have e1 : s_cell cA ad h (i + 1) (K.getD i (99, 0)) = s_cell cA ad h' (i + 1) (K.getD i (99, 0)) := by
        have f1 : m_gI h' (i + 1) = m_gI h (i + 1) := funext o1
        have f2 : m_gL h' (i + 1) = m_gL h (i + 1) := funext o2
        have f3 : m_gR h' (i + 1) = m_gR h (i + 1) := funext o3
        unfold s_cell m_rd
        rw [f1, f2, f3]
      rw [e1]
    · rw [List.getElem?_eq_none (by rw [s_ws_len]; omega), List.getElem?_eq_none (by rw [s_ws_len]; omega)]
/-- the JVM's heap holds the small machine's -/
def s_H (dC : Nat → ClassId) (dI : Nat → Nat → Nat) (cA : Nat → ClassId) (ad : Nat → Nat) (K : KT) (h : HT) (H : Heap) : Prop :=
  va_P (dC, dI) m_classes (s_ws cA ad K h) H ∧ K.length ≤ 9000 ∧ (∀ k, k < K.length → (K.getD k (99, 0)).1 < 20 → (K.getD k (99, 0)).1 < 10 ∧ (K.getD k (99, 0)).2 = m_NN.getD (K.getD k (99, 0)).1 0) ∧ ∀ k, k < K.length → 20 ≤ (K.getD k (99, 0)).1 → (K.getD k (99, 0)).1 < 25
def s_ad (ad : Nat → Nat) (base : Nat) : Prop := ∀ k, k < 9001 → ad (k + 1) = base + k
def s_A (base : Nat) : Nat → Prop := fun q => base ≤ q
theorem s_wsD {cA : Nat → ClassId} {ad : Nat → Nat} {base : Nat} {K : KT} {h : HT} (hK : K.length ≤ 9000) (ha : s_ad ad base) : va_D (s_A base) (s_ws cA ad K h) := by
  have key : ∀ (k : Nat) (q : Nat × va_E), (s_ws cA ad K h)[k]? = some q → k < K.length ∧ q.1 = base + k := by
    intro k q hq
    have hk : k < K.length := by
      have := (List.getElem?_eq_some_iff.mp hq).1
      rwa [s_ws_len] at this
    rw [s_ws_at hk] at hq
    cases hq
    exact ⟨hk, ha k (by omega)⟩
  refine ⟨fun i j p q hi hj e => ?_, fun k q hk => ?_⟩
  · have a := (key i p hi).2
    have b := (key j q hj).2
    omega
  · have a := (key k q hk).2
    show base ≤ q.1
    omega
/-- the words that every method may use -/
def s_TB : List Cond := lw_tbl.filter goodWord
theorem s_TB_mem {w : Cond} {i : Nat} (h : lw_tbl[i]? = some w) (hg : goodWord w = true) : w ∈ s_TB := List.mem_filter.mpr ⟨List.mem_of_getElem? h, hg⟩
theorem s_TB_good {ws : List Cond} (h : ∀ w ∈ ws, w ∈ s_TB) : GoodIn s_TB ws := fun w hw => ⟨h w hw, good_of_word (List.mem_filter.mp (h w hw)).2⟩
def s_own (own : Nat) : String := m_cn own
def s_nst : List Cond := tables_1.filter fun w => match w with
  | .methodLinkNest _ _ _ _ => true
  | _ => false
/-- what the tables say, in any state of the run -/
def s_V (dC : Nat → ClassId) (dI : Nat → Nat → Nat) (cA : Nat → ClassId) (ad : Nat → Nat) (U : State) : Prop :=
  va_K (dC, dI) m_classes (s_tys cA) U ∧ (∀ w ∈ s_nst, va_Nw w U) ∧ va_AO "HillLeavers$State" U ∧ ∀ c, c < 20 → ∀ q ∈ m_str.getD c [], ∃ tx, vk_R (m_cn c) q.1 tx (ad (10010 + q.2)) U
/-- what lies outside -/
def s_E (ad : Nat → Nat) (base : Nat) (X : XT) (U : State) : Prop :=
  va_X (ad 10000) X.1 X.2 U U.heap ∧ ad 10000 < base ∧ X.1 < 2 ^ 31 ∧ va_Z "HillLeavers" "ORDERS" "[I" (.ref (ad 10001)) (s_A base) U U.heap ∧ va_T .int (ad 10001) 8 (fun j => .int (m_ord.getD j 0)) (s_A base) U U.heap ∧
  va_Z "java/lang/String" "COMPACT_STRINGS" "Z" (.int 1) (s_A base) U U.heap ∧ va_Z "jdk/internal/util/Preconditions" "SIOOBE_FORMATTER" "Ljava/util/function/BiFunction;" (s_fv ad) (s_A base) U U.heap ∧
  ∀ i, i < 46 → va_O "java/lang/String" (ad (10010 + i)) (s_A base) U U.heap ∧ va_OF "java/lang/String" "coder" "B" (.int 0) (ad (10010 + i)) (s_A base) U U.heap ∧ va_OF "java/lang/String" "value" "[B" (.ref (ad (10070 + i))) (ad (10010 + i)) (s_A base) U U.heap ∧ va_T .byte (ad (10070 + i)) ((m_txt.map List.length).getD i 0) (fun j => .int ((m_txt.getD i []).getD j 0)) (s_A base) U U.heap
theorem s_nst_warm {s U : State} (hW : s.WarmedH U.vm) {w : Cond} (hw : w ∈ s_nst) (h : va_Nw w s) : va_Nw w U := by
  have := (List.mem_filter.mp hw).2
  split at this
  · exact va_Nw.warmM hW h
  · cases this
theorem s_V.warm {dC : Nat → ClassId} {dI : Nat → Nat → Nat} {cA : Nat → ClassId} {ad : Nat → Nat} {s U : State} (hW : s.WarmedH U.vm) (h : s_V dC dI cA ad s) : s_V dC dI cA ad U :=
  ⟨va_K.moved hW.alike h.1, fun w hw => s_nst_warm hW hw (h.2.1 w hw), va_AO.moved hW.alike h.2.2.1, fun c hc q hq => by
    obtain ⟨tx, h4⟩ := h.2.2.2 c hc q hq
    exact ⟨tx, vk_R.warm hW h4⟩⟩
theorem s_V.same {dC : Nat → ClassId} {dI : Nat → Nat → Nat} {cA : Nat → ClassId} {ad : Nat → Nat} {s U : State} (hv : U.vm = s.vm) (h : s_V dC dI cA ad s) : s_V dC dI cA ad U := by
  have hk : s.vm.Alike U.vm := by rw [hv]; exact Vm.Alike.refl _
  refine ⟨va_K.moved hk h.1, ?_, va_AO.moved hk h.2.2.1, ?_⟩
  · intro w hw
    have h2 := (List.mem_filter.mp hw).2
    split at h2
    · exact va_Nw.same rfl hv.symm (h.2.1 _ hw)
    · cases h2
  · intro c hc q hq
    obtain ⟨tx, h4⟩ := h.2.2.2 c hc q hq
    exact ⟨tx, vk_R.same hv h4⟩
theorem s_E.move {ad : Nat → Nat} {base : Nat} {X : XT} {s U : State} (hv : s.vm.Alike U.vm) (hq : ∀ a : Nat, a < s.heap.size → ¬ s_A base a → U.heap[a]? = s.heap[a]?) (h : s_E ad base X s) : s_E ad base X U := by
  obtain ⟨h1, h2, h3, h4, h5, h6, h7, h8⟩ := h
  refine ⟨?_, h2, h3, (h4.kept hq).moved hv, (h5.kept hq).moved hv, (h6.kept hq).moved hv, (h7.kept hq).moved hv, fun i hi => ⟨((h8 i hi).1.kept hq).moved hv, ((h8 i hi).2.1.kept hq).moved hv, ((h8 i hi).2.2.1.kept hq).moved hv, ((h8 i hi).2.2.2.kept hq).moved hv⟩⟩
  obtain ⟨scr, g1, g2⟩ := h1
  exact va_X.moved hv ⟨scr, (hq _ (Array.getElem?_eq_some_iff.mp g1).1 (fun z => Nat.not_le.mpr h2 z)).trans g1, g2⟩
/-- the locals -/
def s_prs (ad : Nat → Nat) (ls : LT) : List (Nat × Value) := (List.range ls.length).filterMap fun i => match ls[i]? with
  | some (some v) => some (i, s_con ad v)
  | _ => none
theorem s_prs_mem {ad : Nat → Nat} {ls : LT} {q : Nat × Value} : q ∈ s_prs ad ls ↔ ∃ v, ls[q.1]? = some (some v) ∧ q.2 = s_con ad v := by
  unfold s_prs
  rw [List.mem_filterMap]
  constructor
  · rintro ⟨i, hi, h⟩
    split at h
    · rename_i v e
      cases h
      exact ⟨v, e, rfl⟩
    · cases h
  · rintro ⟨v, h1, h2⟩
    refine ⟨q.1, List.mem_range.mpr (List.getElem?_eq_some_iff.mp h1).1, ?_⟩
    rw [h1]
    show some (q.1, s_con ad v) = some q
    rw [← h2]
theorem s_has_mono {ls : Array Slot} {n : Nat} {l l' : List (Nat × Value)} (h : lv_has ls n l) (hl : ∀ q ∈ l', q ∈ l) : lv_has ls n l' := ⟨h.1, h.2.1, fun q hq => h.2.2 q (hl q hq)⟩
theorem s_has_at {ad : Nat → Nat} {ls : LT} {lsx : Array Slot} {n i : Nat} {v : Value} (h : lv_has lsx n (s_prs ad ls)) (hv : ls[i]? = some (some v)) : lsx[i]? = some (.val (s_con ad v)) := h.2.2 (i, s_con ad v) (s_prs_mem.mpr ⟨v, hv, rfl⟩)
theorem s_con_cat (ad : Nat → Nat) (v : Value) : (s_con ad v).category = v.category := by
  unfold s_con
  split
  · rfl
  · rfl
  · unfold s_fv
    split <;> rfl
  · rfl
theorem s_cat_nl {ls : LT} {k : Nat} {v : Value} (h : m_nl ls[k]? = true) (hv : ls[k]? = some (some v)) : ¬ v.category = 2 := by
  rw [hv] at h
  cases v <;> first | (cases h; done) | (intro z; cases z)
theorem s_pl_nl {ls : LT} {i k : Nat} {v : Value} (h : m_pl ls i = true) (hk : k + 1 = i) (hv : ls[k]? = some (some v)) : ¬ v.category = 2 := by
  subst hk
  exact s_cat_nl h hv
