/-! THE JVM DOES WHAT THE SMALL MACHINE DOES: an instruction a row -/
theorem i_ck {b : Bool} {a : AT} {r} (h : m_ck b a = some r) : b = true ∧ a = some r := by
  unfold m_ck at h
  split at h
  · rename_i e
    exact ⟨e, h⟩
  · cases h
theorem i_op {α : Type} {o : Option α} {f : α → AT} {r} (h : m_op o f = some r) : ∃ x, o = some x ∧ f x = some r := by
  unfold m_op at h
  split at h
  · exact ⟨_, rfl, h⟩
  · cases h
theorem i_1I {st : List Value} {f : Int32 → List Value → AT} {r} (h : m_1I st f = some r) : ∃ a t, st = .int a :: t ∧ f a t = some r := by
  unfold m_1I at h
  split at h
  · exact ⟨_, _, rfl, h⟩
  · cases h
theorem i_1L {st : List Value} {f : Int64 → List Value → AT} {r} (h : m_1L st f = some r) : ∃ a t, st = .long a :: t ∧ f a t = some r := by
  unfold m_1L at h
  split at h
  · exact ⟨_, _, rfl, h⟩
  · cases h
theorem i_1R {st : List Value} {f : Nat → List Value → AT} {r} (h : m_1R st f = some r) : ∃ a t, st = .ref (a + 1) :: t ∧ f (a + 1) t = some r := by
  unfold m_1R at h
  split at h
  · exact ⟨_, _, rfl, h⟩
  · cases h
theorem i_2I {st : List Value} {f : Int32 → Int32 → List Value → AT} {r} (h : m_2I st f = some r) : ∃ a b t, st = .int b :: .int a :: t ∧ f a b t = some r := by
  obtain ⟨b, t, e, h⟩ := i_1I h
  obtain ⟨a, t2, e2, h⟩ := i_1I h
  exact ⟨a, b, t2, by rw [e, e2], h⟩
theorem i_2L {st : List Value} {f : Int64 → Int64 → List Value → AT} {r} (h : m_2L st f = some r) : ∃ a b t, st = .long b :: .long a :: t ∧ f a b t = some r := by
  obtain ⟨b, t, e, h⟩ := i_1L h
  obtain ⟨a, t2, e2, h⟩ := i_1L h
  exact ⟨a, b, t2, by rw [e, e2], h⟩
theorem i_lI {ls : LT} {i : Nat} {f : Int32 → AT} {r} (h : m_lI ls i f = some r) : ∃ a, ls[i]? = some (some (.int a)) ∧ f a = some r := by
  unfold m_lI at h
  split at h
  · exact ⟨_, by assumption, h⟩
  · cases h
theorem i_lL {ls : LT} {i : Nat} {f : Int64 → AT} {r} (h : m_lL ls i f = some r) : ∃ a, ls[i]? = some (some (.long a)) ∧ f a = some r := by
  unfold m_lL at h
  split at h
  · exact ⟨_, by assumption, h⟩
  · cases h
theorem i_0R {st : List Value} {f : Nat → List Value → AT} {r} (h : m_0R st f = some r) : ∃ a t, st = .ref a :: t ∧ f a t = some r := by
  unfold m_0R at h
  split at h
  · exact ⟨_, _, rfl, h⟩
  · cases h
theorem i_lR {ls : LT} {i : Nat} {f : Nat → AT} {r} (h : m_lR ls i f = some r) : ∃ a, ls[i]? = some (some (.ref a)) ∧ f a = some r := by
  unfold m_lR at h
  split at h
  · exact ⟨_, by assumption, h⟩
  · cases h
theorem i_s1 {ls : LT} {i : Nat} {v : Value} {f : LT → AT} {nL : Nat} {r} (h : m_s1 nL ls i v f = some r) : i < nL ∧ m_pl ls i = true ∧ f (ls.set i (some v)) = some r := by
  unfold m_s1 at h
  split at h
  · rename_i e
    simp only [Bool.and_eq_true] at e
    exact ⟨Nat.blt_eq.mp e.1, e.2, h⟩
  · cases h
theorem i_s2 {ls : LT} {i : Nat} {v : Value} {f : LT → AT} {nL : Nat} {r} (h : m_s2 nL ls i v f = some r) : i + 1 < nL ∧ m_pl ls i = true ∧ f ((ls.set i (some v)).set (i + 1) none) = some r := by
  unfold m_s2 at h
  split at h
  · rename_i e
    simp only [Bool.and_eq_true] at e
    exact ⟨Nat.blt_eq.mp e.1, e.2, h⟩
  · cases h
theorem i_in {j : Int32} {n : Nat} (h : m_in j n = true) : vp_in j n := by
  unfold m_in at h
  simp only [Bool.and_eq_true, Bool.not_eq_true', decide_eq_false_iff_not] at h
  intro z
  rcases z with z | z
  · exact h.1 z
  · have := Nat.blt_eq.mp h.2
    omega
theorem i_beq {a b : Nat} (h : (a == b) = true) : a = b := by simpa using h
theorem i_n {a b : Nat} (h : Nat.beq a b = true) : a = b := Nat.eq_of_beq_eq_true h
theorem i_set {ls : LT} {i j : Nat} {v : Option Value} {w : Value} (h : (ls.set i v)[j]? = some (some w)) : (j = i ∧ v = some w) ∨ (j ≠ i ∧ ls[j]? = some (some w)) := by
  rw [List.getElem?_set] at h
  split at h
  · rename_i e
    split at h
    · exact Or.inl ⟨e.symm, Option.some.inj h⟩
    · cases h
  · rename_i e
    exact Or.inr ⟨fun z => e z.symm, h⟩
theorem i_st1 {ad : Nat → Nat} {ls : LT} {i : Nat} {v : Value} (hp : m_pl ls i = true) : ∀ q ∈ s_prs ad (ls.set i (some v)), q ∈ (i, s_con ad v) :: (s_prs ad ls).filter (fun q => !(q.1 == i) && !(q.1 + 1 == i && q.2.category == 2)) := by
  intro q hq
  obtain ⟨w, h1, h2⟩ := s_prs_mem.mp hq
  rcases i_set h1 with ⟨e, ev⟩ | ⟨e, h1⟩
  · cases ev
    refine List.mem_cons.mpr (Or.inl ?_)
    rw [← h2, ← e]
  · refine List.mem_cons.mpr (Or.inr (List.mem_filter.mpr ⟨s_prs_mem.mpr ⟨w, h1, h2⟩, ?_⟩))
    have e2 : (q.1 == i) = false := by simpa using e
    rw [e2]
    by_cases e3 : q.1 + 1 = i
    · have := s_pl_nl hp e3 h1
      rw [h2, s_con_cat]
      have e4 : (w.category == 2) = false := by simpa using this
      rw [e4]
      simp
    · have e4 : (q.1 + 1 == i) = false := by simpa using e3
      rw [e4]
      rfl
theorem i_st2 {ad : Nat → Nat} {ls : LT} {i : Nat} {v : Value} (hp : m_pl ls i = true) : ∀ q ∈ s_prs ad ((ls.set i (some v)).set (i + 1) none), q ∈ (i, s_con ad v) :: (s_prs ad ls).filter (fun q => !(q.1 == i) && (!(q.1 == i + 1) && !(q.1 + 1 == i && q.2.category == 2))) := by
  intro q hq
  obtain ⟨w, h1, h2⟩ := s_prs_mem.mp hq
  rcases i_set h1 with ⟨-, ev⟩ | ⟨e0, h1⟩
  · cases ev
  · rcases i_set h1 with ⟨e, ev⟩ | ⟨e, h1⟩
    · cases ev
      refine List.mem_cons.mpr (Or.inl ?_)
      rw [← h2, ← e]
    · refine List.mem_cons.mpr (Or.inr (List.mem_filter.mpr ⟨s_prs_mem.mpr ⟨w, h1, h2⟩, ?_⟩))
      have e2 : (q.1 == i) = false := by simpa using e
      have e5 : (q.1 == i + 1) = false := by simpa using e0
      rw [e2, e5]
      by_cases e3 : q.1 + 1 = i
      · have := s_pl_nl hp e3 h1
        rw [h2, s_con_cat]
        have e4 : (w.category == 2) = false := by simpa using this
        rw [e4]
        simp
      · have e4 : (q.1 + 1 == i) = false := by simpa using e3
        rw [e4]
        rfl
/-- what holds at a method's entry -/
def s_F (dC : Nat → ClassId) (dI : Nat → Nat → Nat) (cA : Nat → ClassId) (ad : Nat → Nat) (base : Nat) (X : XT) (M d k0 : Nat) (p : Program) (R : Room) (s : State) (m : MethodId) (args : Array Value) (meth : Method) (c : Code) : Prop :=
  p.tables.exec = Jvm.exec ∧ c.code = m_bts M ∧ c.maxLocals = m_ml M ∧ s.vm.findClass (m_cn (m_own M)) = some m.cls ∧ (∀ w ∈ s_TB, w.before args s = true) ∧ s_V dC dI cA ad s ∧ s_E ad base X s ∧ ((m_nm M).name = "<init>" → meth.name = "<init>") ∧ s_ad ad base ∧ s.heap.size = base + k0 ∧ d + 1 ≤ R.frames ∧ 64 * (d + 1) ≤ R.locals
/-- from here the JVM comes to Q, whatever holds the small machine's state -/
def s_W (dC : Nat → ClassId) (dI : Nat → Nat → Nat) (cA : Nat → ClassId) (ad : Nat → Nat) (base : Nat) (M k0 s0 : Nat) (p : Program) (l : Launch) (e : Env) (R : Room) (s : State) (m : MethodId) (args : Array Value) (below : List Frame) (meth : Method) (c : Code) (Q : State → Prop) (pc : Nat) (ls : LT) (st : List Value) (K : KT) (h : HT) : Prop :=
  ∀ (H : Heap) (locs : List Loc) (cells slots : Nat) (lsx : Array Slot), s_H dC dI cA ad K h H → va_S (s_A base) s.heap H locs → lv_has lsx (m_ml M) (s_prs ad ls) → cells + k0 = K.length → slots + s0 = m_sl K → W p l e R s m args below meth c H locs cells slots Q (F0 m pc lsx (st.map (s_con ad)))
section SI
variable {dC : Nat → ClassId} {dI : Nat → Nat → Nat} {cA : Nat → ClassId} {ad : Nat → Nat} {base : Nat} {X : XT} {M d k0 s0 : Nat} {p : Program} {l : Launch} {e : Env} {R : Room} {s : State} {m : MethodId} {args : Array Value} {below : List Frame} {meth : Method} {c : Code} {Q : State → Prop}
variable {pc n : Nat} {ls : LT} {st : List Value} {K : KT} {h : HT} {q : Nat × LT × List Value × KT × HT}
theorem sn_iadd (F : s_F dC dI cA ad base X M d k0 p R s m args meth c) (hd : decode (m_bts M) pc = .ok (.iadd, n)) (ha0 : m_act X M pc (.iadd) n ls st K h = some (.inl q)) (kk : s_W dC dI cA ad base M k0 s0 p l e R s m args below meth c Q q.1 q.2.1 q.2.2.1 q.2.2.2.1 q.2.2.2.2) : s_W dC dI cA ad base M k0 s0 p l e R s m args below meth c Q pc ls st K h := by
  obtain ⟨hx, hb, hml, -⟩ := F
  intro H locs cells slots lsx hH hS hl hc hs
  obtain ⟨hn, ha1⟩ := i_ck ha0
  clear ha0
  have hn := i_beq hn
  subst hn
  obtain ⟨a, b, t, rfl, ha2⟩ := i_2I ha1
  cases ha2
  exact lv_iadd hx hb hd (kk H locs cells slots lsx hH hS hl hc hs)
theorem sn_isub (F : s_F dC dI cA ad base X M d k0 p R s m args meth c) (hd : decode (m_bts M) pc = .ok (.isub, n)) (ha0 : m_act X M pc (.isub) n ls st K h = some (.inl q)) (kk : s_W dC dI cA ad base M k0 s0 p l e R s m args below meth c Q q.1 q.2.1 q.2.2.1 q.2.2.2.1 q.2.2.2.2) : s_W dC dI cA ad base M k0 s0 p l e R s m args below meth c Q pc ls st K h := by
  obtain ⟨hx, hb, hml, -⟩ := F
  intro H locs cells slots lsx hH hS hl hc hs
  obtain ⟨hn, ha1⟩ := i_ck ha0
  clear ha0
  have hn := i_beq hn
  subst hn
  obtain ⟨a, b, t, rfl, ha2⟩ := i_2I ha1
  cases ha2
  exact lv_isub hx hb hd (kk H locs cells slots lsx hH hS hl hc hs)
theorem sn_imul (F : s_F dC dI cA ad base X M d k0 p R s m args meth c) (hd : decode (m_bts M) pc = .ok (.imul, n)) (ha0 : m_act X M pc (.imul) n ls st K h = some (.inl q)) (kk : s_W dC dI cA ad base M k0 s0 p l e R s m args below meth c Q q.1 q.2.1 q.2.2.1 q.2.2.2.1 q.2.2.2.2) : s_W dC dI cA ad base M k0 s0 p l e R s m args below meth c Q pc ls st K h := by
  obtain ⟨hx, hb, hml, -⟩ := F
  intro H locs cells slots lsx hH hS hl hc hs
  obtain ⟨hn, ha1⟩ := i_ck ha0
  clear ha0
  have hn := i_beq hn
  subst hn
  obtain ⟨a, b, t, rfl, ha2⟩ := i_2I ha1
  cases ha2
  exact lv_imul hx hb hd (kk H locs cells slots lsx hH hS hl hc hs)
theorem sn_iand (F : s_F dC dI cA ad base X M d k0 p R s m args meth c) (hd : decode (m_bts M) pc = .ok (.iand, n)) (ha0 : m_act X M pc (.iand) n ls st K h = some (.inl q)) (kk : s_W dC dI cA ad base M k0 s0 p l e R s m args below meth c Q q.1 q.2.1 q.2.2.1 q.2.2.2.1 q.2.2.2.2) : s_W dC dI cA ad base M k0 s0 p l e R s m args below meth c Q pc ls st K h := by
  obtain ⟨hx, hb, hml, -⟩ := F
  intro H locs cells slots lsx hH hS hl hc hs
  obtain ⟨hn, ha1⟩ := i_ck ha0
  clear ha0
  have hn := i_beq hn
  subst hn
  obtain ⟨a, b, t, rfl, ha2⟩ := i_2I ha1
  cases ha2
  exact lv_iand hx hb hd (kk H locs cells slots lsx hH hS hl hc hs)
theorem sn_ior (F : s_F dC dI cA ad base X M d k0 p R s m args meth c) (hd : decode (m_bts M) pc = .ok (.ior, n)) (ha0 : m_act X M pc (.ior) n ls st K h = some (.inl q)) (kk : s_W dC dI cA ad base M k0 s0 p l e R s m args below meth c Q q.1 q.2.1 q.2.2.1 q.2.2.2.1 q.2.2.2.2) : s_W dC dI cA ad base M k0 s0 p l e R s m args below meth c Q pc ls st K h := by
  obtain ⟨hx, hb, hml, -⟩ := F
  intro H locs cells slots lsx hH hS hl hc hs
  obtain ⟨hn, ha1⟩ := i_ck ha0
  clear ha0
  have hn := i_beq hn
  subst hn
  obtain ⟨a, b, t, rfl, ha2⟩ := i_2I ha1
  cases ha2
  exact lv_ior hx hb hd (kk H locs cells slots lsx hH hS hl hc hs)
theorem sn_ixor (F : s_F dC dI cA ad base X M d k0 p R s m args meth c) (hd : decode (m_bts M) pc = .ok (.ixor, n)) (ha0 : m_act X M pc (.ixor) n ls st K h = some (.inl q)) (kk : s_W dC dI cA ad base M k0 s0 p l e R s m args below meth c Q q.1 q.2.1 q.2.2.1 q.2.2.2.1 q.2.2.2.2) : s_W dC dI cA ad base M k0 s0 p l e R s m args below meth c Q pc ls st K h := by
  obtain ⟨hx, hb, hml, -⟩ := F
  intro H locs cells slots lsx hH hS hl hc hs
  obtain ⟨hn, ha1⟩ := i_ck ha0
  clear ha0
  have hn := i_beq hn
  subst hn
  obtain ⟨a, b, t, rfl, ha2⟩ := i_2I ha1
  cases ha2
  exact lv_ixor hx hb hd (kk H locs cells slots lsx hH hS hl hc hs)
theorem sn_ishl (F : s_F dC dI cA ad base X M d k0 p R s m args meth c) (hd : decode (m_bts M) pc = .ok (.ishl, n)) (ha0 : m_act X M pc (.ishl) n ls st K h = some (.inl q)) (kk : s_W dC dI cA ad base M k0 s0 p l e R s m args below meth c Q q.1 q.2.1 q.2.2.1 q.2.2.2.1 q.2.2.2.2) : s_W dC dI cA ad base M k0 s0 p l e R s m args below meth c Q pc ls st K h := by
  obtain ⟨hx, hb, hml, -⟩ := F
  intro H locs cells slots lsx hH hS hl hc hs
  obtain ⟨hn, ha1⟩ := i_ck ha0
  clear ha0
  have hn := i_beq hn
  subst hn
  obtain ⟨a, b, t, rfl, ha2⟩ := i_2I ha1
  cases ha2
  exact lv_ishl hx hb hd (kk H locs cells slots lsx hH hS hl hc hs)
theorem sn_ishr (F : s_F dC dI cA ad base X M d k0 p R s m args meth c) (hd : decode (m_bts M) pc = .ok (.ishr, n)) (ha0 : m_act X M pc (.ishr) n ls st K h = some (.inl q)) (kk : s_W dC dI cA ad base M k0 s0 p l e R s m args below meth c Q q.1 q.2.1 q.2.2.1 q.2.2.2.1 q.2.2.2.2) : s_W dC dI cA ad base M k0 s0 p l e R s m args below meth c Q pc ls st K h := by
  obtain ⟨hx, hb, hml, -⟩ := F
  intro H locs cells slots lsx hH hS hl hc hs
  obtain ⟨hn, ha1⟩ := i_ck ha0
  clear ha0
  have hn := i_beq hn
  subst hn
  obtain ⟨a, b, t, rfl, ha2⟩ := i_2I ha1
  cases ha2
  exact lv_ishr hx hb hd (kk H locs cells slots lsx hH hS hl hc hs)
theorem sn_iushr (F : s_F dC dI cA ad base X M d k0 p R s m args meth c) (hd : decode (m_bts M) pc = .ok (.iushr, n)) (ha0 : m_act X M pc (.iushr) n ls st K h = some (.inl q)) (kk : s_W dC dI cA ad base M k0 s0 p l e R s m args below meth c Q q.1 q.2.1 q.2.2.1 q.2.2.2.1 q.2.2.2.2) : s_W dC dI cA ad base M k0 s0 p l e R s m args below meth c Q pc ls st K h := by
  obtain ⟨hx, hb, hml, -⟩ := F
  intro H locs cells slots lsx hH hS hl hc hs
  obtain ⟨hn, ha1⟩ := i_ck ha0
  clear ha0
  have hn := i_beq hn
  subst hn
  obtain ⟨a, b, t, rfl, ha2⟩ := i_2I ha1
  cases ha2
  exact lv_iushr hx hb hd rfl (kk H locs cells slots lsx hH hS hl hc hs)
theorem sn_ladd (F : s_F dC dI cA ad base X M d k0 p R s m args meth c) (hd : decode (m_bts M) pc = .ok (.ladd, n)) (ha0 : m_act X M pc (.ladd) n ls st K h = some (.inl q)) (kk : s_W dC dI cA ad base M k0 s0 p l e R s m args below meth c Q q.1 q.2.1 q.2.2.1 q.2.2.2.1 q.2.2.2.2) : s_W dC dI cA ad base M k0 s0 p l e R s m args below meth c Q pc ls st K h := by
  obtain ⟨hx, hb, hml, -⟩ := F
  intro H locs cells slots lsx hH hS hl hc hs
  obtain ⟨hn, ha1⟩ := i_ck ha0
  clear ha0
  have hn := i_beq hn
  subst hn
  obtain ⟨a, b, t, rfl, ha2⟩ := i_2L ha1
  cases ha2
  exact lv_ladd hx hb hd (kk H locs cells slots lsx hH hS hl hc hs)
theorem sn_lsub (F : s_F dC dI cA ad base X M d k0 p R s m args meth c) (hd : decode (m_bts M) pc = .ok (.lsub, n)) (ha0 : m_act X M pc (.lsub) n ls st K h = some (.inl q)) (kk : s_W dC dI cA ad base M k0 s0 p l e R s m args below meth c Q q.1 q.2.1 q.2.2.1 q.2.2.2.1 q.2.2.2.2) : s_W dC dI cA ad base M k0 s0 p l e R s m args below meth c Q pc ls st K h := by
  obtain ⟨hx, hb, hml, -⟩ := F
  intro H locs cells slots lsx hH hS hl hc hs
  obtain ⟨hn, ha1⟩ := i_ck ha0
  clear ha0
  have hn := i_beq hn
  subst hn
  obtain ⟨a, b, t, rfl, ha2⟩ := i_2L ha1
  cases ha2
  exact lv_lsub hx hb hd (kk H locs cells slots lsx hH hS hl hc hs)
theorem sn_lmul (F : s_F dC dI cA ad base X M d k0 p R s m args meth c) (hd : decode (m_bts M) pc = .ok (.lmul, n)) (ha0 : m_act X M pc (.lmul) n ls st K h = some (.inl q)) (kk : s_W dC dI cA ad base M k0 s0 p l e R s m args below meth c Q q.1 q.2.1 q.2.2.1 q.2.2.2.1 q.2.2.2.2) : s_W dC dI cA ad base M k0 s0 p l e R s m args below meth c Q pc ls st K h := by
  obtain ⟨hx, hb, hml, -⟩ := F
  intro H locs cells slots lsx hH hS hl hc hs
  obtain ⟨hn, ha1⟩ := i_ck ha0
  clear ha0
  have hn := i_beq hn
  subst hn
  obtain ⟨a, b, t, rfl, ha2⟩ := i_2L ha1
  cases ha2
  exact lv_lmul hx hb hd (kk H locs cells slots lsx hH hS hl hc hs)
theorem sn_lor (F : s_F dC dI cA ad base X M d k0 p R s m args meth c) (hd : decode (m_bts M) pc = .ok (.lor, n)) (ha0 : m_act X M pc (.lor) n ls st K h = some (.inl q)) (kk : s_W dC dI cA ad base M k0 s0 p l e R s m args below meth c Q q.1 q.2.1 q.2.2.1 q.2.2.2.1 q.2.2.2.2) : s_W dC dI cA ad base M k0 s0 p l e R s m args below meth c Q pc ls st K h := by
  obtain ⟨hx, hb, hml, -⟩ := F
  intro H locs cells slots lsx hH hS hl hc hs
  obtain ⟨hn, ha1⟩ := i_ck ha0
  clear ha0
  have hn := i_beq hn
  subst hn
  obtain ⟨a, b, t, rfl, ha2⟩ := i_2L ha1
  cases ha2
  exact lv_lor hx hb hd (kk H locs cells slots lsx hH hS hl hc hs)
theorem sn_land (F : s_F dC dI cA ad base X M d k0 p R s m args meth c) (hd : decode (m_bts M) pc = .ok (.land, n)) (ha0 : m_act X M pc (.land) n ls st K h = some (.inl q)) (kk : s_W dC dI cA ad base M k0 s0 p l e R s m args below meth c Q q.1 q.2.1 q.2.2.1 q.2.2.2.1 q.2.2.2.2) : s_W dC dI cA ad base M k0 s0 p l e R s m args below meth c Q pc ls st K h := by
  obtain ⟨hx, hb, hml, -⟩ := F
  intro H locs cells slots lsx hH hS hl hc hs
  obtain ⟨hn, ha1⟩ := i_ck ha0
  clear ha0
  have hn := i_beq hn
  subst hn
  obtain ⟨a, b, t, rfl, ha2⟩ := i_2L ha1
  cases ha2
  exact lv_land hx hb hd (kk H locs cells slots lsx hH hS hl hc hs)
theorem sn_lcmp (F : s_F dC dI cA ad base X M d k0 p R s m args meth c) (hd : decode (m_bts M) pc = .ok (.lcmp, n)) (ha0 : m_act X M pc (.lcmp) n ls st K h = some (.inl q)) (kk : s_W dC dI cA ad base M k0 s0 p l e R s m args below meth c Q q.1 q.2.1 q.2.2.1 q.2.2.2.1 q.2.2.2.2) : s_W dC dI cA ad base M k0 s0 p l e R s m args below meth c Q pc ls st K h := by
  obtain ⟨hx, hb, hml, -⟩ := F
  intro H locs cells slots lsx hH hS hl hc hs
  obtain ⟨hn, ha1⟩ := i_ck ha0
  clear ha0
  have hn := i_beq hn
  subst hn
  obtain ⟨a, b, t, rfl, ha2⟩ := i_2L ha1
  cases ha2
  exact W.lcmp hx hb hd (kk H locs cells slots lsx hH hS hl hc hs)
theorem sn_idiv (F : s_F dC dI cA ad base X M d k0 p R s m args meth c) (hd : decode (m_bts M) pc = .ok (.idiv, n)) (ha0 : m_act X M pc (.idiv) n ls st K h = some (.inl q)) (kk : s_W dC dI cA ad base M k0 s0 p l e R s m args below meth c Q q.1 q.2.1 q.2.2.1 q.2.2.2.1 q.2.2.2.2) : s_W dC dI cA ad base M k0 s0 p l e R s m args below meth c Q pc ls st K h := by
  obtain ⟨hx, hb, hml, -⟩ := F
  intro H locs cells slots lsx hH hS hl hc hs
  obtain ⟨hn, ha1⟩ := i_ck ha0
  clear ha0
  have hn := i_beq hn
  subst hn
  obtain ⟨a, b, t, rfl, ha2⟩ := i_2I ha1
  obtain ⟨hne, ha3⟩ := i_ck ha2
  cases ha3
  exact lv_idiv hx hb hd (by simpa using hne) (kk H locs cells slots lsx hH hS hl hc hs)
theorem sn_irem (F : s_F dC dI cA ad base X M d k0 p R s m args meth c) (hd : decode (m_bts M) pc = .ok (.irem, n)) (ha0 : m_act X M pc (.irem) n ls st K h = some (.inl q)) (kk : s_W dC dI cA ad base M k0 s0 p l e R s m args below meth c Q q.1 q.2.1 q.2.2.1 q.2.2.2.1 q.2.2.2.2) : s_W dC dI cA ad base M k0 s0 p l e R s m args below meth c Q pc ls st K h := by
  obtain ⟨hx, hb, hml, -⟩ := F
  intro H locs cells slots lsx hH hS hl hc hs
  obtain ⟨hn, ha1⟩ := i_ck ha0
  clear ha0
  have hn := i_beq hn
  subst hn
  obtain ⟨a, b, t, rfl, ha2⟩ := i_2I ha1
  obtain ⟨hne, ha3⟩ := i_ck ha2
  cases ha3
  exact lv_irem hx hb hd (by simpa using hne) (kk H locs cells slots lsx hH hS hl hc hs)
theorem sn_ineg (F : s_F dC dI cA ad base X M d k0 p R s m args meth c) (hd : decode (m_bts M) pc = .ok (.ineg, n)) (ha0 : m_act X M pc (.ineg) n ls st K h = some (.inl q)) (kk : s_W dC dI cA ad base M k0 s0 p l e R s m args below meth c Q q.1 q.2.1 q.2.2.1 q.2.2.2.1 q.2.2.2.2) : s_W dC dI cA ad base M k0 s0 p l e R s m args below meth c Q pc ls st K h := by
  obtain ⟨hx, hb, hml, -⟩ := F
  intro H locs cells slots lsx hH hS hl hc hs
  obtain ⟨hn, ha1⟩ := i_ck ha0
  clear ha0
  have hn := i_beq hn
  subst hn
  obtain ⟨a, t, rfl, ha2⟩ := i_1I ha1
  cases ha2
  exact lv_ineg hx hb hd (kk H locs cells slots lsx hH hS hl hc hs)
theorem sn_i2l (F : s_F dC dI cA ad base X M d k0 p R s m args meth c) (hd : decode (m_bts M) pc = .ok (.i2l, n)) (ha0 : m_act X M pc (.i2l) n ls st K h = some (.inl q)) (kk : s_W dC dI cA ad base M k0 s0 p l e R s m args below meth c Q q.1 q.2.1 q.2.2.1 q.2.2.2.1 q.2.2.2.2) : s_W dC dI cA ad base M k0 s0 p l e R s m args below meth c Q pc ls st K h := by
  obtain ⟨hx, hb, hml, -⟩ := F
  intro H locs cells slots lsx hH hS hl hc hs
  obtain ⟨hn, ha1⟩ := i_ck ha0
  clear ha0
  have hn := i_beq hn
  subst hn
  obtain ⟨a, t, rfl, ha2⟩ := i_1I ha1
  cases ha2
  exact lv_i2l hx hb hd rfl (kk H locs cells slots lsx hH hS hl hc hs)
theorem sn_l2i (F : s_F dC dI cA ad base X M d k0 p R s m args meth c) (hd : decode (m_bts M) pc = .ok (.l2i, n)) (ha0 : m_act X M pc (.l2i) n ls st K h = some (.inl q)) (kk : s_W dC dI cA ad base M k0 s0 p l e R s m args below meth c Q q.1 q.2.1 q.2.2.1 q.2.2.2.1 q.2.2.2.2) : s_W dC dI cA ad base M k0 s0 p l e R s m args below meth c Q pc ls st K h := by
  obtain ⟨hx, hb, hml, -⟩ := F
  intro H locs cells slots lsx hH hS hl hc hs
  obtain ⟨hn, ha1⟩ := i_ck ha0
  clear ha0
  have hn := i_beq hn
  subst hn
  obtain ⟨a, t, rfl, ha2⟩ := i_1L ha1
  cases ha2
  exact lv_l2i hx hb hd rfl (kk H locs cells slots lsx hH hS hl hc hs)
theorem sn_i2b (F : s_F dC dI cA ad base X M d k0 p R s m args meth c) (hd : decode (m_bts M) pc = .ok (.i2b, n)) (ha0 : m_act X M pc (.i2b) n ls st K h = some (.inl q)) (kk : s_W dC dI cA ad base M k0 s0 p l e R s m args below meth c Q q.1 q.2.1 q.2.2.1 q.2.2.2.1 q.2.2.2.2) : s_W dC dI cA ad base M k0 s0 p l e R s m args below meth c Q pc ls st K h := by
  obtain ⟨hx, hb, hml, -⟩ := F
  intro H locs cells slots lsx hH hS hl hc hs
  obtain ⟨hn, ha1⟩ := i_ck ha0
  clear ha0
  have hn := i_beq hn
  subst hn
  obtain ⟨a, t, rfl, ha2⟩ := i_1I ha1
  cases ha2
  exact lv_i2b hx hb hd rfl (kk H locs cells slots lsx hH hS hl hc hs)
theorem sn_i2c (F : s_F dC dI cA ad base X M d k0 p R s m args meth c) (hd : decode (m_bts M) pc = .ok (.i2c, n)) (ha0 : m_act X M pc (.i2c) n ls st K h = some (.inl q)) (kk : s_W dC dI cA ad base M k0 s0 p l e R s m args below meth c Q q.1 q.2.1 q.2.2.1 q.2.2.2.1 q.2.2.2.2) : s_W dC dI cA ad base M k0 s0 p l e R s m args below meth c Q pc ls st K h := by
  obtain ⟨hx, hb, hml, -⟩ := F
  intro H locs cells slots lsx hH hS hl hc hs
  obtain ⟨hn, ha1⟩ := i_ck ha0
  clear ha0
  have hn := i_beq hn
  subst hn
  obtain ⟨a, t, rfl, ha2⟩ := i_1I ha1
  cases ha2
  exact lv_i2c hx hb hd rfl (kk H locs cells slots lsx hH hS hl hc hs)
theorem sn_lshl (F : s_F dC dI cA ad base X M d k0 p R s m args meth c) (hd : decode (m_bts M) pc = .ok (.lshl, n)) (ha0 : m_act X M pc (.lshl) n ls st K h = some (.inl q)) (kk : s_W dC dI cA ad base M k0 s0 p l e R s m args below meth c Q q.1 q.2.1 q.2.2.1 q.2.2.2.1 q.2.2.2.2) : s_W dC dI cA ad base M k0 s0 p l e R s m args below meth c Q pc ls st K h := by
  obtain ⟨hx, hb, hml, -⟩ := F
  intro H locs cells slots lsx hH hS hl hc hs
  obtain ⟨hn, ha1⟩ := i_ck ha0
  clear ha0
  have hn := i_beq hn
  subst hn
  obtain ⟨b, t, rfl, ha2⟩ := i_1I ha1
  obtain ⟨a, t, rfl, ha3⟩ := i_1L ha2
  cases ha3
  exact lv_lshl hx hb hd rfl (kk H locs cells slots lsx hH hS hl hc hs)
theorem sn_lushr (F : s_F dC dI cA ad base X M d k0 p R s m args meth c) (hd : decode (m_bts M) pc = .ok (.lushr, n)) (ha0 : m_act X M pc (.lushr) n ls st K h = some (.inl q)) (kk : s_W dC dI cA ad base M k0 s0 p l e R s m args below meth c Q q.1 q.2.1 q.2.2.1 q.2.2.2.1 q.2.2.2.2) : s_W dC dI cA ad base M k0 s0 p l e R s m args below meth c Q pc ls st K h := by
  obtain ⟨hx, hb, hml, -⟩ := F
  intro H locs cells slots lsx hH hS hl hc hs
  obtain ⟨hn, ha1⟩ := i_ck ha0
  clear ha0
  have hn := i_beq hn
  subst hn
  obtain ⟨b, t, rfl, ha2⟩ := i_1I ha1
  obtain ⟨a, t, rfl, ha3⟩ := i_1L ha2
  cases ha3
  exact lv_lushr hx hb hd rfl (kk H locs cells slots lsx hH hS hl hc hs)
theorem sn_iconst {k : Int} (F : s_F dC dI cA ad base X M d k0 p R s m args meth c) (hd : decode (m_bts M) pc = .ok (.iconst k, n)) (ha0 : m_act X M pc (.iconst k) n ls st K h = some (.inl q)) (kk : s_W dC dI cA ad base M k0 s0 p l e R s m args below meth c Q q.1 q.2.1 q.2.2.1 q.2.2.2.1 q.2.2.2.2) : s_W dC dI cA ad base M k0 s0 p l e R s m args below meth c Q pc ls st K h := by
  obtain ⟨hx, hb, hml, -⟩ := F
  intro H locs cells slots lsx hH hS hl hc hs
  obtain ⟨hn, ha1⟩ := i_ck ha0
  clear ha0
  have hn := i_beq hn
  subst hn
  cases ha1
  exact lv_iconst hx hb hd rfl (kk H locs cells slots lsx hH hS hl hc hs)
theorem sn_bipush {k : Int} (F : s_F dC dI cA ad base X M d k0 p R s m args meth c) (hd : decode (m_bts M) pc = .ok (.bipush k, n)) (ha0 : m_act X M pc (.bipush k) n ls st K h = some (.inl q)) (kk : s_W dC dI cA ad base M k0 s0 p l e R s m args below meth c Q q.1 q.2.1 q.2.2.1 q.2.2.2.1 q.2.2.2.2) : s_W dC dI cA ad base M k0 s0 p l e R s m args below meth c Q pc ls st K h := by
  obtain ⟨hx, hb, hml, -⟩ := F
  intro H locs cells slots lsx hH hS hl hc hs
  obtain ⟨hn, ha1⟩ := i_ck ha0
  clear ha0
  have hn := i_beq hn
  subst hn
  cases ha1
  exact lv_bipush hx hb hd rfl (kk H locs cells slots lsx hH hS hl hc hs)
theorem sn_sipush {k : Int} (F : s_F dC dI cA ad base X M d k0 p R s m args meth c) (hd : decode (m_bts M) pc = .ok (.sipush k, n)) (ha0 : m_act X M pc (.sipush k) n ls st K h = some (.inl q)) (kk : s_W dC dI cA ad base M k0 s0 p l e R s m args below meth c Q q.1 q.2.1 q.2.2.1 q.2.2.2.1 q.2.2.2.2) : s_W dC dI cA ad base M k0 s0 p l e R s m args below meth c Q pc ls st K h := by
  obtain ⟨hx, hb, hml, -⟩ := F
  intro H locs cells slots lsx hH hS hl hc hs
  obtain ⟨hn, ha1⟩ := i_ck ha0
  clear ha0
  have hn := i_beq hn
  subst hn
  cases ha1
  exact lv_sipush hx hb hd rfl (kk H locs cells slots lsx hH hS hl hc hs)
theorem sn_lconst {k : Fin 2} (F : s_F dC dI cA ad base X M d k0 p R s m args meth c) (hd : decode (m_bts M) pc = .ok (.lconst k, n)) (ha0 : m_act X M pc (.lconst k) n ls st K h = some (.inl q)) (kk : s_W dC dI cA ad base M k0 s0 p l e R s m args below meth c Q q.1 q.2.1 q.2.2.1 q.2.2.2.1 q.2.2.2.2) : s_W dC dI cA ad base M k0 s0 p l e R s m args below meth c Q pc ls st K h := by
  obtain ⟨hx, hb, hml, -⟩ := F
  intro H locs cells slots lsx hH hS hl hc hs
  obtain ⟨hn, ha1⟩ := i_ck ha0
  clear ha0
  have hn := i_beq hn
  subst hn
  cases ha1
  exact lv_lconst hx hb hd rfl (kk H locs cells slots lsx hH hS hl hc hs)
theorem sn_iload_n {k : Fin 4} (F : s_F dC dI cA ad base X M d k0 p R s m args meth c) (hd : decode (m_bts M) pc = .ok (.iload_n k, n)) (ha0 : m_act X M pc (.iload_n k) n ls st K h = some (.inl q)) (kk : s_W dC dI cA ad base M k0 s0 p l e R s m args below meth c Q q.1 q.2.1 q.2.2.1 q.2.2.2.1 q.2.2.2.2) : s_W dC dI cA ad base M k0 s0 p l e R s m args below meth c Q pc ls st K h := by
  obtain ⟨hx, hb, hml, -⟩ := F
  intro H locs cells slots lsx hH hS hl hc hs
  obtain ⟨hn, ha1⟩ := i_ck ha0
  clear ha0
  have hn := i_beq hn
  subst hn
  obtain ⟨a, hv, ha2⟩ := i_lI ha1
  cases ha2
  exact lv_iload_n hx hb hd rfl (s_has_at hl hv) (kk H locs cells slots lsx hH hS hl hc hs)
theorem sn_iload {k : Nat} (F : s_F dC dI cA ad base X M d k0 p R s m args meth c) (hd : decode (m_bts M) pc = .ok (.iload k, n)) (ha0 : m_act X M pc (.iload k) n ls st K h = some (.inl q)) (kk : s_W dC dI cA ad base M k0 s0 p l e R s m args below meth c Q q.1 q.2.1 q.2.2.1 q.2.2.2.1 q.2.2.2.2) : s_W dC dI cA ad base M k0 s0 p l e R s m args below meth c Q pc ls st K h := by
  obtain ⟨hx, hb, hml, -⟩ := F
  intro H locs cells slots lsx hH hS hl hc hs
  obtain ⟨hn, ha1⟩ := i_ck ha0
  clear ha0
  have hn := i_beq hn
  subst hn
  obtain ⟨a, hv, ha2⟩ := i_lI ha1
  cases ha2
  exact lv_iload hx hb hd (s_has_at hl hv) (kk H locs cells slots lsx hH hS hl hc hs)
theorem sn_lload_n {k : Fin 4} (F : s_F dC dI cA ad base X M d k0 p R s m args meth c) (hd : decode (m_bts M) pc = .ok (.lload_n k, n)) (ha0 : m_act X M pc (.lload_n k) n ls st K h = some (.inl q)) (kk : s_W dC dI cA ad base M k0 s0 p l e R s m args below meth c Q q.1 q.2.1 q.2.2.1 q.2.2.2.1 q.2.2.2.2) : s_W dC dI cA ad base M k0 s0 p l e R s m args below meth c Q pc ls st K h := by
  obtain ⟨hx, hb, hml, -⟩ := F
  intro H locs cells slots lsx hH hS hl hc hs
  obtain ⟨hn, ha1⟩ := i_ck ha0
  clear ha0
  have hn := i_beq hn
  subst hn
  obtain ⟨a, hv, ha2⟩ := i_lL ha1
  cases ha2
  exact lv_lload_n hx hb hd rfl (s_has_at hl hv) (kk H locs cells slots lsx hH hS hl hc hs)
theorem sn_lload {k : Nat} (F : s_F dC dI cA ad base X M d k0 p R s m args meth c) (hd : decode (m_bts M) pc = .ok (.lload k, n)) (ha0 : m_act X M pc (.lload k) n ls st K h = some (.inl q)) (kk : s_W dC dI cA ad base M k0 s0 p l e R s m args below meth c Q q.1 q.2.1 q.2.2.1 q.2.2.2.1 q.2.2.2.2) : s_W dC dI cA ad base M k0 s0 p l e R s m args below meth c Q pc ls st K h := by
  obtain ⟨hx, hb, hml, -⟩ := F
  intro H locs cells slots lsx hH hS hl hc hs
  obtain ⟨hn, ha1⟩ := i_ck ha0
  clear ha0
  have hn := i_beq hn
  subst hn
  obtain ⟨a, hv, ha2⟩ := i_lL ha1
  cases ha2
  exact lv_lload hx hb hd (s_has_at hl hv) (kk H locs cells slots lsx hH hS hl hc hs)
theorem sn_aload_n {k : Fin 4} (F : s_F dC dI cA ad base X M d k0 p R s m args meth c) (hd : decode (m_bts M) pc = .ok (.aload_n k, n)) (ha0 : m_act X M pc (.aload_n k) n ls st K h = some (.inl q)) (kk : s_W dC dI cA ad base M k0 s0 p l e R s m args below meth c Q q.1 q.2.1 q.2.2.1 q.2.2.2.1 q.2.2.2.2) : s_W dC dI cA ad base M k0 s0 p l e R s m args below meth c Q pc ls st K h := by
  obtain ⟨hx, hb, hml, -⟩ := F
  intro H locs cells slots lsx hH hS hl hc hs
  obtain ⟨hn, ha1⟩ := i_ck ha0
  clear ha0
  have hn := i_beq hn
  subst hn
  obtain ⟨a, hv, ha2⟩ := i_lR ha1
  cases ha2
  cases a with
  | zero => exact lv_aload_nN hx hb hd rfl (s_has_at hl hv) (kk H locs cells slots lsx hH hS hl hc hs)
  | succ a => exact lv_aload_n hx hb hd rfl (s_has_at hl hv) (kk H locs cells slots lsx hH hS hl hc hs)
theorem sn_aload {k : Nat} (F : s_F dC dI cA ad base X M d k0 p R s m args meth c) (hd : decode (m_bts M) pc = .ok (.aload k, n)) (ha0 : m_act X M pc (.aload k) n ls st K h = some (.inl q)) (kk : s_W dC dI cA ad base M k0 s0 p l e R s m args below meth c Q q.1 q.2.1 q.2.2.1 q.2.2.2.1 q.2.2.2.2) : s_W dC dI cA ad base M k0 s0 p l e R s m args below meth c Q pc ls st K h := by
  obtain ⟨hx, hb, hml, -⟩ := F
  intro H locs cells slots lsx hH hS hl hc hs
  obtain ⟨hn, ha1⟩ := i_ck ha0
  clear ha0
  have hn := i_beq hn
  subst hn
  obtain ⟨a, hv, ha2⟩ := i_lR ha1
  cases ha2
  cases a with
  | zero => exact lv_aloadN hx hb hd (s_has_at hl hv) (kk H locs cells slots lsx hH hS hl hc hs)
  | succ a => exact lv_aload hx hb hd (s_has_at hl hv) (kk H locs cells slots lsx hH hS hl hc hs)
theorem sn_istore_n {k : Fin 4} (F : s_F dC dI cA ad base X M d k0 p R s m args meth c) (hd : decode (m_bts M) pc = .ok (.istore_n k, n)) (ha0 : m_act X M pc (.istore_n k) n ls st K h = some (.inl q)) (kk : s_W dC dI cA ad base M k0 s0 p l e R s m args below meth c Q q.1 q.2.1 q.2.2.1 q.2.2.2.1 q.2.2.2.2) : s_W dC dI cA ad base M k0 s0 p l e R s m args below meth c Q pc ls st K h := by
  obtain ⟨hx, hb, hml, -⟩ := F
  intro H locs cells slots lsx hH hS hl hc hs
  obtain ⟨hn, ha1⟩ := i_ck ha0
  clear ha0
  have hn := i_beq hn
  subst hn
  obtain ⟨a, t, rfl, ha2⟩ := i_1I ha1
  obtain ⟨hi, hp, ha3⟩ := i_s1 ha2
  cases ha3
  exact lv_istore_n hx hb hd rfl hl hi rfl (fun ls' hl' => kk H locs cells slots ls' hH hS (s_has_mono hl' (i_st1 hp)) hc hs)
theorem sn_istore {k : Nat} (F : s_F dC dI cA ad base X M d k0 p R s m args meth c) (hd : decode (m_bts M) pc = .ok (.istore k, n)) (ha0 : m_act X M pc (.istore k) n ls st K h = some (.inl q)) (kk : s_W dC dI cA ad base M k0 s0 p l e R s m args below meth c Q q.1 q.2.1 q.2.2.1 q.2.2.2.1 q.2.2.2.2) : s_W dC dI cA ad base M k0 s0 p l e R s m args below meth c Q pc ls st K h := by
  obtain ⟨hx, hb, hml, -⟩ := F
  intro H locs cells slots lsx hH hS hl hc hs
  obtain ⟨hn, ha1⟩ := i_ck ha0
  clear ha0
  have hn := i_beq hn
  subst hn
  obtain ⟨a, t, rfl, ha2⟩ := i_1I ha1
  obtain ⟨hi, hp, ha3⟩ := i_s1 ha2
  cases ha3
  exact lv_istore hx hb hd hl hi rfl (fun ls' hl' => kk H locs cells slots ls' hH hS (s_has_mono hl' (i_st1 hp)) hc hs)
theorem sn_astore_n {k : Fin 4} (F : s_F dC dI cA ad base X M d k0 p R s m args meth c) (hd : decode (m_bts M) pc = .ok (.astore_n k, n)) (ha0 : m_act X M pc (.astore_n k) n ls st K h = some (.inl q)) (kk : s_W dC dI cA ad base M k0 s0 p l e R s m args below meth c Q q.1 q.2.1 q.2.2.1 q.2.2.2.1 q.2.2.2.2) : s_W dC dI cA ad base M k0 s0 p l e R s m args below meth c Q pc ls st K h := by
  obtain ⟨hx, hb, hml, -⟩ := F
  intro H locs cells slots lsx hH hS hl hc hs
  obtain ⟨hn, ha1⟩ := i_ck ha0
  clear ha0
  have hn := i_beq hn
  subst hn
  obtain ⟨a, t, rfl, ha2⟩ := i_0R ha1
  obtain ⟨hi, hp, ha3⟩ := i_s1 ha2
  cases ha3
  cases a with
  | zero => exact lv_astore_nN hx hb hd rfl hl hi rfl (fun ls' hl' => kk H locs cells slots ls' hH hS (s_has_mono hl' (i_st1 hp)) hc hs)
  | succ a => exact lv_astore_n hx hb hd rfl hl hi rfl (fun ls' hl' => kk H locs cells slots ls' hH hS (s_has_mono hl' (i_st1 hp)) hc hs)
theorem sn_astore {k : Nat} (F : s_F dC dI cA ad base X M d k0 p R s m args meth c) (hd : decode (m_bts M) pc = .ok (.astore k, n)) (ha0 : m_act X M pc (.astore k) n ls st K h = some (.inl q)) (kk : s_W dC dI cA ad base M k0 s0 p l e R s m args below meth c Q q.1 q.2.1 q.2.2.1 q.2.2.2.1 q.2.2.2.2) : s_W dC dI cA ad base M k0 s0 p l e R s m args below meth c Q pc ls st K h := by
  obtain ⟨hx, hb, hml, -⟩ := F
  intro H locs cells slots lsx hH hS hl hc hs
  obtain ⟨hn, ha1⟩ := i_ck ha0
  clear ha0
  have hn := i_beq hn
  subst hn
  obtain ⟨a, t, rfl, ha2⟩ := i_0R ha1
  obtain ⟨hi, hp, ha3⟩ := i_s1 ha2
  cases ha3
  cases a with
  | zero => exact lv_astoreN hx hb hd hl hi rfl (fun ls' hl' => kk H locs cells slots ls' hH hS (s_has_mono hl' (i_st1 hp)) hc hs)
  | succ a => exact lv_astore hx hb hd hl hi rfl (fun ls' hl' => kk H locs cells slots ls' hH hS (s_has_mono hl' (i_st1 hp)) hc hs)
theorem sn_lstore_n {k : Fin 4} (F : s_F dC dI cA ad base X M d k0 p R s m args meth c) (hd : decode (m_bts M) pc = .ok (.lstore_n k, n)) (ha0 : m_act X M pc (.lstore_n k) n ls st K h = some (.inl q)) (kk : s_W dC dI cA ad base M k0 s0 p l e R s m args below meth c Q q.1 q.2.1 q.2.2.1 q.2.2.2.1 q.2.2.2.2) : s_W dC dI cA ad base M k0 s0 p l e R s m args below meth c Q pc ls st K h := by
  obtain ⟨hx, hb, hml, -⟩ := F
  intro H locs cells slots lsx hH hS hl hc hs
  obtain ⟨hn, ha1⟩ := i_ck ha0
  clear ha0
  have hn := i_beq hn
  subst hn
  obtain ⟨a, t, rfl, ha2⟩ := i_1L ha1
  obtain ⟨hi, hp, ha3⟩ := i_s2 ha2
  cases ha3
  exact lv_lstore_n hx hb hd rfl hl hi rfl (fun ls' hl' => kk H locs cells slots ls' hH hS (s_has_mono hl' (i_st2 hp)) hc hs)
theorem sn_lstore {k : Nat} (F : s_F dC dI cA ad base X M d k0 p R s m args meth c) (hd : decode (m_bts M) pc = .ok (.lstore k, n)) (ha0 : m_act X M pc (.lstore k) n ls st K h = some (.inl q)) (kk : s_W dC dI cA ad base M k0 s0 p l e R s m args below meth c Q q.1 q.2.1 q.2.2.1 q.2.2.2.1 q.2.2.2.2) : s_W dC dI cA ad base M k0 s0 p l e R s m args below meth c Q pc ls st K h := by
  obtain ⟨hx, hb, hml, -⟩ := F
  intro H locs cells slots lsx hH hS hl hc hs
  obtain ⟨hn, ha1⟩ := i_ck ha0
  clear ha0
  have hn := i_beq hn
  subst hn
  obtain ⟨a, t, rfl, ha2⟩ := i_1L ha1
  obtain ⟨hi, hp, ha3⟩ := i_s2 ha2
  cases ha3
  exact lv_lstore hx hb hd hl hi rfl (fun ls' hl' => kk H locs cells slots ls' hH hS (s_has_mono hl' (i_st2 hp)) hc hs)
theorem sn_iinc {k : Nat} {z : Int} (F : s_F dC dI cA ad base X M d k0 p R s m args meth c) (hd : decode (m_bts M) pc = .ok (.iinc k z, n)) (ha0 : m_act X M pc (.iinc k z) n ls st K h = some (.inl q)) (kk : s_W dC dI cA ad base M k0 s0 p l e R s m args below meth c Q q.1 q.2.1 q.2.2.1 q.2.2.2.1 q.2.2.2.2) : s_W dC dI cA ad base M k0 s0 p l e R s m args below meth c Q pc ls st K h := by
  obtain ⟨hx, hb, hml, -⟩ := F
  intro H locs cells slots lsx hH hS hl hc hs
  obtain ⟨hn, ha1⟩ := i_ck ha0
  clear ha0
  have hn := i_beq hn
  subst hn
  obtain ⟨a, hv, ha2⟩ := i_lI ha1
  obtain ⟨hi, hp, ha3⟩ := i_s1 ha2
  cases ha3
  obtain ⟨i9, h9⟩ := List.getElem?_of_mem (s_prs_mem (ad := ad) (q := (k, Value.int a)).mpr ⟨_, hv, rfl⟩)
  exact lv_iinc hx hb hd hl h9 rfl hi rfl (fun ls' hl' => kk H locs cells slots ls' hH hS (s_has_mono hl' (i_st1 hp)) hc hs)
theorem sn_pop (F : s_F dC dI cA ad base X M d k0 p R s m args meth c) (hd : decode (m_bts M) pc = .ok (.pop, n)) (ha0 : m_act X M pc (.pop) n ls st K h = some (.inl q)) (kk : s_W dC dI cA ad base M k0 s0 p l e R s m args below meth c Q q.1 q.2.1 q.2.2.1 q.2.2.2.1 q.2.2.2.2) : s_W dC dI cA ad base M k0 s0 p l e R s m args below meth c Q pc ls st K h := by
  obtain ⟨hx, hb, hml, -⟩ := F
  intro H locs cells slots lsx hH hS hl hc hs
  obtain ⟨hn, ha1⟩ := i_ck ha0
  clear ha0
  have hn := i_beq hn
  subst hn
  split at ha1
  · cases ha1
    exact lv_pop hx hb hd rfl (kk H locs cells slots lsx hH hS hl hc hs)
  · cases ha1
    exact lv_pop hx hb hd (by rw [s_con_cat]; rfl) (kk H locs cells slots lsx hH hS hl hc hs)
  · cases ha1
theorem sn_dup (F : s_F dC dI cA ad base X M d k0 p R s m args meth c) (hd : decode (m_bts M) pc = .ok (.dup, n)) (ha0 : m_act X M pc (.dup) n ls st K h = some (.inl q)) (kk : s_W dC dI cA ad base M k0 s0 p l e R s m args below meth c Q q.1 q.2.1 q.2.2.1 q.2.2.2.1 q.2.2.2.2) : s_W dC dI cA ad base M k0 s0 p l e R s m args below meth c Q pc ls st K h := by
  obtain ⟨hx, hb, hml, -⟩ := F
  intro H locs cells slots lsx hH hS hl hc hs
  obtain ⟨hn, ha1⟩ := i_ck ha0
  clear ha0
  have hn := i_beq hn
  subst hn
  split at ha1
  · cases ha1
    exact lv_dup hx hb hd rfl (kk H locs cells slots lsx hH hS hl hc hs)
  · cases ha1
    exact lv_dup hx hb hd (by rw [s_con_cat]; rfl) (kk H locs cells slots lsx hH hS hl hc hs)
  · cases ha1
theorem sn_dup2 (F : s_F dC dI cA ad base X M d k0 p R s m args meth c) (hd : decode (m_bts M) pc = .ok (.dup2, n)) (ha0 : m_act X M pc (.dup2) n ls st K h = some (.inl q)) (kk : s_W dC dI cA ad base M k0 s0 p l e R s m args below meth c Q q.1 q.2.1 q.2.2.1 q.2.2.2.1 q.2.2.2.2) : s_W dC dI cA ad base M k0 s0 p l e R s m args below meth c Q pc ls st K h := by
  obtain ⟨hx, hb, hml, -⟩ := F
  intro H locs cells slots lsx hH hS hl hc hs
  obtain ⟨hn, ha1⟩ := i_ck ha0
  clear ha0
  have hn := i_beq hn
  subst hn
  split at ha1
  · cases ha1
    exact lv_dup2_11 hx hb hd rfl (by rw [s_con_cat]; rfl) (kk H locs cells slots lsx hH hS hl hc hs)
  · cases ha1
theorem sn_goto {o : Int} (F : s_F dC dI cA ad base X M d k0 p R s m args meth c) (hd : decode (m_bts M) pc = .ok (.goto o, n)) (ha0 : m_act X M pc (.goto o) n ls st K h = some (.inl q)) (kk : s_W dC dI cA ad base M k0 s0 p l e R s m args below meth c Q q.1 q.2.1 q.2.2.1 q.2.2.2.1 q.2.2.2.2) : s_W dC dI cA ad base M k0 s0 p l e R s m args below meth c Q pc ls st K h := by
  obtain ⟨hx, hb, hml, -⟩ := F
  intro H locs cells slots lsx hH hS hl hc hs
  obtain ⟨hn, ha1⟩ := i_ck ha0
  clear ha0
  simp only [Bool.and_eq_true, beq_iff_eq] at hn
  obtain ⟨hn, hj⟩ := hn
  subst hn
  have ht : (pc : Int) + o = (m_jp pc o : Int) := by
    have := of_decide_eq_true hj
    unfold m_jp
    omega
  cases ha1
  exact lv_goto hx hb hd ht (kk H locs cells slots lsx hH hS hl hc hs)
theorem sn_ifCond {v : ClassFile.Cond} {o : Int} (F : s_F dC dI cA ad base X M d k0 p R s m args meth c) (hd : decode (m_bts M) pc = .ok (.ifCond v o, n)) (ha0 : m_act X M pc (.ifCond v o) n ls st K h = some (.inl q)) (kk : s_W dC dI cA ad base M k0 s0 p l e R s m args below meth c Q q.1 q.2.1 q.2.2.1 q.2.2.2.1 q.2.2.2.2) : s_W dC dI cA ad base M k0 s0 p l e R s m args below meth c Q pc ls st K h := by
  obtain ⟨hx, hb, hml, -⟩ := F
  intro H locs cells slots lsx hH hS hl hc hs
  obtain ⟨hn, ha1⟩ := i_ck ha0
  clear ha0
  simp only [Bool.and_eq_true, beq_iff_eq] at hn
  obtain ⟨hn, hj⟩ := hn
  subst hn
  have ht : (pc : Int) + o = (m_jp pc o : Int) := by
    have := of_decide_eq_true hj
    unfold m_jp
    omega
  obtain ⟨a, t, rfl, ha2⟩ := i_1I ha1
  cases ha2
  dsimp only at kk
  cases v with
  | eq =>
    refine lv_if_eq hx hb hd ht (fun z => ?_) (fun z => ?_)
    · rw [if_pos (by first | exact decide_eq_true z | exact decide_eq_true (by simpa using z))] at kk
      exact kk H locs cells slots lsx hH hS hl hc hs
    · rw [if_neg (by first | exact fun y => z (of_decide_eq_true y) | exact fun y => of_decide_eq_true y z)] at kk
      exact kk H locs cells slots lsx hH hS hl hc hs
  | ne =>
    refine lv_if_ne hx hb hd ht (fun z => ?_) (fun z => ?_)
    · rw [if_pos (by first | exact decide_eq_true z | exact decide_eq_true (by simpa using z))] at kk
      exact kk H locs cells slots lsx hH hS hl hc hs
    · rw [if_neg (by first | exact fun y => z (of_decide_eq_true y) | exact fun y => of_decide_eq_true y z)] at kk
      exact kk H locs cells slots lsx hH hS hl hc hs
  | lt =>
    refine lv_if_lt hx hb hd ht (fun z => ?_) (fun z => ?_)
    · rw [if_pos (by first | exact decide_eq_true z | exact decide_eq_true (by simpa using z))] at kk
      exact kk H locs cells slots lsx hH hS hl hc hs
    · rw [if_neg (by first | exact fun y => z (of_decide_eq_true y) | exact fun y => of_decide_eq_true y z)] at kk
      exact kk H locs cells slots lsx hH hS hl hc hs
  | ge =>
    refine lv_if_ge hx hb hd ht (fun z => ?_) (fun z => ?_)
    · rw [if_pos (by first | exact decide_eq_true z | exact decide_eq_true (by simpa using z))] at kk
      exact kk H locs cells slots lsx hH hS hl hc hs
    · rw [if_neg (by first | exact fun y => z (of_decide_eq_true y) | exact fun y => of_decide_eq_true y z)] at kk
      exact kk H locs cells slots lsx hH hS hl hc hs
  | gt =>
    refine lv_if_gt hx hb hd ht (fun z => ?_) (fun z => ?_)
    · rw [if_pos (by first | exact decide_eq_true z | exact decide_eq_true (by simpa using z))] at kk
      exact kk H locs cells slots lsx hH hS hl hc hs
    · rw [if_neg (by first | exact fun y => z (of_decide_eq_true y) | exact fun y => of_decide_eq_true y z)] at kk
      exact kk H locs cells slots lsx hH hS hl hc hs
  | le =>
    refine lv_if_le hx hb hd ht (fun z => ?_) (fun z => ?_)
    · rw [if_pos (by first | exact decide_eq_true z | exact decide_eq_true (by simpa using z))] at kk
      exact kk H locs cells slots lsx hH hS hl hc hs
    · rw [if_neg (by first | exact fun y => z (of_decide_eq_true y) | exact fun y => of_decide_eq_true y z)] at kk
      exact kk H locs cells slots lsx hH hS hl hc hs
theorem sn_if_icmp {v : ClassFile.Cond} {o : Int} (F : s_F dC dI cA ad base X M d k0 p R s m args meth c) (hd : decode (m_bts M) pc = .ok (.if_icmp v o, n)) (ha0 : m_act X M pc (.if_icmp v o) n ls st K h = some (.inl q)) (kk : s_W dC dI cA ad base M k0 s0 p l e R s m args below meth c Q q.1 q.2.1 q.2.2.1 q.2.2.2.1 q.2.2.2.2) : s_W dC dI cA ad base M k0 s0 p l e R s m args below meth c Q pc ls st K h := by
  obtain ⟨hx, hb, hml, -⟩ := F
  intro H locs cells slots lsx hH hS hl hc hs
  obtain ⟨hn, ha1⟩ := i_ck ha0
  clear ha0
  simp only [Bool.and_eq_true, beq_iff_eq] at hn
  obtain ⟨hn, hj⟩ := hn
  subst hn
  have ht : (pc : Int) + o = (m_jp pc o : Int) := by
    have := of_decide_eq_true hj
    unfold m_jp
    omega
  obtain ⟨a, b, t, rfl, ha2⟩ := i_2I ha1
  cases ha2
  dsimp only at kk
  cases v with
  | eq =>
    refine lv_icmp_eq hx hb hd ht (fun z => ?_) (fun z => ?_)
    · rw [if_pos (by first | exact decide_eq_true z | exact decide_eq_true (by simpa using z))] at kk
      exact kk H locs cells slots lsx hH hS hl hc hs
    · rw [if_neg (by first | exact fun y => z (of_decide_eq_true y) | exact fun y => of_decide_eq_true y z)] at kk
      exact kk H locs cells slots lsx hH hS hl hc hs
  | ne =>
    refine lv_icmp_ne hx hb hd ht (fun z => ?_) (fun z => ?_)
    · rw [if_pos (by first | exact decide_eq_true z | exact decide_eq_true (by simpa using z))] at kk
      exact kk H locs cells slots lsx hH hS hl hc hs
    · rw [if_neg (by first | exact fun y => z (of_decide_eq_true y) | exact fun y => of_decide_eq_true y z)] at kk
      exact kk H locs cells slots lsx hH hS hl hc hs
  | lt =>
    refine lv_icmp_lt hx hb hd ht (fun z => ?_) (fun z => ?_)
    · rw [if_pos (by first | exact decide_eq_true z | exact decide_eq_true (by simpa using z))] at kk
      exact kk H locs cells slots lsx hH hS hl hc hs
    · rw [if_neg (by first | exact fun y => z (of_decide_eq_true y) | exact fun y => of_decide_eq_true y z)] at kk
      exact kk H locs cells slots lsx hH hS hl hc hs
  | ge =>
    refine lv_icmp_ge hx hb hd ht (fun z => ?_) (fun z => ?_)
    · rw [if_pos (by first | exact decide_eq_true z | exact decide_eq_true (by simpa using z))] at kk
      exact kk H locs cells slots lsx hH hS hl hc hs
    · rw [if_neg (by first | exact fun y => z (of_decide_eq_true y) | exact fun y => of_decide_eq_true y z)] at kk
      exact kk H locs cells slots lsx hH hS hl hc hs
  | gt =>
    refine lv_icmp_gt hx hb hd ht (fun z => ?_) (fun z => ?_)
    · rw [if_pos (by first | exact decide_eq_true z | exact decide_eq_true (by simpa using z))] at kk
      exact kk H locs cells slots lsx hH hS hl hc hs
    · rw [if_neg (by first | exact fun y => z (of_decide_eq_true y) | exact fun y => of_decide_eq_true y z)] at kk
      exact kk H locs cells slots lsx hH hS hl hc hs
  | le =>
    refine lv_icmp_le hx hb hd ht (fun z => ?_) (fun z => ?_)
    · rw [if_pos (by first | exact decide_eq_true z | exact decide_eq_true (by simpa using z))] at kk
      exact kk H locs cells slots lsx hH hS hl hc hs
    · rw [if_neg (by first | exact fun y => z (of_decide_eq_true y) | exact fun y => of_decide_eq_true y z)] at kk
      exact kk H locs cells slots lsx hH hS hl hc hs
end SI
