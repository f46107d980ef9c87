section SI
variable {dC : Nat → ClassId} {dI : Nat → Nat → Nat} {cA : Nat → ClassId} {ad : Nat → Nat} {base : Nat} {X : XT} {M d k0 s0 : Nat} {p : Program} {l : Launch} {e : Env} {R : Room} {s : State} {m : MethodId} {args : Array Value} {below : List Frame} {meth : Method} {c : Code} {Q : State → Prop}
variable {pc n : Nat} {ls : LT} {st : List Value} {K : KT} {h : HT} {q : Nat × LT × List Value × KT × HT}
theorem i_cal {y : Nat} {As rest : List Value} {r} (h : m_cal y As rest = some r) : m_cs rest ≤ 8 ∧ (m_loc As).length ≤ m_ml y ∧ r = .inr (.inl (y, As, rest)) := by
  obtain ⟨h1, h2⟩ := i_ck h
  simp only [Bool.and_eq_true] at h1
  cases h2
  exact ⟨Nat.le_of_ble_eq_true h1.1, Nat.le_of_ble_eq_true h1.2, rfl⟩
theorem s_cats : ∀ (r : List Value), m_cs r ≤ 8 → ((r.map (s_con ad)).map fun v => v.category).sum ≤ 8 := by
  intro r hr
  rw [List.map_map]
  have e : ((fun v => v.category) ∘ s_con ad) = fun v : Value => v.category := funext fun v => s_con_cat ad v
  rw [e]
  exact hr
theorem sn_invokespecial {k : Nat} (F : s_F dC dI cA ad base X M d k0 p R s m args meth c) (hd : decode (m_bts M) pc = .ok (.invokespecial k, n)) (ha0 : m_act X M pc (.invokespecial k) n ls st K h = some (.inl q)) (hbd : q.2.2.2.1.length ≤ R.cells + k0 ∧ m_sl q.2.2.2.1 ≤ R.slots + s0) (kk : s_W dC dI cA ad base M k0 s0 p l e R s m args below meth c Q q.1 q.2.1 q.2.2.1 q.2.2.2.1 q.2.2.2.2) : s_W dC dI cA ad base M k0 s0 p l e R s m args below meth c Q pc ls st K h := by
  obtain ⟨hx, hb, hml, hown, hts, hV, hE, hnm, had, hsz, hfr, hlo⟩ := F
  intro H locs cells slots lsx hH hS hl hc hs
  obtain ⟨hn, ha1⟩ := i_ck ha0
  clear ha0
  have hn := i_beq hn
  subst hn
  obtain ⟨q1, e1, ha2⟩ := i_op ha1
  obtain ⟨g1, g2⟩ := m_fnd_c (by rfl) e1
  have hlk := k_lnk g1 _ g2
  obtain ⟨hna, ha3⟩ := i_ck ha2
  obtain ⟨o, r, ho, ha4⟩ := i_1R ha3
  split at ha4
  · rename_i hk5
    obtain ⟨h5, ha5⟩ := i_ck ha4
    simp only [Bool.and_eq_true] at h5
    have h6 : m_cs r ≤ 8 := Nat.le_of_ble_eq_true h5.1
    have h7 : q1.2.2.1 = 0 := i_n h5.2
    cases ha5
    rw [h7] at ho
    have ho : st = .ref (o + 1) :: r := ho
    subst ho
    unfold s_lok at hlk
    dsimp only at hlk
    rw [hk5] at hlk
    have hlk := of_decide_eq_true hlk
    refine W.objInit (a := ad (o + 1)) (rest := r.map (s_con ad)) hx hb hown (s_hts hts hlk rfl) (s_hts hts k_obj1 rfl) (s_hts hts k_obj2 rfl) rfl (by rw [hml]; exact hl.1) rfl hd (by omega) ?_ ?_
    · have := s_cats (ad := ad) r h6
      show 2 * 0 + _ + 12 ≤ _
      omega
    · exact kk H locs cells slots lsx hH hS hl hc hs
  · obtain ⟨-, -, hz⟩ := i_cal ha4
    cases hz
  · obtain ⟨-, -, hz⟩ := i_cal ha4
    cases hz
  · cases ha4
theorem sn_invokestatic {k : Nat} (F : s_F dC dI cA ad base X M d k0 p R s m args meth c) (hd : decode (m_bts M) pc = .ok (.invokestatic k, n)) (ha0 : m_act X M pc (.invokestatic k) n ls st K h = some (.inl q)) (hbd : q.2.2.2.1.length ≤ R.cells + k0 ∧ m_sl q.2.2.2.1 ≤ R.slots + s0) (kk : s_W dC dI cA ad base M k0 s0 p l e R s m args below meth c Q q.1 q.2.1 q.2.2.1 q.2.2.2.1 q.2.2.2.2) : s_W dC dI cA ad base M k0 s0 p l e R s m args below meth c Q pc ls st K h := by
  obtain ⟨hx, hb, hml, hown, hts, hV, hE, hnm, had, hsz, hfr, hlo⟩ := F
  intro H locs cells slots lsx hH hS hl hc hs
  obtain ⟨hn, ha1⟩ := i_ck ha0
  clear ha0
  have hn := i_beq hn
  subst hn
  obtain ⟨q1, e1, ha2⟩ := i_op ha1
  obtain ⟨g1, g2⟩ := m_fnd_c (by rfl) e1
  have hlk := k_lnk g1 _ g2
  split at ha2
  · obtain ⟨-, ha3⟩ := i_ck ha2
    obtain ⟨-, -, hz⟩ := i_cal ha3
    cases hz
  · obtain ⟨-, ha3⟩ := i_ck ha2
    obtain ⟨-, -, hz⟩ := i_cal ha3
    cases hz
  · rename_i hk6
    obtain ⟨x, y, r, rfl, ha3⟩ := i_2I ha2
    obtain ⟨h4, ha4⟩ := i_ck ha3
    have h6 : m_cs r ≤ 8 := Nat.le_of_ble_eq_true h4
    cases ha4
    unfold s_lok at hlk
    dsimp only at hlk
    rw [hk6] at hlk
    have hlk := of_decide_eq_true hlk
    have h8 := s_cats (ad := ad) r h6
    dsimp only at hbd
    exact va_mmax hx hb (by rw [hml]; exact hl.1.symm) hown (s_hts hts hlk rfl) (s_hts hts k_max1 rfl) (s_hts hts k_mini rfl) (s_hts hts k_max2 rfl) (by omega) (by omega) (by omega) (by omega) hd (kk H locs cells slots lsx hH hS hl hc hs)
  · rename_i hk6
    obtain ⟨x, y, r, rfl, ha3⟩ := i_2I ha2
    obtain ⟨h4, ha4⟩ := i_ck ha3
    have h6 : m_cs r ≤ 8 := Nat.le_of_ble_eq_true h4
    cases ha4
    unfold s_lok at hlk
    dsimp only at hlk
    rw [hk6] at hlk
    have hlk := of_decide_eq_true hlk
    have h8 := s_cats (ad := ad) r h6
    dsimp only at hbd
    exact va_mmin hx hb (by rw [hml]; exact hl.1.symm) hown (s_hts hts hlk rfl) (s_hts hts k_min1 rfl) (s_hts hts k_mini rfl) (s_hts hts k_min2 rfl) (by omega) (by omega) (by omega) (by omega) hd (kk H locs cells slots lsx hH hS hl hc hs)
  · cases ha2
/-- how a method ends -/
def s_ret (M pc : Nat) (st : List Value) (v : Option Value) : Prop :=
  (v = none ∧ st = [] ∧ decode (m_bts M) pc = .ok (.return_, 1) ∧ m_rt M = none) ∨
  (∃ (x : Int32) (ty : FieldType), v = some (.int x) ∧ st = [.int x] ∧ decode (m_bts M) pc = .ok (.ireturn, 1) ∧ m_rt M = some ty ∧ narrow ty (.int x) = .int x) ∨
  (∃ x : Int64, v = some (.long x) ∧ st = [.long x] ∧ decode (m_bts M) pc = .ok (.lreturn, 1) ∧ m_rt M = some .long) ∨
  (∃ (x : Nat) (C : FieldType), v = some (.ref x) ∧ st = [.ref x] ∧ decode (m_bts M) pc = .ok (.areturn, 1) ∧ m_rt M = some C ∧ ((∃ n, C = .object n) ∨ ∃ t, C = .array t))
theorem g_retck {α : Type} {b : Bool} {a : AT} {v : α} (_ : v = v) (h : m_ck b a = none) (h2 : b = true) : a = none := by
  unfold m_ck at h
  rw [if_pos h2] at h
  exact h
def s_Pc (dC : Nat → ClassId) (dI : Nat → Nat → Nat) (cA : Nat → ClassId) (ad : Nat → Nat) (base : Nat) (X : XT) (As : List Value) (K : KT) (h : HT) : Array Value → State → Prop :=
  va_Pc (As.map (s_con ad)) (fun U => s_V dC dI cA ad U ∧ s_E ad base X U ∧ s_H dC dI cA ad K h U.heap ∧ U.heap.size = base + K.length)
def s_Qc (dC : Nat → ClassId) (dI : Nat → Nat → Nat) (cA : Nat → ClassId) (ad : Nat → Nat) (base : Nat) (v : Option Value) (K : KT) (h : HT) : Array Value → State → Outcome → State → Prop :=
  fun _ st oc t => oc = .returned (v.map (s_con ad)) ∧ s_H dC dI cA ad K h t.heap ∧ va_F (s_A base) st t
theorem s_blind {As : List Value} : FrameBlind (s_Pc dC dI cA ad base X As K h) := by
  intro a U g mk hp
  obtain ⟨h1, h2, h3, h4, h5⟩ := hp
  exact ⟨h1, s_V.same (s := U) (U := U.calling g mk a) rfl h2, s_E.move (s := U) (U := U.calling g mk a) (Vm.Alike.refl U.vm) (fun _ _ _ => rfl) h3, h4, h5⟩
theorem s_Hsize {H : Heap} (had : s_ad ad base) (hH : s_H dC dI cA ad K h H) (hb : base ≤ H.size) : base + K.length ≤ H.size := by
  by_cases hz : K.length = 0
  · omega
  · have hat := s_ws_at (cA := cA) (ad := ad) (h := h) (show K.length - 1 < K.length by omega)
    have := (hH.1 _ _ hat).lt
    dsimp only at this
    rw [had _ (by have := hH.2.1; omega)] at this
    omega
theorem s_args {ad : Nat → Nat} : ∀ (As : List Value) (i j : Nat) (w : Value), (m_loc As)[i]? = some (some w) → (j + i, s_con ad w) ∈ lv_args j (As.map (s_con ad)) := by
  intro As
  induction As with
  | nil => intro i j w h; simp [m_loc] at h
  | cons a As ih =>
    intro i j w h
    rw [List.map_cons, lv_args, s_con_cat]
    unfold m_loc at h
    by_cases hc : a.category = 2
    · rw [if_pos hc] at h ⊢
      match i with
      | 0 =>
        rw [List.getElem?_cons_zero] at h
        cases h
        exact List.mem_cons_self
      | 1 =>
        rw [List.getElem?_cons_succ, List.getElem?_cons_zero] at h
        cases h
      | i + 2 =>
        rw [List.getElem?_cons_succ, List.getElem?_cons_succ] at h
        have := ih i (j + 2) w h
        rw [show j + (i + 2) = j + 2 + i by omega]
        exact List.mem_cons_of_mem _ this
    · rw [if_neg hc] at h ⊢
      match i with
      | 0 =>
        rw [List.getElem?_cons_zero] at h
        cases h
        exact List.mem_cons_self
      | i + 1 =>
        rw [List.getElem?_cons_succ] at h
        have := ih i (j + 1) w h
        rw [show j + (i + 1) = j + 1 + i by omega]
        exact List.mem_cons_of_mem _ this
theorem s_sllen {ad : Nat → Nat} : ∀ As : List Value, (lg_sl (As.map (s_con ad))).length = (m_loc As).length := by
  intro As
  induction As with
  | nil => rfl
  | cons a As ih =>
    unfold lg_sl at ih ⊢
    rw [List.map_cons, List.flatMap_cons, List.length_append, ih, s_con_cat]
    show _ = (if a.category = 2 then some a :: none :: m_loc As else some a :: m_loc As).length
    by_cases hc : a.category = 2
    · rw [if_pos hc, if_pos hc]
      simp only [List.length_cons, List.length_nil]
      omega
    · rw [if_neg hc, if_neg hc]
      simp only [List.length_cons, List.length_nil]
      omega
theorem s_ent {As : List Value} {nL : Nat} : ∀ q ∈ s_prs ad (m_ent nL As), q ∈ lv_args 0 (As.map (s_con ad)) := by
  intro q hq
  obtain ⟨w, h1, h2⟩ := s_prs_mem.mp hq
  unfold m_ent at h1
  rw [List.getElem?_append] at h1
  split at h1
  · have := s_args (ad := ad) As q.1 0 w h1
    rw [Nat.zero_add, ← h2] at this
    exact this
  · rw [List.getElem?_replicate] at h1
    split at h1 <;> cases h1
end SI
