section SI
variable {dC : Nat → ClassId} {dI : Nat → Nat → Nat} {cA : Nat → ClassId} {ad : Nat → Nat} {base : Nat} {X : XT} {M d k0 s0 : Nat} {p : Program} {l : Launch} {e : Env} {R : Room} {s : State} {m : MethodId} {args : Array Value} {below : List Frame} {meth : Method} {c : Code} {Q : State → Prop}
variable {pc n : Nat} {ls : LT} {st : List Value} {K : KT} {h : HT} {q : Nat × LT × List Value × KT × HT}
theorem s_H.store {h' : HT} {H H1 : Heap} {a : Nat} {e : va_E} (hH : s_H dC dI cA ad K h H) (hP : va_P (dC, dI) m_classes ((s_ws cA ad K h).set a (ad (a + 1), e)) H1) (he : s_cell cA ad h' (a + 1) (m_sh K (a + 1)) = e)
    (ho : ∀ b, b ≠ a + 1 → (∀ j, m_gI h' b j = m_gI h b j) ∧ (∀ j, m_gL h' b j = m_gL h b j) ∧ ∀ j, m_gR h' b j = m_gR h b j) : s_H dC dI cA ad K h' H1 := by
  rw [s_ws_set he ho] at hP
  exact ⟨hP, hH.2⟩
theorem o_sI {h : HT} {a k : Nat} {x : Int32} : ∀ b, b ≠ a → (∀ j, m_gI (m_sI h a k x) b j = m_gI h b j) ∧ (∀ j, m_gL (m_sI h a k x) b j = m_gL h b j) ∧ ∀ j, m_gR (m_sI h a k x) b j = m_gR h b j :=
  fun b hb => ⟨fun j => if_neg (fun z => hb z.1), fun _ => rfl, fun _ => rfl⟩
theorem o_sL {h : HT} {a k : Nat} {x : Int64} : ∀ b, b ≠ a → (∀ j, m_gI (m_sL h a k x) b j = m_gI h b j) ∧ (∀ j, m_gL (m_sL h a k x) b j = m_gL h b j) ∧ ∀ j, m_gR (m_sL h a k x) b j = m_gR h b j :=
  fun b hb => ⟨fun _ => rfl, fun j => if_neg (fun z => hb z.1), fun _ => rfl⟩
theorem o_sR {h : HT} {a k x : Nat} : ∀ b, b ≠ a → (∀ j, m_gI (m_sR h a k x) b j = m_gI h b j) ∧ (∀ j, m_gL (m_sR h a k x) b j = m_gL h b j) ∧ ∀ j, m_gR (m_sR h a k x) b j = m_gR h b j :=
  fun b hb => ⟨fun _ => rfl, fun _ => rfl, fun j => if_neg (fun z => hb z.1)⟩
theorem u_sI {h : HT} {a k : Nat} {x : Int32} : m_gI (m_sI h a k x) a = upd (m_gI h a) k x := by
  funext j
  by_cases hj : j = k
  · subst hj
    simp [m_gI, m_sI, upd]
  · simp [m_gI, m_sI, upd, hj]
theorem u_sL {h : HT} {a k : Nat} {x : Int64} : m_gL (m_sL h a k x) a = vp_updL (m_gL h a) k x := by
  funext j
  by_cases hj : j = k
  · subst hj
    simp [m_gL, m_sL, vp_updL]
  · simp [m_gL, m_sL, vp_updL, hj]
theorem u_sR {h : HT} {a k x : Nat} : (fun j => s_adr ad (m_gR (m_sR h a k (x + 1)) a j)) = va_up (fun j => s_adr ad (m_gR h a j)) k (some (ad (x + 1))) := by
  funext j
  by_cases hj : j = k
  · subst hj
    simp [m_gR, m_sR, va_up, s_adr]
  · simp [m_gR, m_sR, va_up, hj]
theorem sn_iastore  (F : s_F dC dI cA ad base X M d k0 p R s m args meth c) (hd : decode (m_bts M) pc = .ok (.iastore, n)) (ha0 : m_act X M pc (.iastore) n ls st K h = some (.inl q)) (kk : s_W dC dI cA ad base M k0 s0 p l e R s m args below meth c Q q.1 q.2.1 q.2.2.1 q.2.2.2.1 q.2.2.2.2) : s_W dC dI cA ad base M k0 s0 p l e R s m args below meth c Q pc ls st K h := by
  obtain ⟨hx, hb, hml, hown, hts, hV, hE, hnm, had, hsz, hfr, hlo⟩ := F
  intro H locs cells slots lsx hH hS hl hc hs
  obtain ⟨hn, ha1⟩ := i_ck ha0
  clear ha0
  have hn := i_beq hn
  subst hn
  obtain ⟨x, t, rfl, ha2⟩ := i_1I ha1
  obtain ⟨j, t, rfl, ha3⟩ := i_1I ha2
  obtain ⟨a, t, rfl, ha4⟩ := i_1R ha3
  obtain ⟨hk, ha5⟩ := i_ck ha4
  cases ha5
  simp only [Bool.and_eq_true] at hk
  have hsh : m_sh K (a + 1) = (20, (m_sh K (a + 1)).2) := Prod.ext (i_n hk.1.2) rfl
  have hat := s_at (cA := cA) (ad := ad) (h := h) hsh (by omega)
  rw [s_cell_i (Or.inl rfl)] at hat
  exact va_iast hx hb hV.1 hH.1 (s_wsD hH.2.1 had) hS a 0 hat rfl (i_in hk.2) hd (fun H1 locs1 hP1 _ hS1 => kk H1 locs1 cells slots lsx (hH.store hP1 (by rw [hsh, s_cell_i (Or.inl rfl), u_sI]) o_sI) hS1 hl hc hs)
theorem sn_lastore  (F : s_F dC dI cA ad base X M d k0 p R s m args meth c) (hd : decode (m_bts M) pc = .ok (.lastore, n)) (ha0 : m_act X M pc (.lastore) n ls st K h = some (.inl q)) (kk : s_W dC dI cA ad base M k0 s0 p l e R s m args below meth c Q q.1 q.2.1 q.2.2.1 q.2.2.2.1 q.2.2.2.2) : s_W dC dI cA ad base M k0 s0 p l e R s m args below meth c Q pc ls st K h := by
  obtain ⟨hx, hb, hml, hown, hts, hV, hE, hnm, had, hsz, hfr, hlo⟩ := F
  intro H locs cells slots lsx hH hS hl hc hs
  obtain ⟨hn, ha1⟩ := i_ck ha0
  clear ha0
  have hn := i_beq hn
  subst hn
  obtain ⟨x, t, rfl, ha2⟩ := i_1L ha1
  obtain ⟨j, t, rfl, ha3⟩ := i_1I ha2
  obtain ⟨a, t, rfl, ha4⟩ := i_1R ha3
  obtain ⟨hk, ha5⟩ := i_ck ha4
  cases ha5
  simp only [Bool.and_eq_true] at hk
  have hsh : m_sh K (a + 1) = (21, (m_sh K (a + 1)).2) := Prod.ext (i_n hk.1.2) rfl
  have hat := s_at (cA := cA) (ad := ad) (h := h) hsh (by omega)
  rw [s_cell_l] at hat
  exact va_last hx hb hV.1 hH.1 (s_wsD hH.2.1 had) hS a 1 hat rfl (i_in hk.2) hd (fun H1 locs1 hP1 _ hS1 => kk H1 locs1 cells slots lsx (hH.store hP1 (by rw [hsh, s_cell_l, u_sL]) o_sL) hS1 hl hc hs)
theorem sn_bastore  (F : s_F dC dI cA ad base X M d k0 p R s m args meth c) (hd : decode (m_bts M) pc = .ok (.bastore, n)) (ha0 : m_act X M pc (.bastore) n ls st K h = some (.inl q)) (kk : s_W dC dI cA ad base M k0 s0 p l e R s m args below meth c Q q.1 q.2.1 q.2.2.1 q.2.2.2.1 q.2.2.2.2) : s_W dC dI cA ad base M k0 s0 p l e R s m args below meth c Q pc ls st K h := by
  obtain ⟨hx, hb, hml, hown, hts, hV, hE, hnm, had, hsz, hfr, hlo⟩ := F
  intro H locs cells slots lsx hH hS hl hc hs
  obtain ⟨hn, ha1⟩ := i_ck ha0
  clear ha0
  have hn := i_beq hn
  subst hn
  obtain ⟨x, t, rfl, ha2⟩ := i_1I ha1
  obtain ⟨j, t, rfl, ha3⟩ := i_1I ha2
  obtain ⟨a, t, rfl, ha4⟩ := i_1R ha3
  obtain ⟨hk, ha5⟩ := i_ck ha4
  simp only [Bool.and_eq_true] at hk
  split at ha5
  · rename_i h22
    cases ha5
    have hsh : m_sh K (a + 1) = (22, (m_sh K (a + 1)).2) := Prod.ext h22 rfl
    have hat := s_at (cA := cA) (ad := ad) (h := h) hsh (by omega)
    rw [s_cell_i (Or.inr (Or.inl rfl))] at hat
    exact va_zast hx hb hV.1 hH.1 (s_wsD hH.2.1 had) hS a 2 hat rfl (i_in hk.2) hd (fun H1 locs1 hP1 _ hS1 => kk H1 locs1 cells slots lsx (hH.store hP1 (by rw [hsh, s_cell_i (Or.inr (Or.inl rfl)), u_sI]) o_sI) hS1 hl hc hs)
  · rename_i h23
    cases ha5
    have hsh : m_sh K (a + 1) = (23, (m_sh K (a + 1)).2) := Prod.ext h23 rfl
    have hat := s_at (cA := cA) (ad := ad) (h := h) hsh (by omega)
    rw [s_cell_i (Or.inr (Or.inr rfl))] at hat
    exact va_bast hx hb hV.1 hH.1 (s_wsD hH.2.1 had) hS a 3 hat rfl (i_in hk.2) hd (fun H1 locs1 hP1 _ hS1 => kk H1 locs1 cells slots lsx (hH.store hP1 (by rw [hsh, s_cell_i (Or.inr (Or.inr rfl)), u_sI]) o_sI) hS1 hl hc hs)
  · cases ha5
theorem sn_aastore  (F : s_F dC dI cA ad base X M d k0 p R s m args meth c) (hd : decode (m_bts M) pc = .ok (.aastore, n)) (ha0 : m_act X M pc (.aastore) n ls st K h = some (.inl q)) (kk : s_W dC dI cA ad base M k0 s0 p l e R s m args below meth c Q q.1 q.2.1 q.2.2.1 q.2.2.2.1 q.2.2.2.2) : s_W dC dI cA ad base M k0 s0 p l e R s m args below meth c Q pc ls st K h := by
  obtain ⟨hx, hb, hml, hown, hts, hV, hE, hnm, had, hsz, hfr, hlo⟩ := F
  intro H locs cells slots lsx hH hS hl hc hs
  obtain ⟨hn, ha1⟩ := i_ck ha0
  clear ha0
  have hn := i_beq hn
  subst hn
  obtain ⟨v, t, rfl, ha2⟩ := i_1R ha1
  obtain ⟨j, t, rfl, ha3⟩ := i_1I ha2
  obtain ⟨a, t, rfl, ha4⟩ := i_1R ha3
  obtain ⟨hk, ha5⟩ := i_ck ha4
  cases ha5
  simp only [Bool.and_eq_true] at hk
  have hsh : m_sh K (a + 1) = (24, (m_sh K (a + 1)).2) := Prod.ext (i_n hk.1.1.2) rfl
  have hat := s_at (cA := cA) (ad := ad) (h := h) hsh (by omega)
  rw [s_cell_r] at hat
  have h7 : m_sh K (v + 1) = (7, (m_sh K (v + 1)).2) := Prod.ext (i_n hk.2) rfl
  have hvt := s_at (cA := cA) (ad := ad) (h := h) h7 (by omega)
  rw [s_cell_o (by omega)] at hvt
  exact va_astq hx hb hV.1 hH.1 (s_wsD hH.2.1 had) hS a 4 v 7 hat rfl hvt (s_cl (ci := 7) (by omega)) (i_in hk.1.2) hd (fun H1 locs1 hP1 _ hS1 => kk H1 locs1 cells slots lsx (hH.store hP1 (by rw [hsh, s_cell_r, u_sR]) o_sR) hS1 hl hc hs)
theorem s_set_rng {N k : Nat} {f g : Nat → Value} {v : Value} (hv : g k = v) (hg : ∀ j, j ≠ k → g j = f j) : (List.range N).map g = ((List.range N).map f).set k v := by
  apply List.ext_getElem?
  intro i
  rw [List.getElem?_set]
  by_cases hN : i < N
  · by_cases hi : k = i
    · subst hi
      rw [if_pos rfl, if_pos (by simpa using hN), s_rng hN, hv]
    · rw [if_neg hi, s_rng hN, s_rng hN, hg i (Ne.symm hi)]
  · rw [List.getElem?_eq_none (by simpa using hN)]
    by_cases hi : k = i
    · rw [if_pos hi, if_neg (by simpa using (by omega : ¬ k < N))]
    · rw [if_neg hi, List.getElem?_eq_none (by simpa using hN)]
theorem w_wr {t : Nat} {h h' : HT} {a k : Nat} {v : Value} (hw : m_wr t h a k v = some h') : (∀ b, b ≠ a → (∀ j, m_gI h' b j = m_gI h b j) ∧ (∀ j, m_gL h' b j = m_gL h b j) ∧ ∀ j, m_gR h' b j = m_gR h b j) ∧
    m_rd t h' a k = v ∧ (∀ u j, j ≠ k → m_rd u h' a j = m_rd u h a j) ∧ ((t = 0 ∧ ∃ x, v = .int x) ∨ (t = 1 ∧ ∃ x, v = .long x) ∨ (t = 2 ∧ ∃ x, v = .ref (x + 1)) ∨ (t = 3 ∧ (v = .int 0 ∨ v = .int 1))) := by
  unfold m_wr at hw
  split at hw
  · cases hw
    refine ⟨o_sI, ?_, ?_, Or.inl ⟨rfl, _, rfl⟩⟩
    · simp [m_rd, m_gI, m_sI]
    · intro u j hj
      unfold m_rd
      split <;> simp [m_gI, m_gL, m_gR, m_sI, hj]
  · cases hw
    refine ⟨o_sL, ?_, ?_, Or.inr (Or.inl ⟨rfl, _, rfl⟩)⟩
    · simp [m_rd, m_gL, m_sL]
    · intro u j hj
      unfold m_rd
      split <;> simp [m_gI, m_gL, m_gR, m_sL, hj]
  · cases hw
    refine ⟨o_sR, ?_, ?_, Or.inr (Or.inr (Or.inl ⟨rfl, _, rfl⟩))⟩
    · simp [m_rd, m_gR, m_sR]
    · intro u j hj
      unfold m_rd
      split <;> simp [m_gI, m_gL, m_gR, m_sR, hj]
  · split at hw
    · rename_i hx
      cases hw
      refine ⟨o_sI, ?_, ?_, Or.inr (Or.inr (Or.inr ⟨rfl, ?_⟩))⟩
      · simp [m_rd, m_gI, m_sI]
      · intro u j hj
        unfold m_rd
        split <;> simp [m_gI, m_gL, m_gR, m_sI, hj]
      · rcases hx with rfl | rfl
        · exact Or.inl rfl
        · exact Or.inr rfl
    · cases hw
  · cases hw
theorem w_fit {ci k : Nat} {v : Value} (hc : ci < 10) (hk : k < m_NN.getD ci 0) (h : (s_so ci k = 0 ∧ ∃ x, v = .int x) ∨ (s_so ci k = 1 ∧ ∃ x, v = .long x) ∨ (s_so ci k = 2 ∧ ∃ x, v = .ref (x + 1)) ∨ (s_so ci k = 3 ∧ (v = .int 0 ∨ v = .int 1))) : narrow (s_ft ci k) (s_con ad v) = s_con ad v ∧ fits (s_ft ci k) (s_con ad v) = true := by
  have hs := k_sort ci hc k hk
  rcases h with ⟨e, x, rfl⟩ | ⟨e, x, rfl⟩ | ⟨e, x, rfl⟩ | ⟨e, h⟩
  · rw [e] at hs
    rw [of_decide_eq_true hs]
    exact ⟨rfl, rfl⟩
  · rw [e] at hs
    rw [of_decide_eq_true hs]
    exact ⟨rfl, rfl⟩
  · rw [e] at hs
    split at hs
    · rename_i e2
      exact absurd e2 (by decide)
    · rename_i e2
      exact absurd e2 (by decide)
    · rename_i e2
      exact absurd e2 (by decide)
    · split at hs
      · rename_i e2
        rw [e2]
        exact ⟨rfl, rfl⟩
      · rename_i e2
        rw [e2]
        exact ⟨rfl, rfl⟩
      · cases hs
  · rw [e] at hs
    rw [of_decide_eq_true hs]
    rcases h with rfl | rfl
    · exact ⟨rfl, rfl⟩
    · exact ⟨rfl, rfl⟩
theorem sn_putfield {k : Nat} (F : s_F dC dI cA ad base X M d k0 p R s m args meth c) (hd : decode (m_bts M) pc = .ok (.putfield k, n)) (ha0 : m_act X M pc (.putfield k) n ls st K h = some (.inl q)) (kk : s_W dC dI cA ad base M k0 s0 p l e R s m args below meth c Q q.1 q.2.1 q.2.2.1 q.2.2.2.1 q.2.2.2.2) : s_W dC dI cA ad base M k0 s0 p l e R s m args below meth c Q pc ls st K h := by
  obtain ⟨hx, hb, hml, hown, hts, hV, hE, hnm, had, hsz, hfr, hlo⟩ := F
  intro H locs cells slots lsx hH hS hl hc hs
  obtain ⟨hn, ha1⟩ := i_ck ha0
  clear ha0
  have hn := i_beq hn
  subst hn
  split at ha1
  · rename_i v r
    obtain ⟨a, t, rfl, ha2⟩ := i_1R ha1
    obtain ⟨q1, e1, ha3⟩ := i_op ha2
    obtain ⟨hk, ha4⟩ := i_ck ha3
    obtain ⟨h', hw, ha5⟩ := i_op ha4
    cases ha5
    simp only [Bool.and_eq_true] at hk
    have hkc := i_n hk.1.2
    obtain ⟨g1, g2⟩ := m_fnd_c (by rfl) e1
    obtain ⟨f1, f2, f3, f4⟩ := k_fld _ g1 _ g2
    dsimp only at f1 f2 f3 f4
    rw [← f3] at hw
    obtain ⟨w1, w2, w3, w4⟩ := w_wr hw
    have hal : a < K.length := s_sh_lt hkc (by omega)
    have hkk := hH.2.2.1 a hal (by rw [show (K.getD a (99, 0)).1 = q1.1 from hkc]; omega)
    have hsh : m_sh K (a + 1) = (q1.1, m_NN.getD q1.1 0) := by
      rw [← hkc]
      exact Prod.ext rfl hkk.2
    have hat := s_at (cA := cA) (ad := ad) (h := h) hsh (by omega)
    rw [s_cell_o (by omega)] at hat
    obtain ⟨n1, n2⟩ := w_fit (ad := ad) f1 f2 w4
    have hcell : s_cell cA ad h' (a + 1) (m_sh K (a + 1)) = .inr (q1.1, ((List.range (m_NN.getD q1.1 0)).map fun j => s_con ad (m_rd (s_so q1.1 j) h (a + 1) j)).set q1.2.1 (s_con ad v)) := by
      rw [hsh, s_cell_o (by omega)]
      congr 2
      exact s_set_rng (by rw [w2]) (fun j hj => by rw [w3 _ j hj])
    have hfin : (mT q1.1 q1.2.1).2.2.2 = false ∨ ((mT q1.1 q1.2.1).2.2.2 = true ∧ (m_nm M).name = "<init>" ∧ m_own M = q1.1) := by
      have := hk.2
      unfold m_fin at this
      cases hf : (mT q1.1 q1.2.1).2.2.2 with
      | false => exact Or.inl rfl
      | true =>
        rw [hf] at this
        simp only [Bool.not_true, Bool.false_or, Bool.and_eq_true, decide_eq_true_eq] at this
        exact Or.inr ⟨rfl, this.1, i_n this.2⟩
    rcases hfin with hfin | ⟨hfin, hin, hcls⟩
    · exact va_put (T := mT q1.1) hx hb hts (s_layin f1) (s_ft q1.1) (k_ft q1.1 f1) (k_nm q1.1 f1) hown hV.1 hH.1 (s_wsD hH.2.1 had) hS a hat (s_cl f1) q1.2.1 f2 (s_hts hts f4 rfl) (fun _ z => z) hfin (k_ft q1.1 f1 _ f2) n1 n2 (by simpa using f2) hd
        (fun H1 locs1 hP1 _ hS1 => kk H1 locs1 cells slots lsx (hH.store hP1 hcell w1) hS1 hl hc hs)
    · exact va_putF (T := mT q1.1) hx hb hts (s_layin f1) (s_ft q1.1) (k_ft q1.1 f1) (k_nm q1.1 f1) hown hV.1 hH.1 (s_wsD hH.2.1 had) hS a hat (s_cl f1) q1.2.1 f2 (s_hts hts f4 rfl) (fun _ z => z) hfin (hnm hin) (by rw [k_own q1.1 f1 _ f2, hcls]) (k_ft q1.1 f1 _ f2) n1 n2 (by simpa using f2) hd
        (fun H1 locs1 hP1 _ hS1 => kk H1 locs1 cells slots lsx (hH.store hP1 hcell w1) hS1 hl hc hs)
  · cases ha1
end SI
