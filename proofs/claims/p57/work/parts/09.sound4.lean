section SI
variable {dC : Nat → ClassId} {dI : Nat → Nat → Nat} {cA : Nat → ClassId} {ad : Nat → Nat} {base : Nat} {X : XT} {M d k0 s0 : Nat} {p : Program} {l : Launch} {e : Env} {R : Room} {s : State} {m : MethodId} {args : Array Value} {below : List Frame} {meth : Method} {c : Code} {Q : State → Prop}
variable {pc n : Nat} {ls : LT} {st : List Value} {K : KT} {h : HT} {q : Nat × LT × List Value × KT × HT}
theorem w_jk {pc : Nat} {o : Int} (h : m_jk pc o = true) : (pc : Int) + o = (m_jp pc o : Int) := by
  have := of_decide_eq_true h
  unfold m_jp
  omega
theorem w_tout {pc dt : Nat} {x : Int} : ∀ (l : List Int) (lo : Int), (x < lo ∨ lo + (l.length : Int) ≤ x) → m_swt (m_tsl pc lo l) dt x = dt := by
  intro l
  induction l with
  | nil => intro lo _; rfl
  | cons o l ih =>
    intro lo hx
    simp only [List.length_cons] at hx
    show (if x = lo then _ else _) = _
    rw [if_neg (by omega)]
    exact ih (lo + 1) (by omega)
theorem w_tin {pc dt : Nat} {x off : Int} : ∀ (l : List Int) (lo : Int) (i : Nat), l[i]? = some off → x = lo + (i : Int) → m_swt (m_tsl pc lo l) dt x = m_jp pc off := by
  intro l
  induction l with
  | nil => intro lo i h _; simp at h
  | cons o l ih =>
    intro lo i h hx
    show (if x = lo then _ else _) = _
    cases i with
    | zero =>
      rw [if_pos (by omega)]
      rw [List.getElem?_cons_zero] at h
      cases h
      rfl
    | succ i =>
      rw [if_neg (by omega)]
      rw [List.getElem?_cons_succ] at h
      exact ih (lo + 1) i h (by omega)
theorem w_ls {pc : Nat} {dt x : Int} (hd : m_jk pc dt = true) : ∀ (l : List (Int × Int)), l.all (fun q => m_jk pc q.2) = true → m_swt (m_lsl pc l) (m_jp pc dt) x = m_jp pc (Op.lookupswitch.offset l dt x) ∧ m_jk pc (Op.lookupswitch.offset l dt x) = true := by
  intro l
  induction l with
  | nil => intro _; exact ⟨rfl, hd⟩
  | cons q l ih =>
    intro h
    obtain ⟨a, o⟩ := q
    simp only [List.all_cons, Bool.and_eq_true] at h
    obtain ⟨i1, i2⟩ := ih h.2
    rw [Op.lookupswitch.offset_cons]
    show (if x = a then m_jp pc o else m_swt (m_lsl pc l) (m_jp pc dt) x) = _ ∧ _
    by_cases hx : x = a
    · rw [if_pos hx, if_pos hx.symm]
      exact ⟨rfl, h.1⟩
    · rw [if_neg hx, if_neg (fun z => hx z.symm)]
      exact ⟨i1, i2⟩
theorem sn_tableswitch {dt lo hi : Int} {os : Array Int} (F : s_F dC dI cA ad base X M d k0 p R s m args meth c) (hd : decode (m_bts M) pc = .ok (.tableswitch dt lo hi os, n)) (ha0 : m_act X M pc (.tableswitch dt lo hi os) n ls st K h = some (.inl q)) (kk : s_W dC dI cA ad base M k0 s0 p l e R s m args below meth c Q q.1 q.2.1 q.2.2.1 q.2.2.2.1 q.2.2.2.2) : s_W dC dI cA ad base M k0 s0 p l e R s m args below meth c Q pc ls st K h := by
  obtain ⟨hx, hb, hml, hown, hts, hV, hE, hnm, had, hsz, hfr, hlo⟩ := F
  intro H locs cells slots lsx hH hS hl hc hs
  obtain ⟨hn, ha1⟩ := i_ck ha0
  clear ha0
  simp only [Bool.and_eq_true] at hn
  obtain ⟨⟨j1, j2⟩, j3⟩ := hn
  have j3 := of_decide_eq_true j3
  obtain ⟨x, t, rfl, ha2⟩ := i_1I ha1
  cases ha2
  have kk := kk H locs cells slots lsx hH hS hl hc hs
  dsimp only at kk
  by_cases hx1 : x.toInt < lo ∨ hi < x.toInt
  · rw [w_tout _ _ (by omega)] at kk
    exact lv_tableOut hx hb hd hx1 (w_jk j1) kk
  · have hlen : (x.toInt - lo).toNat < os.toList.length := by omega
    have ho : os.toList[(x.toInt - lo).toNat]? = some os.toList[(x.toInt - lo).toNat] := List.getElem?_eq_getElem hlen
    rw [w_tin _ _ _ ho (by omega)] at kk
    exact lv_tableIn hx hb hd (by omega) (by omega) (by rw [← Array.getElem?_toList]; exact ho) (w_jk (List.all_eq_true.mp j2 _ (List.getElem_mem hlen))) kk
theorem sn_lookupswitch {dt : Int} {ps : Array (Int × Int)} (F : s_F dC dI cA ad base X M d k0 p R s m args meth c) (hd : decode (m_bts M) pc = .ok (.lookupswitch dt ps, n)) (ha0 : m_act X M pc (.lookupswitch dt ps) n ls st K h = some (.inl q)) (kk : s_W dC dI cA ad base M k0 s0 p l e R s m args below meth c Q q.1 q.2.1 q.2.2.1 q.2.2.2.1 q.2.2.2.2) : s_W dC dI cA ad base M k0 s0 p l e R s m args below meth c Q pc ls st K h := by
  obtain ⟨hx, hb, hml, hown, hts, hV, hE, hnm, had, hsz, hfr, hlo⟩ := F
  intro H locs cells slots lsx hH hS hl hc hs
  obtain ⟨hn, ha1⟩ := i_ck ha0
  clear ha0
  simp only [Bool.and_eq_true] at hn
  obtain ⟨⟨j1, j2⟩, j3⟩ := hn
  obtain ⟨x, t, rfl, ha2⟩ := i_1I ha1
  cases ha2
  have kk := kk H locs cells slots lsx hH hS hl hc hs
  dsimp only at kk
  obtain ⟨k1, k2⟩ := w_ls (x := x.toInt) j1 ps.toList j2
  rw [k1] at kk
  exact lv_lookup hx hb hd j3 rfl (w_jk k2) kk
theorem w_sl {K : KT} {a b : Nat} : m_sl (K ++ [(a, b)]) = m_sl K + b := by simp [m_sl]
theorem w_ws {cn sz : Nat} : s_ws cA ad (K ++ [(cn, sz)]) (m_clr h (K.length + 1)) = s_ws cA ad K h ++ [(ad (K.length + 1), s_cell cA ad (m_clr h (K.length + 1)) (K.length + 1) (cn, sz))] := by
  apply List.ext_getElem?
  intro i
  rcases Nat.lt_trichotomy i K.length with hi | hi | hi
  · rw [s_ws_at (by simp; omega), List.getElem?_append_left (by rw [s_ws_len]; exact hi), s_ws_at hi]
    have e1 : (K ++ [(cn, sz)]).getD i (99, 0) = K.getD i (99, 0) := by
      rw [List.getD_eq_getElem?_getD, List.getD_eq_getElem?_getD, List.getElem?_append_left hi]
    have f1 : m_gI (m_clr h (K.length + 1)) (i + 1) = m_gI h (i + 1) := funext fun j => if_neg (by omega)
    have f2 : m_gL (m_clr h (K.length + 1)) (i + 1) = m_gL h (i + 1) := funext fun j => if_neg (by omega)
    have f3 : m_gR (m_clr h (K.length + 1)) (i + 1) = m_gR h (i + 1) := funext fun j => if_neg (by omega)
    rw [e1]
    congr 2
    unfold s_cell m_rd
    rw [f1, f2, f3]
  · subst hi
    rw [s_ws_at (by simp), List.getElem?_append_right (by rw [s_ws_len]; exact Nat.le_refl _), s_ws_len, Nat.sub_self]
    have e1 : (K ++ [(cn, sz)]).getD K.length (99, 0) = (cn, sz) := by
      rw [List.getD_eq_getElem?_getD, List.getElem?_append_right (Nat.le_refl _), Nat.sub_self]
      rfl
    rw [e1]
    rfl
  · rw [List.getElem?_eq_none (by rw [s_ws_len]; simp; omega), List.getElem?_eq_none (by rw [List.length_append, s_ws_len]; simp; omega)]
theorem w_alloc {H H1 : Heap} {cells cn sz q2 : Nat} (hH : s_H dC dI cA ad K h H) (had : s_ad ad base) (hsz : s.heap.size = base + k0) (hc : cells + k0 = K.length) (hK : K.length < 9000) (hP : va_P (dC, dI) m_classes (s_ws cA ad K h ++ [(q2, s_cell cA ad (m_clr h (K.length + 1)) (K.length + 1) (cn, sz))]) H1)
    (hD : va_D (s_A base) (s_ws cA ad K h ++ [(q2, s_cell cA ad (m_clr h (K.length + 1)) (K.length + 1) (cn, sz))])) (hz : H1.size ≤ s.heap.size + (cells + 1)) (hk : (cn < 10 ∧ sz = m_NN.getD cn 0) ∨ (20 ≤ cn ∧ cn < 25)) : q2 = ad (K.length + 1) ∧ s_H dC dI cA ad (K ++ [(cn, sz)]) (m_clr h (K.length + 1)) H1 := by
  have hlast : (s_ws cA ad K h ++ [(q2, s_cell cA ad (m_clr h (K.length + 1)) (K.length + 1) (cn, sz))])[K.length]? = some (q2, s_cell cA ad (m_clr h (K.length + 1)) (K.length + 1) (cn, sz)) := by
    rw [List.getElem?_append_right (by rw [s_ws_len]; exact Nat.le_refl _), s_ws_len, Nat.sub_self]
    rfl
  have h1 : q2 < H1.size := (hP _ _ hlast).lt
  have h2 : base ≤ q2 := hD.2 _ _ hlast
  have h3 : q2 = base + K.length := by
    rcases Nat.lt_or_ge q2 (base + K.length) with z | z
    · exfalso
      obtain ⟨j, hj, ej⟩ : ∃ j, j < K.length ∧ q2 = base + j := ⟨q2 - base, by omega, by omega⟩
      have hat : (s_ws cA ad K h ++ [(q2, s_cell cA ad (m_clr h (K.length + 1)) (K.length + 1) (cn, sz))])[j]? = some (ad (j + 1), s_cell cA ad h (j + 1) (K.getD j (99, 0))) := by
        rw [List.getElem?_append_left (by rw [s_ws_len]; exact hj), s_ws_at hj]
      have := hD.1 _ _ _ _ hlast hat (by show q2 = ad (j + 1); rw [had j (by omega), ej])
      omega
    · omega
  have h4 : q2 = ad (K.length + 1) := by rw [had _ (by omega), h3]
  refine ⟨h4, ?_, ?_, ?_, ?_⟩
  · rw [w_ws, ← h4]
    exact hP
  · simp
    omega
  · intro k hkl hlt
    rcases Nat.lt_or_ge k K.length with z | z
    · have e1 : (K ++ [(cn, sz)]).getD k (99, 0) = K.getD k (99, 0) := by
        rw [List.getD_eq_getElem?_getD, List.getD_eq_getElem?_getD, List.getElem?_append_left z]
      rw [e1] at hlt ⊢
      exact hH.2.2.1 k z hlt
    · have e0 : k = K.length := by
        simp at hkl
        omega
      subst e0
      have e1 : (K ++ [(cn, sz)]).getD K.length (99, 0) = (cn, sz) := by
        rw [List.getD_eq_getElem?_getD, List.getElem?_append_right (Nat.le_refl _), Nat.sub_self]
        rfl
      rw [e1] at hlt ⊢
      dsimp only at hlt ⊢
      omega
  · intro k hkl hlt
    rcases Nat.lt_or_ge k K.length with z | z
    · have e1 : (K ++ [(cn, sz)]).getD k (99, 0) = K.getD k (99, 0) := by
        rw [List.getD_eq_getElem?_getD, List.getD_eq_getElem?_getD, List.getElem?_append_left z]
      rw [e1] at hlt ⊢
      exact hH.2.2.2 k z hlt
    · have e0 : k = K.length := by
        simp at hkl
        omega
      subst e0
      have e1 : (K ++ [(cn, sz)]).getD K.length (99, 0) = (cn, sz) := by
        rw [List.getD_eq_getElem?_getD, List.getElem?_append_right (Nat.le_refl _), Nat.sub_self]
        rfl
      rw [e1] at hlt ⊢
      dsimp only at hlt ⊢
      omega
theorem w_zI {a : Nat} : m_gI (m_clr h a) a = fun _ => 0 := funext fun j => if_pos rfl
theorem w_zL {a : Nat} : m_gL (m_clr h a) a = fun _ => 0 := funext fun j => if_pos rfl
theorem w_zR {a : Nat} : m_gR (m_clr h a) a = fun _ => 0 := funext fun j => if_pos rfl
theorem w_dflt {ci k a : Nat} (hc : ci < 10) (hk : k < m_NN.getD ci 0) : defaultValue (s_ft ci k) = s_con ad (m_rd (s_so ci k) (m_clr h a) a k) := by
  have hs := k_sort ci hc k hk
  split at hs
  · rename_i e
    rw [e, of_decide_eq_true hs]
    show Value.int 0 = .int (m_gI _ _ _)
    rw [w_zI]
  · rename_i e
    rw [e, of_decide_eq_true hs]
    show Value.long 0 = .long (m_gL _ _ _)
    rw [w_zL]
  · rename_i e
    rw [e, of_decide_eq_true hs]
    show Value.int 0 = .int (m_gI _ _ _)
    rw [w_zI]
  · rename_i n0 n1 n3
    have h2 : m_rd (s_so ci k) (m_clr h a) a k = .ref 0 := by
      have hs4 : s_so ci k = 2 := by
        unfold s_so at n0 n1 n3 ⊢
        split
        · rename_i e; rw [e] at n0; exact absurd rfl n0
        · rename_i e; rw [e] at n1; exact absurd rfl n1
        · rename_i e; rw [e] at n3; exact absurd rfl n3
        · rfl
      rw [hs4]
      show Value.ref (m_gR _ _ _) = _
      rw [w_zR]
    rw [h2]
    split at hs
    · rename_i e; rw [e]; rfl
    · rename_i e; rw [e]; rfl
    · cases hs
theorem sn_new {k : Nat} (F : s_F dC dI cA ad base X M d k0 p R s m args meth c) (hd : decode (m_bts M) pc = .ok (.new k, n)) (ha0 : m_act X M pc (.new k) n ls st K h = some (.inl q)) (hbd : q.2.2.2.1.length ≤ R.cells + k0 ∧ m_sl q.2.2.2.1 ≤ R.slots + s0) (kk : s_W dC dI cA ad base M k0 s0 p l e R s m args below meth c Q q.1 q.2.1 q.2.2.1 q.2.2.2.1 q.2.2.2.2) : s_W dC dI cA ad base M k0 s0 p l e R s m args below meth c Q pc ls st K h := by
  obtain ⟨hx, hb, hml, hown, hts, hV, hE, hnm, had, hsz, hfr, hlo⟩ := F
  intro H locs cells slots lsx hH hS hl hc hs
  obtain ⟨hn, ha1⟩ := i_ck ha0
  clear ha0
  have hn := i_beq hn
  subst hn
  obtain ⟨q1, e1, ha2⟩ := i_op ha1
  obtain ⟨hlt, ha3⟩ := i_ck ha2
  obtain ⟨hK, ha4⟩ := i_ck ha3
  have hlt : q1.1 < 10 := by simpa using hlt
  have hK : K.length < 9000 := by simpa using hK
  cases ha4
  obtain ⟨g1, g2⟩ := m_fnd_c (by rfl) e1
  have f4 := k_cll _ g1 _ g2
  dsimp only at f4 hbd
  rw [List.length_append, w_sl] at hbd
  simp only [List.length_cons, List.length_nil] at hbd
  refine va_new (T := mT q1.1) (ci := q1.1) (fs := (List.range (m_NN.getD q1.1 0)).map fun j => s_con ad (m_rd (s_so q1.1 j) (m_clr h (K.length + 1)) (K.length + 1) j)) hx hb hts (s_layin hlt) (s_ft q1.1) (k_ft q1.1 hlt) hown (s_hts hts f4 rfl) (s_hts hts (k_cw q1.1 hlt).1 rfl) (s_hts hts (k_cw q1.1 hlt).2 rfl) hV.1 hH.1 (s_wsD hH.2.1 had) hS (fun z hz => by show base ≤ z; omega) (s_cl hlt) ?_ (by omega) (by omega) hd (fun q2 H1 hP1 hD1 hS1 => ?_)
  · intro j hj
    unfold vp_V
    rw [List.getD_eq_getElem?_getD, s_rng hj]
    exact w_dflt hlt hj
  · refine s_size (fun hz => ?_)
    have hcell : s_cell cA ad (m_clr h (K.length + 1)) (K.length + 1) (q1.1, m_NN.getD q1.1 0) = .inr (q1.1, (List.range (m_NN.getD q1.1 0)).map fun j => s_con ad (m_rd (s_so q1.1 j) (m_clr h (K.length + 1)) (K.length + 1) j)) := s_cell_o (by omega)
    rw [← hcell] at hP1 hD1
    obtain ⟨a1, a2⟩ := w_alloc hH had hsz hc hK hP1 hD1 hz (Or.inl ⟨hlt, rfl⟩)
    rw [a1]
    exact kk H1 locs (cells + 1) (slots + m_NN.getD q1.1 0) lsx a2 hS1 hl (by rw [List.length_append]; simp only [List.length_cons, List.length_nil]; omega) (by rw [w_sl]; omega)
theorem sn_newarray {ta : ArrayType} (F : s_F dC dI cA ad base X M d k0 p R s m args meth c) (hd : decode (m_bts M) pc = .ok (.newarray ta, n)) (ha0 : m_act X M pc (.newarray ta) n ls st K h = some (.inl q)) (hbd : q.2.2.2.1.length ≤ R.cells + k0 ∧ m_sl q.2.2.2.1 ≤ R.slots + s0) (kk : s_W dC dI cA ad base M k0 s0 p l e R s m args below meth c Q q.1 q.2.1 q.2.2.1 q.2.2.2.1 q.2.2.2.2) : s_W dC dI cA ad base M k0 s0 p l e R s m args below meth c Q pc ls st K h := by
  obtain ⟨hx, hb, hml, hown, hts, hV, hE, hnm, had, hsz, hfr, hlo⟩ := F
  intro H locs cells slots lsx hH hS hl hc hs
  obtain ⟨hn, ha1⟩ := i_ck ha0
  clear ha0
  simp only [Bool.and_eq_true] at hn
  obtain ⟨hn, ht⟩ := hn
  have hn := i_beq hn
  subst hn
  obtain ⟨x, t, rfl, ha2⟩ := i_1I ha1
  obtain ⟨hx2, ha3⟩ := i_ck ha2
  obtain ⟨hK, ha4⟩ := i_ck ha3
  have hK : K.length < 9000 := by simpa using hK
  simp only [Bool.and_eq_true, Bool.not_eq_true', decide_eq_false_iff_not] at hx2
  have hle : x.toNatClampNeg ≤ 100000 := Nat.le_of_ble_eq_true hx2.2
  cases ha4
  dsimp only at hbd
  rw [List.length_append, w_sl] at hbd
  simp only [List.length_cons, List.length_nil] at hbd
  cases ta with
  | int =>
    refine va_newa (N' := x.toNatClampNeg) (a0 := (x.toNatClampNeg, .inl (fun _ => 0))) hx hb (s_hts hts k_arr_20 rfl) rfl hV.1 hH.1 (s_wsD hH.2.1 had) hS (fun z hz => by show base ≤ z; omega) (fun _ => rfl) hx2.1 rfl (by show x.toNatClampNeg * 4 ≤ _; omega) (by omega) (by omega) hd (fun q2 cA2 H1 hK1 hP1 hD1 hS1 => ?_)
    have hcA : cA2 = cA 20 := Option.some.inj (((hK1.2 5 (cA2, .int) rfl).2).symm.trans ((hV.1.2 0 (cA 20, .int) rfl).2))
    subst hcA
    refine s_size (fun hz => ?_)
    have hcell : s_cell cA ad (m_clr h (K.length + 1)) (K.length + 1) (20, x.toNatClampNeg) = .inl (cA 20, x.toNatClampNeg, .inl (fun _ => 0)) := by rw [s_cell_i (Or.inl rfl), w_zI]
    rw [← hcell] at hP1 hD1
    obtain ⟨a1, a2⟩ := w_alloc hH had hsz hc hK hP1 hD1 hz (Or.inr ⟨by omega, by omega⟩)
    rw [a1]
    exact kk H1 locs (cells + 1) (slots + x.toNatClampNeg) lsx a2 hS1 hl (by rw [List.length_append]; simp only [List.length_cons, List.length_nil]; omega) (by rw [w_sl]; omega)
  | long =>
    refine va_newa (N' := x.toNatClampNeg) (a0 := (x.toNatClampNeg, .inr (.inl (fun _ => 0)))) hx hb (s_hts hts k_arr_21 rfl) rfl hV.1 hH.1 (s_wsD hH.2.1 had) hS (fun z hz => by show base ≤ z; omega) (fun _ => rfl) hx2.1 rfl (by show x.toNatClampNeg * 8 ≤ _; omega) (by omega) (by omega) hd (fun q2 cA2 H1 hK1 hP1 hD1 hS1 => ?_)
    have hcA : cA2 = cA 21 := Option.some.inj (((hK1.2 5 (cA2, .long) rfl).2).symm.trans ((hV.1.2 1 (cA 21, .long) rfl).2))
    subst hcA
    refine s_size (fun hz => ?_)
    have hcell : s_cell cA ad (m_clr h (K.length + 1)) (K.length + 1) (21, x.toNatClampNeg) = .inl (cA 21, x.toNatClampNeg, .inr (.inl (fun _ => 0))) := by rw [s_cell_l, w_zL]
    rw [← hcell] at hP1 hD1
    obtain ⟨a1, a2⟩ := w_alloc hH had hsz hc hK hP1 hD1 hz (Or.inr ⟨by omega, by omega⟩)
    rw [a1]
    exact kk H1 locs (cells + 1) (slots + x.toNatClampNeg) lsx a2 hS1 hl (by rw [List.length_append]; simp only [List.length_cons, List.length_nil]; omega) (by rw [w_sl]; omega)
  | boolean =>
    refine va_newa (N' := x.toNatClampNeg) (a0 := (x.toNatClampNeg, .inl (fun _ => 0))) hx hb (s_hts hts k_arr_22 rfl) rfl hV.1 hH.1 (s_wsD hH.2.1 had) hS (fun z hz => by show base ≤ z; omega) (fun _ => rfl) hx2.1 rfl (by show x.toNatClampNeg * 1 ≤ _; omega) (by omega) (by omega) hd (fun q2 cA2 H1 hK1 hP1 hD1 hS1 => ?_)
    have hcA : cA2 = cA 22 := Option.some.inj (((hK1.2 5 (cA2, .boolean) rfl).2).symm.trans ((hV.1.2 2 (cA 22, .boolean) rfl).2))
    subst hcA
    refine s_size (fun hz => ?_)
    have hcell : s_cell cA ad (m_clr h (K.length + 1)) (K.length + 1) (22, x.toNatClampNeg) = .inl (cA 22, x.toNatClampNeg, .inl (fun _ => 0)) := by rw [s_cell_i (Or.inr (Or.inl rfl)), w_zI]
    rw [← hcell] at hP1 hD1
    obtain ⟨a1, a2⟩ := w_alloc hH had hsz hc hK hP1 hD1 hz (Or.inr ⟨by omega, by omega⟩)
    rw [a1]
    exact kk H1 locs (cells + 1) (slots + x.toNatClampNeg) lsx a2 hS1 hl (by rw [List.length_append]; simp only [List.length_cons, List.length_nil]; omega) (by rw [w_sl]; omega)
  | byte =>
    refine va_newa (N' := x.toNatClampNeg) (a0 := (x.toNatClampNeg, .inl (fun _ => 0))) hx hb (s_hts hts k_arr_23 rfl) rfl hV.1 hH.1 (s_wsD hH.2.1 had) hS (fun z hz => by show base ≤ z; omega) (fun _ => rfl) hx2.1 rfl (by show x.toNatClampNeg * 1 ≤ _; omega) (by omega) (by omega) hd (fun q2 cA2 H1 hK1 hP1 hD1 hS1 => ?_)
    have hcA : cA2 = cA 23 := Option.some.inj (((hK1.2 5 (cA2, .byte) rfl).2).symm.trans ((hV.1.2 3 (cA 23, .byte) rfl).2))
    subst hcA
    refine s_size (fun hz => ?_)
    have hcell : s_cell cA ad (m_clr h (K.length + 1)) (K.length + 1) (23, x.toNatClampNeg) = .inl (cA 23, x.toNatClampNeg, .inl (fun _ => 0)) := by rw [s_cell_i (Or.inr (Or.inr rfl)), w_zI]
    rw [← hcell] at hP1 hD1
    obtain ⟨a1, a2⟩ := w_alloc hH had hsz hc hK hP1 hD1 hz (Or.inr ⟨by omega, by omega⟩)
    rw [a1]
    exact kk H1 locs (cells + 1) (slots + x.toNatClampNeg) lsx a2 hS1 hl (by rw [List.length_append]; simp only [List.length_cons, List.length_nil]; omega) (by rw [w_sl]; omega)
  | _ => exact absurd ht (by decide)
theorem sn_anewarray {k : Nat} (F : s_F dC dI cA ad base X M d k0 p R s m args meth c) (hd : decode (m_bts M) pc = .ok (.anewarray k, n)) (ha0 : m_act X M pc (.anewarray k) n ls st K h = some (.inl q)) (hbd : q.2.2.2.1.length ≤ R.cells + k0 ∧ m_sl q.2.2.2.1 ≤ R.slots + s0) (kk : s_W dC dI cA ad base M k0 s0 p l e R s m args below meth c Q q.1 q.2.1 q.2.2.1 q.2.2.2.1 q.2.2.2.2) : s_W dC dI cA ad base M k0 s0 p l e R s m args below meth c Q pc ls st K h := by
  obtain ⟨hx, hb, hml, hown, hts, hV, hE, hnm, had, hsz, hfr, hlo⟩ := F
  intro H locs cells slots lsx hH hS hl hc hs
  obtain ⟨hn, ha1⟩ := i_ck ha0
  clear ha0
  have hn := i_beq hn
  subst hn
  obtain ⟨q1, e1, ha2⟩ := i_op ha1
  obtain ⟨h7, ha3⟩ := i_ck ha2
  have h7 := i_n h7
  obtain ⟨x, t, rfl, ha4⟩ := i_1I ha3
  obtain ⟨hx2, ha5⟩ := i_ck ha4
  obtain ⟨hK, ha6⟩ := i_ck ha5
  have hK : K.length < 9000 := by simpa using hK
  simp only [Bool.and_eq_true, Bool.not_eq_true', decide_eq_false_iff_not] at hx2
  have hle : x.toNatClampNeg ≤ 100000 := Nat.le_of_ble_eq_true hx2.2
  cases ha6
  obtain ⟨g1, g2⟩ := m_fnd_c (by rfl) e1
  have f4 := k_cll _ g1 _ g2
  dsimp only at f4 hbd
  rw [h7] at f4
  rw [List.length_append, w_sl] at hbd
  simp only [List.length_cons, List.length_nil] at hbd
  refine va_newq (C := "HillLeavers$State") (N' := x.toNatClampNeg) hx hb hown (s_hts hts f4 rfl) hV.2.2.1 hV.1 hH.1 (s_wsD hH.2.1 had) hS (fun z hz => by show base ≤ z; omega) hx2.1 rfl (by omega) (by omega) (by omega) hd (fun q2 cA2 H1 hK1 hP1 hD1 hS1 => ?_)
  have hcA : cA2 = cA 24 := by
    obtain ⟨_, _, -, -, -, y1⟩ := (hK1.2 5 (cA2, .object "HillLeavers$State") rfl).2
    obtain ⟨_, _, -, -, -, y2⟩ := (hV.1.2 4 (cA 24, .object "HillLeavers$State") rfl).2
    exact Option.some.inj (y1.symm.trans y2)
  subst hcA
  refine s_size (fun hz => ?_)
  have hcell : s_cell cA ad (m_clr h (K.length + 1)) (K.length + 1) (24, x.toNatClampNeg) = .inl (cA 24, x.toNatClampNeg, .inr (.inr (.inr (.inr (fun _ => none))))) := by
    rw [s_cell_r, w_zR]
    rfl
  rw [← hcell] at hP1 hD1
  obtain ⟨a1, a2⟩ := w_alloc hH had hsz hc hK hP1 hD1 hz (Or.inr ⟨by omega, by omega⟩)
  rw [a1]
  exact kk H1 locs (cells + 1) (slots + x.toNatClampNeg) lsx a2 hS1 hl (by rw [List.length_append]; simp only [List.length_cons, List.length_nil]; omega) (by rw [w_sl]; omega)
end SI
