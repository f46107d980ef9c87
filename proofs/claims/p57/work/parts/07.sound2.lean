section SI
variable {dC : Nat → ClassId} {dI : Nat → Nat → Nat} {cA : Nat → ClassId} {ad : Nat → Nat} {base : Nat} {X : XT} {M d k0 s0 : Nat} {p : Program} {l : Launch} {e : Env} {R : Room} {s : State} {m : MethodId} {args : Array Value} {below : List Frame} {meth : Method} {c : Code} {Q : State → Prop}
variable {pc n : Nat} {ls : LT} {st : List Value} {K : KT} {h : HT} {q : Nat × LT × List Value × KT × HT}
theorem s_size {H : Heap} {locs : List Loc} {cells slots : Nat} {g : JFrame} (k : H.size ≤ s.heap.size + cells → W p l e R s m args below meth c H locs cells slots Q g) : W p l e R s m args below meth c H locs cells slots Q g :=
  fun T hT X => k (by rw [← hT]; exact X.same.2.2.1) T hT X
theorem s_con_ref (ad : Nat → Nat) {k : Nat} (h : k ≠ 0) : s_con ad (.ref k) = .ref (ad k) := by
  cases k with
  | zero => exact absurd rfl h
  | succ k => rfl
theorem m_fnd_c {α : Type} {T : List (List (Nat × α))} {c k : Nat} {x : α} (hT : T.length = 20) (h : m_fnd (T.getD c []) k = some x) : c < 20 ∧ (k, x) ∈ T.getD c [] := by
  refine ⟨?_, m_fnd_mem h⟩
  rcases Nat.lt_or_ge c 20 with z | z
  · exact z
  · rw [List.getD_eq_getElem?_getD, List.getElem?_eq_none (by omega)] at h
    cases h
theorem s_hts {i : Nat} {w : Cond} (hts : ∀ w ∈ s_TB, w.before args s = true) (hw : s_wd i = some w) (hg : goodWord w = true) : w.before args s = true := hts w (List.mem_filter.mpr ⟨s_wd_mem hw, hg⟩)
theorem s_in {i : Nat} {w : Cond} (hw : s_wd i = some w) (hg : goodWord w = true) : w ∈ s_TB := List.mem_filter.mpr ⟨s_wd_mem hw, hg⟩
theorem s_layin {ci : Nat} (hc : ci < 10) : ∀ w ∈ u_ws (m_cn ci) (mT ci) (m_NN.getD ci 0), w ∈ s_TB := by
  intro w hw
  refine List.mem_filter.mpr ⟨?_, List.all_eq_true.mp (k_layg ci hc) w hw⟩
  rw [k_lay ci hc] at hw
  obtain ⟨i, -, hi⟩ := List.mem_filterMap.mp hw
  exact s_wd_mem hi
theorem s_cl {ci : Nat} (hc : ci < 10) : m_classes[ci]? = some (m_cn ci, mT ci, m_NN.getD ci 0) := by simp [m_classes, hc]
theorem s_sh_lt {K : KT} {a k : Nat} (h : (m_sh K (a + 1)).1 = k) (hk : k ≠ 99) : a < K.length := by
  rcases Nat.lt_or_ge a K.length with z | z
  · exact z
  · exfalso
    apply hk
    rw [← h]
    show (K.getD a (99, 0)).1 = 99
    rw [List.getD_eq_getElem?_getD, List.getElem?_eq_none z]
    rfl
theorem s_rng {α : Type} {N k : Nat} {f : Nat → α} (hk : k < N) : ((List.range N).map f)[k]? = some (f k) := by
  rw [List.getElem?_map, List.getElem?_range hk]
  rfl
theorem s_cell_o {h : HT} {k ci sz : Nat} (hc : ci < 20) : s_cell cA ad h k (ci, sz) = .inr (ci, (List.range sz).map fun j => s_con ad (m_rd (s_so ci j) h k j)) := by
  unfold s_cell
  rw [if_pos hc]
theorem s_cell_i {h : HT} {k t sz : Nat} (ht : t = 20 ∨ t = 22 ∨ t = 23) : s_cell cA ad h k (t, sz) = .inl (cA t, sz, .inl (m_gI h k)) := by
  unfold s_cell
  rcases ht with rfl | rfl | rfl <;> rfl
theorem s_cell_l {h : HT} {k sz : Nat} : s_cell cA ad h k (21, sz) = .inl (cA 21, sz, .inr (.inl (m_gL h k))) := rfl
theorem s_cell_r {h : HT} {k sz : Nat} : s_cell cA ad h k (24, sz) = .inl (cA 24, sz, .inr (.inr (.inr (.inr (fun j => s_adr ad (m_gR h k j)))))) := rfl
theorem s_tys_at {t : Nat} (h1 : 20 ≤ t) (h2 : t < 25) : (s_tys cA)[t - 20]? = some (cA t, s_ty t) := by
  have : t = 20 ∨ t = 21 ∨ t = 22 ∨ t = 23 ∨ t = 24 := by omega
  rcases this with rfl | rfl | rfl | rfl | rfl <;> rfl
theorem s_ex {a : Nat} (h : m_ex a = true) : 10000 ≤ a := Nat.le_of_ble_eq_true h
theorem s_nex {a : Nat} (h : m_ex a = false) : a < 10000 := by
  rcases Nat.lt_or_ge a 10000 with z | z
  · exact z
  · have : m_ex a = true := Nat.ble_eq_true_of_le z
    rw [this] at h
    cases h
theorem s_at {K : KT} {h : HT} {a t sz : Nat} (hs : m_sh K (a + 1) = (t, sz)) (ht : t ≠ 99) : (s_ws cA ad K h)[a]? = some (ad (a + 1), s_cell cA ad h (a + 1) (t, sz)) := by
  have hl : a < K.length := s_sh_lt (by rw [hs]) ht
  rw [s_ws_at hl, show K.getD a (99, 0) = (t, sz) from hs]
theorem s_xs {r : Nat} (h : m_xs r = true) : ∃ i, i < 46 ∧ r = 10010 + i := by
  unfold m_xs at h
  simp only [Bool.and_eq_true] at h
  have x1 : 10010 ≤ r := Nat.le_of_ble_eq_true h.1
  have x2 : r < 10056 := by simpa using h.2
  exact ⟨r - 10010, by omega, by omega⟩
theorem s_xb {r : Nat} (h : m_xb r = true) : ∃ i, i < 46 ∧ r = 10070 + i := by
  unfold m_xb at h
  simp only [Bool.and_eq_true] at h
  have x1 : 10070 ≤ r := Nat.le_of_ble_eq_true h.1
  have x2 : r < 10116 := by simpa using h.2
  exact ⟨r - 10070, by omega, by omega⟩
theorem sn_ldc {k : Nat} (F : s_F dC dI cA ad base X M d k0 p R s m args meth c) (hd : decode (m_bts M) pc = .ok (.ldc k, n)) (ha0 : m_act X M pc (.ldc k) n ls st K h = some (.inl q)) (kk : s_W dC dI cA ad base M k0 s0 p l e R s m args below meth c Q q.1 q.2.1 q.2.2.1 q.2.2.2.1 q.2.2.2.2) : s_W dC dI cA ad base M k0 s0 p l e R s m args below meth c Q pc ls st K h := by
  obtain ⟨hx, hb, hml, hown, hts, hV, -⟩ := F
  intro H locs cells slots lsx hH hS hl hc hs
  obtain ⟨hn, ha1⟩ := i_ck ha0
  clear ha0
  have hn := i_beq hn
  subst hn
  split at ha1
  · rename_i q1 e1
    cases ha1
    obtain ⟨g1, g2⟩ := m_fnd_c (by rfl) e1
    exact lv_ldc hx hb hown (s_hts hts (k_con _ g1 _ g2) rfl) hd (kk H locs cells slots lsx hH hS hl hc hs)
  · obtain ⟨q1, e1, ha2⟩ := i_op ha1
    cases ha2
    obtain ⟨g1, g2⟩ := m_fnd_c (by rfl) e1
    obtain ⟨tx, hz⟩ := hV.2.2.2 _ g1 _ g2
    have kk := kk H locs cells slots lsx hH hS hl hc hs
    rw [List.map_cons, s_con_ref ad (by omega)] at kk
    exact va_ldcS hx hb hown hz hd kk
theorem sn_ldc_w {k : Nat} (F : s_F dC dI cA ad base X M d k0 p R s m args meth c) (hd : decode (m_bts M) pc = .ok (.ldc_w k, n)) (ha0 : m_act X M pc (.ldc_w k) n ls st K h = some (.inl q)) (kk : s_W dC dI cA ad base M k0 s0 p l e R s m args below meth c Q q.1 q.2.1 q.2.2.1 q.2.2.2.1 q.2.2.2.2) : s_W dC dI cA ad base M k0 s0 p l e R s m args below meth c Q pc ls st K h := by
  obtain ⟨hx, hb, hml, hown, hts, hV, -⟩ := F
  intro H locs cells slots lsx hH hS hl hc hs
  obtain ⟨hn, ha1⟩ := i_ck ha0
  clear ha0
  have hn := i_beq hn
  subst hn
  obtain ⟨q1, e1, ha2⟩ := i_op ha1
  cases ha2
  obtain ⟨g1, g2⟩ := m_fnd_c (by rfl) e1
  exact lv_ldcw hx hb hown (s_hts hts (k_con _ g1 _ g2) rfl) hd (kk H locs cells slots lsx hH hS hl hc hs)
theorem sn_ldc2_w {k : Nat} (F : s_F dC dI cA ad base X M d k0 p R s m args meth c) (hd : decode (m_bts M) pc = .ok (.ldc2_w k, n)) (ha0 : m_act X M pc (.ldc2_w k) n ls st K h = some (.inl q)) (kk : s_W dC dI cA ad base M k0 s0 p l e R s m args below meth c Q q.1 q.2.1 q.2.2.1 q.2.2.2.1 q.2.2.2.2) : s_W dC dI cA ad base M k0 s0 p l e R s m args below meth c Q pc ls st K h := by
  obtain ⟨hx, hb, hml, hown, hts, hV, -⟩ := F
  intro H locs cells slots lsx hH hS hl hc hs
  obtain ⟨hn, ha1⟩ := i_ck ha0
  clear ha0
  have hn := i_beq hn
  subst hn
  obtain ⟨q1, e1, ha2⟩ := i_op ha1
  cases ha2
  obtain ⟨g1, g2⟩ := m_fnd_c (by rfl) e1
  exact lv_ldc2 hx hb hown (s_hts hts (k_lcon _ g1 _ g2) rfl) hd (kk H locs cells slots lsx hH hS hl hc hs)
theorem sn_getfield {k : Nat} (F : s_F dC dI cA ad base X M d k0 p R s m args meth c) (hd : decode (m_bts M) pc = .ok (.getfield k, n)) (ha0 : m_act X M pc (.getfield k) n ls st K h = some (.inl q)) (kk : s_W dC dI cA ad base M k0 s0 p l e R s m args below meth c Q q.1 q.2.1 q.2.2.1 q.2.2.2.1 q.2.2.2.2) : s_W dC dI cA ad base M k0 s0 p l e R s m args below meth c Q pc ls st K h := by
  obtain ⟨hx, hb, hml, hown, hts, hV, hE, -⟩ := F
  intro H locs cells slots lsx hH hS hl hc hs
  obtain ⟨hn, ha1⟩ := i_ck ha0
  clear ha0
  have hn := i_beq hn
  subst hn
  obtain ⟨a, t, rfl, ha2⟩ := i_1R ha1
  split at ha2
  · rename_i ex
    obtain ⟨hxs, ha3⟩ := i_ck ha2
    obtain ⟨i, hi, ei⟩ := s_xs hxs
    have hE8 := hE.2.2.2.2.2.2.2 i hi
    split at ha3
    · rename_i eo
      obtain ⟨eo, rfl⟩ := eo
      cases ha3
      have kk := kk H locs cells slots lsx hH hS hl hc hs
      rw [eo] at hown
      rw [List.map_cons] at kk ⊢
      rw [s_con_ref ad (by omega), ei]
      exact vk_getf hx hb hE8.2.1 hS hown (s_hts hts k_cdr rfl) (fun _ z => z) hd kk
    · split at ha3
      · rename_i eo
        obtain ⟨eo, rfl⟩ := eo
        cases ha3
        have kk := kk H locs cells slots lsx hH hS hl hc hs
        rw [eo] at hown
        rw [List.map_cons] at kk ⊢
        rw [s_con_ref ad (by omega), ei] at kk
        rw [s_con_ref ad (by omega), ei]
        have e50 : 10010 + i + 60 = 10070 + i := by omega
        rw [e50] at kk
        exact vk_getf hx hb hE8.2.2.1 hS hown (s_hts hts k_val rfl) (fun _ z => z) hd kk
      · cases ha3
  · rename_i ex
    obtain ⟨q1, e1, ha3⟩ := i_op ha2
    obtain ⟨hk, ha4⟩ := i_ck ha3
    have hk := i_n hk
    cases ha4
    obtain ⟨g1, g2⟩ := m_fnd_c (by rfl) e1
    obtain ⟨f1, f2, f3, f4⟩ := k_fld _ g1 _ g2
    dsimp only at f1 f2 f3 f4
    have hal : a < K.length := s_sh_lt hk (by omega)
    have hkk := hH.2.2.1 a hal (by rw [show (K.getD a (99, 0)).1 = q1.1 from hk]; omega)
    have hsh : m_sh K (a + 1) = (q1.1, m_NN.getD q1.1 0) := by
      rw [← hk]
      exact Prod.ext rfl hkk.2
    have hat := s_at (cA := cA) (ad := ad) (h := h) hsh (by omega)
    rw [s_cell_o (by omega)] at hat
    refine va_get (T := mT q1.1) hx hb hts (s_layin f1) hown hV.1 hH.1 a hat (s_cl f1) q1.2.1 f2 (s_hts hts f4 rfl) (fun _ z => z) (v := s_con ad (m_rd (s_so q1.1 q1.2.1) h (a + 1) q1.2.1)) (s_rng f2) hd ?_
    rw [f3]
    exact kk H locs cells slots lsx hH hS hl hc hs
theorem sn_getstatic {k : Nat} (F : s_F dC dI cA ad base X M d k0 p R s m args meth c) (hd : decode (m_bts M) pc = .ok (.getstatic k, n)) (ha0 : m_act X M pc (.getstatic k) n ls st K h = some (.inl q)) (kk : s_W dC dI cA ad base M k0 s0 p l e R s m args below meth c Q q.1 q.2.1 q.2.2.1 q.2.2.2.1 q.2.2.2.2) : s_W dC dI cA ad base M k0 s0 p l e R s m args below meth c Q pc ls st K h := by
  obtain ⟨hx, hb, hml, hown, hts, hV, hE, hnm, had, hsz, hfr, hlo⟩ := F
  intro H locs cells slots lsx hH hS hl hc hs
  obtain ⟨hn, ha1⟩ := i_ck ha0
  clear ha0
  have hn := i_beq hn
  subst hn
  split at ha1
  · rename_i eo
    obtain ⟨eo, rfl⟩ := eo
    cases ha1
    have kk := kk H locs cells slots lsx hH hS hl hc hs
    rw [List.map_cons, s_con_ref ad (by omega)] at kk
    rw [eo] at hown
    exact va_gets hx hb hE.2.2.2.1 hS hown (s_hts hts k_ord rfl) (fun _ z => z) hd kk
  · split at ha1
    · rename_i eo
      obtain ⟨eo, rfl⟩ := eo
      cases ha1
      rw [eo] at hown
      exact va_gets hx hb hE.2.2.2.2.2.1 hS hown (s_hts hts k_cs rfl) (fun _ z => z) hd (kk H locs cells slots lsx hH hS hl hc hs)
    · split at ha1
      · rename_i eo
        obtain ⟨eo, rfl⟩ := eo
        cases ha1
        have kk := kk H locs cells slots lsx hH hS hl hc hs
        rw [eo] at hown
        exact va_gets hx hb hE.2.2.2.2.2.2.1 hS hown (s_hts hts k_fo rfl) (fun _ z => z) hd kk
      · cases ha1
theorem sn_arraylength  (F : s_F dC dI cA ad base X M d k0 p R s m args meth c) (hd : decode (m_bts M) pc = .ok (.arraylength, n)) (ha0 : m_act X M pc (.arraylength) n ls st K h = some (.inl q)) (kk : s_W dC dI cA ad base M k0 s0 p l e R s m args below meth c Q q.1 q.2.1 q.2.2.1 q.2.2.2.1 q.2.2.2.2) : s_W dC dI cA ad base M k0 s0 p l e R s m args below meth c Q pc ls st K h := by
  obtain ⟨hx, hb, hml, hown, hts, hV, hE, hnm, had, hsz, hfr, hlo⟩ := F
  intro H locs cells slots lsx hH hS hl hc hs
  obtain ⟨hn, ha1⟩ := i_ck ha0
  clear ha0
  have hn := i_beq hn
  subst hn
  obtain ⟨a, t, rfl, ha2⟩ := i_1R ha1
  split at ha2
  · rename_i ex
    obtain ⟨hk, ha3⟩ := i_ck ha2
    cases ha3
    have kk := kk H locs cells slots lsx hH hS hl hc hs
    rw [List.map_cons] at kk ⊢
    rw [s_con_ref ad (by omega)]
    simp only [Bool.or_eq_true, Bool.and_eq_true, beq_iff_eq] at hk
    rcases hk with (hk | hk) | hk
    · have hk := hk.1
      rw [hk] at kk ⊢
      exact va_slen hx hb hE.1 (by rw [hsz]; exact Nat.lt_of_lt_of_le hE.2.1 (Nat.le_add_right _ _)) (fun z => Nat.not_le.mpr hE.2.1 z) hS hd kk
    · rw [hk] at kk ⊢
      exact va_tlen hx hb hE.2.2.2.2.1 hS rfl hd kk
    · obtain ⟨i, hi, ei⟩ := s_xb hk
      rw [ei] at kk ⊢
      refine va_tlen hx hb (hE.2.2.2.2.2.2.2 i hi).2.2.2 hS ?_ hd kk
      have e1 : m_xl X (10070 + i) = (m_tx i).length := by
        unfold m_xl
        rw [if_neg (by omega), if_neg (by omega), Nat.add_sub_cancel_left]
      show Int32.ofNat _ = Int32.ofNat (m_xl X (10070 + i))
      rw [e1]
      congr 1
      unfold m_tx
      rw [List.getD_eq_getElem?_getD, List.getD_eq_getElem?_getD, List.getElem?_map]
      cases m_txt[i]? <;> rfl
  · rename_i ex
    obtain ⟨hk, ha3⟩ := i_ck ha2
    simp only [Bool.and_eq_true] at hk
    have h1 : 20 ≤ (m_sh K (a + 1)).1 := Nat.le_of_ble_eq_true hk.1
    have h2 : (m_sh K (a + 1)).1 < 99 := by simpa using hk.2
    cases ha3
    have kk := kk H locs cells slots lsx hH hS hl hc hs
    have hal : a < K.length := s_sh_lt rfl (by omega)
    have h3 := hH.2.2.2 a hal (show 20 ≤ (m_sh K (a + 1)).1 from h1)
    have hat := s_at (cA := cA) (ad := ad) (h := h) (Prod.ext rfl rfl : m_sh K (a + 1) = ((m_sh K (a + 1)).1, (m_sh K (a + 1)).2)) (by omega)
    have h25 : (m_sh K (a + 1)).1 < 25 := h3
    have ht := s_tys_at (cA := cA) h1 h25
    generalize hsh : m_sh K (a + 1) = w at hat ht h1 h25 kk
    obtain ⟨w1, w2⟩ := w
    dsimp only at hat ht h1 h25 kk
    have hw : w1 = 20 ∨ w1 = 21 ∨ w1 = 22 ∨ w1 = 23 ∨ w1 = 24 := by omega
    rcases hw with rfl | rfl | rfl | rfl | rfl
    · exact va_alen hx hb hV.1 hH.1 a _ hat ht rfl hd kk
    · exact va_alen hx hb hV.1 hH.1 a _ hat ht rfl hd kk
    · exact va_alen hx hb hV.1 hH.1 a _ hat ht rfl hd kk
    · exact va_alen hx hb hV.1 hH.1 a _ hat ht rfl hd kk
    · exact va_alen hx hb hV.1 hH.1 a _ hat ht rfl hd kk
theorem sn_iaload  (F : s_F dC dI cA ad base X M d k0 p R s m args meth c) (hd : decode (m_bts M) pc = .ok (.iaload, n)) (ha0 : m_act X M pc (.iaload) n ls st K h = some (.inl q)) (kk : s_W dC dI cA ad base M k0 s0 p l e R s m args below meth c Q q.1 q.2.1 q.2.2.1 q.2.2.2.1 q.2.2.2.2) : s_W dC dI cA ad base M k0 s0 p l e R s m args below meth c Q pc ls st K h := by
  obtain ⟨hx, hb, hml, hown, hts, hV, hE, hnm, had, hsz, hfr, hlo⟩ := F
  intro H locs cells slots lsx hH hS hl hc hs
  obtain ⟨hn, ha1⟩ := i_ck ha0
  clear ha0
  have hn := i_beq hn
  subst hn
  obtain ⟨j, t, rfl, ha2⟩ := i_1I ha1
  obtain ⟨a, t, rfl, ha3⟩ := i_1R ha2
  split at ha3
  · rename_i ex
    obtain ⟨hk, ha4⟩ := i_ck ha3
    cases ha4
    have kk := kk H locs cells slots lsx hH hS hl hc hs
    simp only [Bool.and_eq_true, Bool.or_eq_true, beq_iff_eq] at hk
    have hin := i_in hk.2
    rw [List.map_cons] at kk ⊢
    rw [List.map_cons, s_con_ref ad (by omega)]
    rcases hk.1 with hk | hk
    · have hk := hk.1
      rw [hk] at kk hin ⊢
      exact va_sld hx hb hE.1 (by rw [hsz]; exact Nat.lt_of_lt_of_le hE.2.1 (Nat.le_add_right _ _)) (fun z => Nat.not_le.mpr hE.2.1 z) hS hin hd kk
    · rw [hk] at kk hin ⊢
      exact va_ti hx hb hE.2.2.2.2.1 hS hin rfl hd kk
  · rename_i ex
    obtain ⟨hk, ha4⟩ := i_ck ha3
    cases ha4
    have kk := kk H locs cells slots lsx hH hS hl hc hs
    simp only [Bool.and_eq_true] at hk
    have h1 := i_n hk.1
    have hat := s_at (cA := cA) (ad := ad) (h := h) (Prod.ext h1 rfl : m_sh K (a + 1) = (20, (m_sh K (a + 1)).2)) (by omega)
    rw [s_cell_i (Or.inl rfl)] at hat
    exact va_iald hx hb hV.1 hH.1 a 0 hat rfl (i_in hk.2) hd kk
theorem sn_laload  (F : s_F dC dI cA ad base X M d k0 p R s m args meth c) (hd : decode (m_bts M) pc = .ok (.laload, n)) (ha0 : m_act X M pc (.laload) n ls st K h = some (.inl q)) (kk : s_W dC dI cA ad base M k0 s0 p l e R s m args below meth c Q q.1 q.2.1 q.2.2.1 q.2.2.2.1 q.2.2.2.2) : s_W dC dI cA ad base M k0 s0 p l e R s m args below meth c Q pc ls st K h := by
  obtain ⟨hx, hb, hml, hown, hts, hV, hE, hnm, had, hsz, hfr, hlo⟩ := F
  intro H locs cells slots lsx hH hS hl hc hs
  obtain ⟨hn, ha1⟩ := i_ck ha0
  clear ha0
  have hn := i_beq hn
  subst hn
  obtain ⟨j, t, rfl, ha2⟩ := i_1I ha1
  obtain ⟨a, t, rfl, ha3⟩ := i_1R ha2
  obtain ⟨hk, ha4⟩ := i_ck ha3
  cases ha4
  have kk := kk H locs cells slots lsx hH hS hl hc hs
  simp only [Bool.and_eq_true] at hk
  have h1 := i_n hk.1.2
  have hat := s_at (cA := cA) (ad := ad) (h := h) (Prod.ext h1 rfl : m_sh K (a + 1) = (21, (m_sh K (a + 1)).2)) (by omega)
  rw [s_cell_l] at hat
  exact va_lald hx hb hV.1 hH.1 a 1 hat rfl (i_in hk.2) hd kk
theorem sn_aaload  (F : s_F dC dI cA ad base X M d k0 p R s m args meth c) (hd : decode (m_bts M) pc = .ok (.aaload, n)) (ha0 : m_act X M pc (.aaload) n ls st K h = some (.inl q)) (kk : s_W dC dI cA ad base M k0 s0 p l e R s m args below meth c Q q.1 q.2.1 q.2.2.1 q.2.2.2.1 q.2.2.2.2) : s_W dC dI cA ad base M k0 s0 p l e R s m args below meth c Q pc ls st K h := by
  obtain ⟨hx, hb, hml, hown, hts, hV, hE, hnm, had, hsz, hfr, hlo⟩ := F
  intro H locs cells slots lsx hH hS hl hc hs
  obtain ⟨hn, ha1⟩ := i_ck ha0
  clear ha0
  have hn := i_beq hn
  subst hn
  obtain ⟨j, t, rfl, ha2⟩ := i_1I ha1
  obtain ⟨a, t, rfl, ha3⟩ := i_1R ha2
  obtain ⟨hk, ha4⟩ := i_ck ha3
  cases ha4
  have kk := kk H locs cells slots lsx hH hS hl hc hs
  simp only [Bool.and_eq_true] at hk
  have h1 := i_n hk.1.2
  have hat := s_at (cA := cA) (ad := ad) (h := h) (Prod.ext h1 rfl : m_sh K (a + 1) = (24, (m_sh K (a + 1)).2)) (by omega)
  rw [s_cell_r] at hat
  rw [List.map_cons, ← s_rf] at kk
  exact va_aldq hx hb hV.1 hH.1 a 4 hat rfl (i_in hk.2) hd kk
theorem sn_baload  (F : s_F dC dI cA ad base X M d k0 p R s m args meth c) (hd : decode (m_bts M) pc = .ok (.baload, n)) (ha0 : m_act X M pc (.baload) n ls st K h = some (.inl q)) (kk : s_W dC dI cA ad base M k0 s0 p l e R s m args below meth c Q q.1 q.2.1 q.2.2.1 q.2.2.2.1 q.2.2.2.2) : s_W dC dI cA ad base M k0 s0 p l e R s m args below meth c Q pc ls st K h := by
  obtain ⟨hx, hb, hml, hown, hts, hV, hE, hnm, had, hsz, hfr, hlo⟩ := F
  intro H locs cells slots lsx hH hS hl hc hs
  obtain ⟨hn, ha1⟩ := i_ck ha0
  clear ha0
  have hn := i_beq hn
  subst hn
  obtain ⟨j, t, rfl, ha2⟩ := i_1I ha1
  obtain ⟨a, t, rfl, ha3⟩ := i_1R ha2
  split at ha3
  · rename_i ex
    obtain ⟨hk, ha4⟩ := i_ck ha3
    cases ha4
    have kk := kk H locs cells slots lsx hH hS hl hc hs
    simp only [Bool.and_eq_true] at hk
    have hin := i_in hk.2
    obtain ⟨i, hi, ei⟩ := s_xb hk.1
    rw [List.map_cons] at kk ⊢
    rw [List.map_cons, s_con_ref ad (by omega), ei]
    rw [ei] at hin kk
    have e1 : m_xl X (10070 + i) = (m_txt.map List.length).getD i 0 := by
      unfold m_xl
      rw [if_neg (by omega), if_neg (by omega), Nat.add_sub_cancel_left]
      unfold m_tx
      rw [List.getD_eq_getElem?_getD, List.getD_eq_getElem?_getD, List.getElem?_map]
      cases m_txt[i]? <;> rfl
    rw [e1] at hin
    rw [Nat.add_sub_cancel_left] at kk
    exact va_tb hx hb (hE.2.2.2.2.2.2.2 i hi).2.2.2 hS hin rfl hd kk
  · rename_i ex
    obtain ⟨hk, ha4⟩ := i_ck ha3
    cases ha4
    have kk := kk H locs cells slots lsx hH hS hl hc hs
    simp only [Bool.and_eq_true, Bool.or_eq_true] at hk
    rcases hk.1 with h1 | h1
    · have h1 := i_n h1
      have hat := s_at (cA := cA) (ad := ad) (h := h) (Prod.ext h1 rfl : m_sh K (a + 1) = (22, (m_sh K (a + 1)).2)) (by omega)
      rw [s_cell_i (Or.inr (Or.inl rfl))] at hat
      exact va_zald hx hb hV.1 hH.1 a 2 hat rfl (i_in hk.2) hd kk
    · have h1 := i_n h1
      have hat := s_at (cA := cA) (ad := ad) (h := h) (Prod.ext h1 rfl : m_sh K (a + 1) = (23, (m_sh K (a + 1)).2)) (by omega)
      rw [s_cell_i (Or.inr (Or.inr rfl))] at hat
      exact va_bald hx hb hV.1 hH.1 a 3 hat rfl (i_in hk.2) hd kk
end SI
