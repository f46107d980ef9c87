section SI
variable {dC : Nat → ClassId} {dI : Nat → Nat → Nat} {cA : Nat → ClassId} {ad : Nat → Nat} {base : Nat} {X : XT}
/-- a callee's contract -/
abbrev s_Met (dC : Nat → ClassId) (dI : Nat → Nat → Nat) (cA : Nat → ClassId) (ad : Nat → Nat) (base : Nat) (X : XT) (l : Launch) (d y : Nat) (As : List Value) (K : KT) (h : HT) (v : Option Value) (K' : KT) (h' : HT) : Prop :=
  Met l (m_nm y) (Cond.code (m_nm y) (m_bts y) (m_ml y) (m_rt y) :: s_TB) ({ frames := d + 1, cells := K'.length - K.length, slots := m_sl K' - m_sl K, locals := 64 * (d + 1) }) (s_Pc dC dI cA ad base X As K h) (s_Qc dC dI cA ad base v K' h') (K'.length - K.length) (m_sl K' - m_sl K) (s_A base)
section SC
variable {M d k0 s0 : Nat} {p : Program} {l : Launch} {e : Env} {R : Room} {s : State} {m : MethodId} {args : Array Value} {below : List Frame} {meth : Method} {c : Code} {Q : State → Prop}
variable {pc n : Nat} {ls : LT} {st : List Value} {K : KT} {h : HT}
theorem s_cgood {y : Nat} (hy : y < 315) : Cond.code (m_nm y) (m_bts y) (m_ml y) (m_rt y) ∈ s_TB := s_in (k_code hy) rfl
theorem s_ws2 {y : Nat} (hy : y < 315) {w : Cond} (hw : w ∈ Cond.code (m_nm y) (m_bts y) (m_ml y) (m_rt y) :: s_TB) : w ∈ s_TB := by
  rcases List.mem_cons.mp hw with z | z
  · rw [z]; exact s_cgood hy
  · exact z
theorem s_nst_in {own : String} {k w : Nat} {y : MethodName} {host : String} (h : s_wd w = some (Cond.methodLinkNest own k y host)) : Cond.methodLinkNest own k y host ∈ s_nst := by
  refine List.mem_filter.mpr ⟨?_, rfl⟩
  have hm := s_wd_mem h
  unfold lw_tbl at hm
  rcases List.mem_append.mp hm with z | z
  · unfold k2_sels at z
    obtain ⟨q, -, hq⟩ := List.mem_map.mp z
    cases hq
  · exact z
set_option maxHeartbeats 1000000 in
/-- a call: from the callee's contract, and from what follows it -/
theorem s_call {i : Instr} {y : Nat} {As rest : List Value} {v : Option Value} {K1 : KT} {h1 : HT} (F : s_F dC dI cA ad base X M (d + 1) k0 p R s m args meth c) (hd : decode (m_bts M) pc = .ok (i, n)) (ha0 : m_act X M pc i n ls st K h = some (.inr (.inl (y, As, rest))))
    (hgr : K.length ≤ K1.length ∧ m_sl K ≤ m_sl K1) (hbd : K1.length ≤ R.cells + k0 ∧ m_sl K1 ≤ R.slots + s0) (hmet : plainFor (m_nm y) = true → y < 315 → (m_loc As).length ≤ m_ml y → s_Met dC dI cA ad base X l d y As K h v K1 h1)
    (kk : s_W dC dI cA ad base M k0 s0 p l e R s m args below meth c Q (pc + 3) ls (v.toList ++ rest) K1 h1) : s_W dC dI cA ad base M k0 s0 p l e R s m args below meth c Q pc ls st K h := by
  obtain ⟨hx, hb, hml, hown, hts, hV, hE, hnm, had, hsz, hfr, hlo⟩ := F
  intro H locs cells slots lsx hH hS hl hc hs
  refine s_size (fun hz => ?_)
  have hHs : H.size = base + K.length := by
    have := s_Hsize had hH (by have := hS.1; omega)
    omega
  have hPre : ∀ U : State, U.heap = H → s.WarmedH U.vm → s_Pc dC dI cA ad base X As K h ((As.map (s_con ad)).toArray) U := fun U hU hW =>
    ⟨rfl, s_V.warm hW hV, s_E.move hW.alike (fun a h1 h2 => by rw [hU]; exact hS.2.1 a h1 h2) hE, by rw [hU]; exact hH, by rw [hU]; exact hHs⟩
  have go : va_Run p l e R s m args below meth c H locs cells slots (K1.length - K.length) (m_sl K1 - m_sl K) (F0 m pc lsx (st.map (s_con ad))) (rest.map (s_con ad)) (s_Qc dC dI cA ad base v K1 h1 (As.map (s_con ad)).toArray) (s_A base) → W p l e R s m args below meth c H locs cells slots Q (F0 m pc lsx (st.map (s_con ad))) := by
    intro hr T hT X
    obtain ⟨v', st₀, t, T', L, h0, X', hL, e1, e2, ⟨hv, hH1, hF1, hF2⟩, stp⟩ := hr T hT X
    have hv' : v' = v.map (s_con ad) := by injection hv
    subst hv'
    rw [h0] at hF1 hF2
    have hS1 : va_S (s_A base) s.heap T'.heap (locs ++ L) := ⟨Nat.le_trans hS.1 (by rw [e1]; exact hF1), fun q g1 g2 => by rw [e1, hF2 q (Nat.lt_of_lt_of_le g1 hS.1) g2]; exact hS.2.1 q g1 g2, fun q hq => by
      rcases List.mem_append.mp hq with z | z
      · exact hS.2.2 q z
      · exact hL q z⟩
    obtain ⟨t2, a1, b1⟩ := kk T'.heap (locs ++ L) (cells + (K1.length - K.length)) (slots + (m_sl K1 - m_sl K)) lsx (by rw [e1]; exact hH1) hS1 hl (by omega) (by omega) T' rfl X'
    refine ⟨t2, stp t2 ?_, b1⟩
    have e9 : (v.map (s_con ad)).toList ++ rest.map (s_con ad) = (v.toList ++ rest).map (s_con ad) := by cases v <;> rfl
    rw [e9]
    exact a1
  have hf : cells + (K1.length - K.length) ≤ R.cells ∧ slots + (m_sl K1 - m_sl K) ≤ R.slots := ⟨by omega, by omega⟩
  have hrm : ∀ y, y < 315 → d + 1 + 1 ≤ R.frames ∧ 8 + (m_ml y + 11) + 64 * (d + 1) ≤ R.locals := fun y hy => ⟨by omega, by have := k_mok2 y hy; omega⟩
  have hpar : ∀ y na, s_par y na = true → (parseMethodDescriptor (m_nm y).desc).map (fun d => d.parameters.length) = some na := fun y na hp => of_decide_eq_true hp
  rcases x_act ha0 with ⟨k, rfl⟩ | ⟨k, rfl⟩ | ⟨k, rfl⟩ | rfl | rfl | rfl | rfl
  · obtain ⟨hn, ha1⟩ := i_ck ha0
    have hn := i_beq hn
    subst hn
    obtain ⟨q1, e1, ha2⟩ := i_op ha1
    obtain ⟨g1, g2⟩ := m_fnd_c (by rfl) e1
    have hlk := k_lnk g1 _ g2
    obtain ⟨hna, ha3⟩ := i_ck ha2
    simp only [Bool.and_eq_true] at hna
    have hk0 := i_n hna.1
    have hna := Nat.le_of_ble_eq_true hna.2
    obtain ⟨o, r, ho, ha4⟩ := i_1R ha3
    obtain ⟨hrec, ha5⟩ := i_ck ha4
    obtain ⟨c1, c2, hz⟩ := i_cal ha5
    cases hz
    unfold s_lok at hlk
    dsimp only at hlk
    rw [hk0] at hlk
    simp only [Bool.and_eq_true] at hlk
    obtain ⟨⟨⟨⟨⟨⟨l1, l2⟩, l3⟩, l4⟩, l5⟩, l6⟩, l7⟩ := hlk
    have l1 := of_decide_eq_true l1
    have l3 := of_decide_eq_true l3
    have l4 := of_decide_eq_true l4
    have l5 := of_decide_eq_true l5
    have l6 := of_decide_eq_true l6
    have hst : st = st.take q1.2.2.1 ++ .ref (o + 1) :: rest := by rw [← ho, List.take_append_drop]
    have hcl := k_mok3 q1.2.1 l1
    have hrecv : ∃ cellB : Cell, H[ad (o + 1)]? = some cellB ∧ cellB.vm.isStatics = false ∧ s.vm.findClass (m_nm q1.2.1).cls = some cellB.cls := by
      unfold m_rec at hrec
      split at hrec
      · simp only [Bool.and_eq_true] at hrec
        obtain ⟨i, hi, ei⟩ := s_xs hrec.1
        rw [hcl, i_n hrec.2, ei]
        obtain ⟨cell, y1, y2, y3, -⟩ := (hE.2.2.2.2.2.2.2 i hi).1.kept hS.2.1
        exact ⟨cell, y1, y2, y3⟩
      · have h7 := i_n hrec
        have h20 := k_mok4 q1.2.1 l1
        have hol : o < K.length := s_sh_lt h7 (by omega)
        have hkk := hH.2.2.1 o hol (by rw [show (K.getD o (99, 0)).1 = m_own q1.2.1 from h7]; exact h20)
        rw [show (K.getD o (99, 0)).1 = m_own q1.2.1 from h7] at hkk
        have hat := s_at (cA := cA) (ad := ad) (h := h) (Prod.ext h7 rfl : m_sh K (o + 1) = (m_own q1.2.1, (m_sh K (o + 1)).2)) (by omega)
        rw [s_cell_o (by omega)] at hat
        rw [hcl]
        exact va_recv hV.1 hH.1 (s_cl hkk.1) hat
    have hgood : GoodIn s_TB (wsV (m_cn (m_own M)) k (m_nm q1.2.1).cls (m_nm q1.2.1) (Cond.code (m_nm q1.2.1) (m_bts q1.2.1) (m_ml q1.2.1) (m_rt q1.2.1) :: s_TB)) := by
      refine s_TB_good (fun w hw => ?_)
      unfold wsV at hw
      rcases List.mem_append.mp hw with z | z
      · simp only [List.mem_cons, List.not_mem_nil, or_false] at z
        rcases z with rfl | rfl | rfl | rfl
        · exact s_in l3 rfl
        · exact s_in l4 rfl
        · exact s_in l5 rfl
        · exact s_in l6 rfl
      · exact s_ws2 l1 z
    have hcw := cwV (R := R) (rm := ({ frames := d + 1, cells := K1.length - K.length, slots := m_sl K1 - m_sl K, locals := 64 * (d + 1) })) q1.2.2.1 hts hgood rfl rfl rfl ⟨rfl, (k_mok5 _ l1).1, (k_mok5 _ l1).2, hpar _ _ l7⟩ (hrm _ l1)
    refine go (va_runV (As := ((st.take q1.2.2.1).reverse).map (s_con ad)) (b := ad (o + 1)) ⟨hx, hb, hml, hown, hts⟩ (hmet l2 l1 c2) hcw ⟨s_blind, hrecv, hPre⟩ rfl (by simp; omega) hl.1 ?_ (lv_room (s_cats _ c1)) hd hf)
    have e0 := congrArg (List.map (s_con ad)) hst
    rw [List.map_append, List.map_cons] at e0
    refine e0.trans ?_
    rw [← List.map_reverse, List.reverse_reverse]
    rfl
  · obtain ⟨hn, ha1⟩ := i_ck ha0
    have hn := i_beq hn
    subst hn
    obtain ⟨q1, e1, ha2⟩ := i_op ha1
    obtain ⟨g1, g2⟩ := m_fnd_c (by rfl) e1
    have hlk := k_lnk g1 _ g2
    split at ha2
    · rename_i hk1
      obtain ⟨hna, ha3⟩ := i_ck ha2
      have hna := Nat.le_of_ble_eq_true hna
      obtain ⟨c1, c2, hz⟩ := i_cal ha3
      cases hz
      unfold s_lok at hlk
      dsimp only at hlk
      rw [hk1] at hlk
      simp only [Bool.and_eq_true] at hlk
      obtain ⟨⟨⟨⟨⟨l1, l2⟩, l3⟩, l4⟩, l6⟩, l7⟩ := hlk
      have l1 := of_decide_eq_true l1
      have l3 := of_decide_eq_true l3
      have l4 := of_decide_eq_true l4
      have l6 := of_decide_eq_true l6
      have hgood : GoodIn s_TB (va_wsS (m_cn (m_own M)) k (m_nm q1.2.1) (Cond.code (m_nm q1.2.1) (m_bts q1.2.1) (m_ml q1.2.1) (m_rt q1.2.1) :: s_TB)) := by
        refine s_TB_good (fun w hw => ?_)
        unfold va_wsS at hw
        rcases List.mem_append.mp hw with z | z
        · simp only [List.mem_cons, List.not_mem_nil, or_false] at z
          rcases z with rfl | rfl | rfl
          · exact s_in l3 rfl
          · exact s_in l4 rfl
          · exact s_in l6 rfl
        · exact s_ws2 l1 z
      have hcw := va_cwS (R := R) (rm := ({ frames := d + 1, cells := K1.length - K.length, slots := m_sl K1 - m_sl K, locals := 64 * (d + 1) })) q1.2.2.1 hts hgood rfl rfl rfl ⟨(k_mok5 _ l1).1, (k_mok5 _ l1).2, hpar _ _ l7⟩ (hrm _ l1)
      refine go (va_runS (As := ((st.take q1.2.2.1).reverse).map (s_con ad)) ⟨hx, hb, hml, hown, hts⟩ (hmet l2 l1 c2) hcw ⟨s_blind, hPre⟩ rfl (by simp; omega) hl.1 ?_ (lv_room (s_cats _ c1)) hd hf)
      show st.map (s_con ad) = _
      rw [← List.map_reverse, List.reverse_reverse, ← List.map_append, List.take_append_drop]
    · rename_i hk1
      obtain ⟨hna, ha3⟩ := i_ck ha2
      have hna := Nat.le_of_ble_eq_true hna
      obtain ⟨c1, c2, hz⟩ := i_cal ha3
      cases hz
      unfold s_lok at hlk
      dsimp only at hlk
      rw [hk1] at hlk
      simp only [Bool.and_eq_true] at hlk
      obtain ⟨⟨⟨⟨⟨l1, l2⟩, l3⟩, l4⟩, l6⟩, l7⟩ := hlk
      have l1 := of_decide_eq_true l1
      have l3 := of_decide_eq_true l3
      have l4 := of_decide_eq_true l4
      have l6 := of_decide_eq_true l6
      have hnw : va_Nw (Cond.methodLinkNest (m_cn (m_own M)) k (m_nm q1.2.1) "HillLeavers") s := hV.2.1 _ (s_nst_in l3)
      have hcw := va_cnB (R := R) (rm := ({ frames := d + 1, cells := K1.length - K.length, slots := m_sl K1 - m_sl K, locals := 64 * (d + 1) })) q1.2.2.1 hts (s_TB_good (fun w hw => s_ws2 l1 hw)) rfl rfl rfl hnw (s_hts hts l6 rfl) ⟨(k_mok5 _ l1).1, (k_mok5 _ l1).2, hpar _ _ l7⟩ (hrm _ l1)
      refine go (va_runSN (As := ((st.take q1.2.2.1).reverse).map (s_con ad)) ⟨hx, hb, hml, hown, hts⟩ (hmet l2 l1 c2) ⟨hcw, s_hts hts l4 rfl, trivial⟩ ⟨s_blind, hPre⟩ rfl (by simp; omega) hl.1 ?_ (lv_room (s_cats _ c1)) hd hf)
      show st.map (s_con ad) = _
      rw [← List.map_reverse, List.reverse_reverse, ← List.map_append, List.take_append_drop]
    · obtain ⟨_, _, _, -, ha3⟩ := i_2I ha2
      obtain ⟨-, ha4⟩ := i_ck ha3
      cases ha4
    · obtain ⟨_, _, _, -, ha3⟩ := i_2I ha2
      obtain ⟨-, ha4⟩ := i_ck ha3
      cases ha4
    · cases ha2
  · obtain ⟨hn, ha1⟩ := i_ck ha0
    have hn := i_beq hn
    subst hn
    obtain ⟨q1, e1, ha2⟩ := i_op ha1
    obtain ⟨g1, g2⟩ := m_fnd_c (by rfl) e1
    have hlk := k_lnk g1 _ g2
    obtain ⟨hna, ha3⟩ := i_ck ha2
    have hna := Nat.le_of_ble_eq_true hna
    obtain ⟨o, r, ho, ha4⟩ := i_1R ha3
    have hst : st = st.take q1.2.2.1 ++ .ref (o + 1) :: r := by rw [← ho, List.take_append_drop]
    split at ha4
    · obtain ⟨-, ha5⟩ := i_ck ha4
      cases ha5
    · rename_i hk1
      obtain ⟨c1, c2, hz⟩ := i_cal ha4
      cases hz
      unfold s_lok at hlk
      dsimp only at hlk
      rw [hk1] at hlk
      simp only [Bool.and_eq_true] at hlk
      obtain ⟨⟨⟨⟨⟨⟨⟨l1, l2⟩, l3⟩, l4⟩, l6⟩, l7⟩, l8⟩, l9⟩ := hlk
      have l1 := of_decide_eq_true l1
      have l3 := of_decide_eq_true l3
      have l4 := of_decide_eq_true l4
      have l6 := of_decide_eq_true l6
      have l8 := of_decide_eq_true l8
      have l9 := of_decide_eq_true l9
      have hmet := hmet l2 l1 c2
      unfold s_Met at hmet
      rw [l9] at hmet
      have hc0 := s_cgood l1
      rw [l9] at hc0
      have hcw := cwI (R := R) (rm := ({ frames := d + 1, cells := K1.length - K.length, slots := m_sl K1 - m_sl K, locals := 64 * (d + 1) })) (ws := Cond.code (m_nm q1.2.1) (m_bts q1.2.1) (m_ml q1.2.1) none :: s_TB) q1.2.2.1 hts (s_TB_good (fun w hw => by
        rcases List.mem_cons.mp hw with z | z
        · rw [z]; exact hc0
        · exact z)) rfl rfl rfl (s_hts hts l6 rfl) (s_hts hts l3 rfl) (s_hts hts l4 rfl) l8 ⟨(k_mok5 _ l1).1, (k_mok5 _ l1).2, hpar _ _ l7⟩ (hrm _ l1)
      refine go (va_runI (As := ((st.take q1.2.2.1).reverse).map (s_con ad)) (b := ad (o + 1)) ⟨hx, hb, hml, hown, hts⟩ hmet hcw ⟨s_blind, hPre⟩ rfl (by simp; omega) hl.1 ?_ (lv_room (s_cats _ c1)) hd hf)
      have e0 := congrArg (List.map (s_con ad)) hst
      rw [List.map_append, List.map_cons] at e0
      refine e0.trans ?_
      rw [← List.map_reverse, List.reverse_reverse]
      rfl
    · rename_i hk1
      obtain ⟨c1, c2, hz⟩ := i_cal ha4
      cases hz
      unfold s_lok at hlk
      dsimp only at hlk
      rw [hk1] at hlk
      simp only [Bool.and_eq_true] at hlk
      obtain ⟨⟨⟨⟨⟨⟨⟨l1, l2⟩, l3⟩, l4⟩, l6⟩, l7⟩, l8⟩, l9⟩ := hlk
      have l1 := of_decide_eq_true l1
      have l3 := of_decide_eq_true l3
      have l4 := of_decide_eq_true l4
      have l6 := of_decide_eq_true l6
      have l8 := of_decide_eq_true l8
      have l9 := of_decide_eq_true l9
      have hmet := hmet l2 l1 c2
      unfold s_Met at hmet
      rw [l9] at hmet
      have hc0 := s_cgood l1
      rw [l9] at hc0
      have hnw : va_Nw (Cond.methodLinkNest (m_cn (m_own M)) k (m_nm q1.2.1) "HillLeavers") s := hV.2.1 _ (s_nst_in l3)
      have hcw := va_cnB (R := R) (rm := ({ frames := d + 1, cells := K1.length - K.length, slots := m_sl K1 - m_sl K, locals := 64 * (d + 1) })) (ws := Cond.code (m_nm q1.2.1) (m_bts q1.2.1) (m_ml q1.2.1) none :: s_TB) q1.2.2.1 hts (s_TB_good (fun w hw => by
        rcases List.mem_cons.mp hw with z | z
        · rw [z]; exact hc0
        · exact z)) rfl rfl rfl hnw (s_hts hts l6 rfl) ⟨(k_mok5 _ l1).1, (k_mok5 _ l1).2, hpar _ _ l7⟩ (hrm _ l1)
      refine go (va_runIN (As := ((st.take q1.2.2.1).reverse).map (s_con ad)) (b := ad (o + 1)) ⟨hx, hb, hml, hown, hts⟩ hmet ⟨hcw, l8, s_hts hts l4 rfl⟩ ⟨s_blind, hPre⟩ rfl (by simp; omega) hl.1 ?_ (lv_room (s_cats _ c1)) hd hf)
      have e0 := congrArg (List.map (s_con ad)) hst
      rw [List.map_append, List.map_cons] at e0
      refine e0.trans ?_
      rw [← List.map_reverse, List.reverse_reverse]
      rfl
    · cases ha4
  · exfalso
    obtain ⟨-, ha1⟩ := i_ck ha0
    split at ha1
    · obtain ⟨-, ha2⟩ := i_ck ha1
      cases ha2
    · cases ha1
  · exfalso
    obtain ⟨-, ha1⟩ := i_ck ha0
    split at ha1 <;> cases ha1
  · exfalso
    obtain ⟨-, ha1⟩ := i_ck ha0
    split at ha1 <;> cases ha1
  · exfalso
    obtain ⟨-, ha1⟩ := i_ck ha0
    split at ha1 <;> cases ha1
theorem s_rets {i : Instr} {v : Option Value} (hd : decode (m_bts M) pc = .ok (i, n)) (ha0 : m_act X M pc i n ls st K h = some (.inr (.inr v))) : s_ret M pc st v := by
  rcases x_act ha0 with ⟨k, rfl⟩ | ⟨k, rfl⟩ | ⟨k, rfl⟩ | rfl | rfl | rfl | rfl
  · exfalso
    obtain ⟨hn, ha1⟩ := i_ck ha0
    obtain ⟨q1, e1, ha2⟩ := i_op ha1
    obtain ⟨hna, ha3⟩ := i_ck ha2
    obtain ⟨o, r, ho, ha4⟩ := i_1R ha3
    obtain ⟨hrec, ha5⟩ := i_ck ha4
    obtain ⟨-, -, hz⟩ := i_cal ha5
    cases hz
  · exfalso
    obtain ⟨hn, ha1⟩ := i_ck ha0
    obtain ⟨q1, e1, ha2⟩ := i_op ha1
    split at ha2
    · obtain ⟨hna, ha3⟩ := i_ck ha2
      obtain ⟨-, -, hz⟩ := i_cal ha3
      cases hz
    · obtain ⟨hna, ha3⟩ := i_ck ha2
      obtain ⟨-, -, hz⟩ := i_cal ha3
      cases hz
    · obtain ⟨_, _, _, -, ha3⟩ := i_2I ha2
      obtain ⟨-, ha4⟩ := i_ck ha3
      cases ha4
    · obtain ⟨_, _, _, -, ha3⟩ := i_2I ha2
      obtain ⟨-, ha4⟩ := i_ck ha3
      cases ha4
    · cases ha2
  · exfalso
    obtain ⟨hn, ha1⟩ := i_ck ha0
    obtain ⟨q1, e1, ha2⟩ := i_op ha1
    obtain ⟨hna, ha3⟩ := i_ck ha2
    obtain ⟨o, r, ho, ha4⟩ := i_1R ha3
    split at ha4
    · obtain ⟨-, ha5⟩ := i_ck ha4
      cases ha5
    · obtain ⟨-, -, hz⟩ := i_cal ha4
      cases hz
    · obtain ⟨-, -, hz⟩ := i_cal ha4
      cases hz
    · cases ha4
  · obtain ⟨hn, ha1⟩ := i_ck ha0
    have hn := i_beq hn
    subst hn
    split at ha1
    · rename_i x ty ert
      obtain ⟨hz, ha2⟩ := i_ck ha1
      cases ha2
      exact Or.inr (Or.inl ⟨x, ty, rfl, rfl, hd, ert, of_decide_eq_true hz⟩)
    · cases ha1
  · obtain ⟨hn, ha1⟩ := i_ck ha0
    simp only [Bool.and_eq_true] at hn
    have hn1 := i_beq hn.1
    subst hn1
    split at ha1
    · rename_i x
      cases ha1
      exact Or.inr (Or.inr (Or.inl ⟨x, rfl, rfl, hd, of_decide_eq_true hn.2⟩))
    · cases ha1
  · obtain ⟨hn, ha1⟩ := i_ck ha0
    have hn := i_beq hn
    subst hn
    split at ha1
    · rename_i x C ert
      cases ha1
      exact Or.inr (Or.inr (Or.inr ⟨x, _, rfl, rfl, hd, ert, Or.inl ⟨C, rfl⟩⟩))
    · rename_i x C ert
      cases ha1
      exact Or.inr (Or.inr (Or.inr ⟨x, _, rfl, rfl, hd, ert, Or.inr ⟨C, rfl⟩⟩))
    · cases ha1
  · obtain ⟨hn, ha1⟩ := i_ck ha0
    simp only [Bool.and_eq_true] at hn
    have hn1 := i_beq hn.1
    subst hn1
    split at ha1
    · cases ha1
      exact Or.inl ⟨rfl, rfl, hd, of_decide_eq_true hn.2⟩
    · cases ha1
theorem s_step {i : Instr} {q : Nat × LT × List Value × KT × HT} (F : s_F dC dI cA ad base X M d k0 p R s m args meth c) (hd : decode (m_bts M) pc = .ok (i, n)) (ha : m_act X M pc i n ls st K h = some (.inl q)) (hbd : q.2.2.2.1.length ≤ R.cells + k0 ∧ m_sl q.2.2.2.1 ≤ R.slots + s0)
    (kk : s_W dC dI cA ad base M k0 s0 p l e R s m args below meth c Q q.1 q.2.1 q.2.2.1 q.2.2.2.1 q.2.2.2.2) : s_W dC dI cA ad base M k0 s0 p l e R s m args below meth c Q pc ls st K h := by
  cases i
  case iadd => exact sn_iadd F hd ha kk
  case isub => exact sn_isub F hd ha kk
  case imul => exact sn_imul F hd ha kk
  case iand => exact sn_iand F hd ha kk
  case ior => exact sn_ior F hd ha kk
  case ixor => exact sn_ixor F hd ha kk
  case ishl => exact sn_ishl F hd ha kk
  case ishr => exact sn_ishr F hd ha kk
  case iushr => exact sn_iushr F hd ha kk
  case ladd => exact sn_ladd F hd ha kk
  case lsub => exact sn_lsub F hd ha kk
  case lmul => exact sn_lmul F hd ha kk
  case lor => exact sn_lor F hd ha kk
  case land => exact sn_land F hd ha kk
  case lcmp => exact sn_lcmp F hd ha kk
  case idiv => exact sn_idiv F hd ha kk
  case irem => exact sn_irem F hd ha kk
  case ineg => exact sn_ineg F hd ha kk
  case i2l => exact sn_i2l F hd ha kk
  case l2i => exact sn_l2i F hd ha kk
  case i2b => exact sn_i2b F hd ha kk
  case i2c => exact sn_i2c F hd ha kk
  case lshl => exact sn_lshl F hd ha kk
  case lushr => exact sn_lushr F hd ha kk
  case iconst => exact sn_iconst F hd ha kk
  case bipush => exact sn_bipush F hd ha kk
  case sipush => exact sn_sipush F hd ha kk
  case lconst => exact sn_lconst F hd ha kk
  case iload_n => exact sn_iload_n F hd ha kk
  case iload => exact sn_iload F hd ha kk
  case lload_n => exact sn_lload_n F hd ha kk
  case lload => exact sn_lload F hd ha kk
  case aload_n => exact sn_aload_n F hd ha kk
  case aload => exact sn_aload F hd ha kk
  case istore_n => exact sn_istore_n F hd ha kk
  case istore => exact sn_istore F hd ha kk
  case astore_n => exact sn_astore_n F hd ha kk
  case astore => exact sn_astore F hd ha kk
  case lstore_n => exact sn_lstore_n F hd ha kk
  case lstore => exact sn_lstore F hd ha kk
  case iinc => exact sn_iinc F hd ha kk
  case pop => exact sn_pop F hd ha kk
  case dup => exact sn_dup F hd ha kk
  case dup2 => exact sn_dup2 F hd ha kk
  case goto => exact sn_goto F hd ha kk
  case ifCond => exact sn_ifCond F hd ha kk
  case if_icmp => exact sn_if_icmp F hd ha kk
  case ldc => exact sn_ldc F hd ha kk
  case ldc_w => exact sn_ldc_w F hd ha kk
  case ldc2_w => exact sn_ldc2_w F hd ha kk
  case getfield => exact sn_getfield F hd ha kk
  case getstatic => exact sn_getstatic F hd ha kk
  case arraylength => exact sn_arraylength F hd ha kk
  case iaload => exact sn_iaload F hd ha kk
  case laload => exact sn_laload F hd ha kk
  case aaload => exact sn_aaload F hd ha kk
  case baload => exact sn_baload F hd ha kk
  case iastore => exact sn_iastore F hd ha kk
  case lastore => exact sn_lastore F hd ha kk
  case bastore => exact sn_bastore F hd ha kk
  case aastore => exact sn_aastore F hd ha kk
  case putfield => exact sn_putfield F hd ha kk
  case tableswitch => exact sn_tableswitch F hd ha kk
  case lookupswitch => exact sn_lookupswitch F hd ha kk
  case new => exact sn_new F hd ha hbd kk
  case newarray => exact sn_newarray F hd ha hbd kk
  case anewarray => exact sn_anewarray F hd ha hbd kk
  case invokespecial => exact sn_invokespecial F hd ha hbd kk
  case invokestatic => exact sn_invokestatic F hd ha hbd kk
  case invokevirtual k =>
    exfalso
    obtain ⟨hn, ha1⟩ := i_ck ha
    obtain ⟨q1, e1, ha2⟩ := i_op ha1
    obtain ⟨hna, ha3⟩ := i_ck ha2
    obtain ⟨o, r, ho, ha4⟩ := i_1R ha3
    obtain ⟨hrec, ha5⟩ := i_ck ha4
    obtain ⟨-, -, hz⟩ := i_cal ha5
    cases hz
  case ireturn =>
    exfalso
    obtain ⟨-, ha1⟩ := i_ck ha
    split at ha1
    · obtain ⟨-, ha2⟩ := i_ck ha1
      cases ha2
    · cases ha1
  case lreturn =>
    exfalso
    obtain ⟨-, ha1⟩ := i_ck ha
    split at ha1 <;> cases ha1
  case areturn =>
    exfalso
    obtain ⟨-, ha1⟩ := i_ck ha
    split at ha1 <;> cases ha1
  case return_ =>
    exfalso
    obtain ⟨-, ha1⟩ := i_ck ha
    split at ha1 <;> cases ha1
  all_goals (cases ha; done)
theorem s_entry {y : Nat} {As : List Value} {v : Option Value} {K' : KT} {h' : HT} (hpl : plainFor (m_nm y) = true) (hy : y < 315) (hAs : (m_loc As).length ≤ m_ml y) (had : s_ad ad base)
    (snd : ∀ (p : Program) (e : Env) (R : Room) (s : State) (m : MethodId) (args : Array Value) (below : List Frame) (meth : Method) (c : Code) (Q : State → Prop) (k0 s0 : Nat), s_F dC dI cA ad base X y d k0 p R s m args meth c → K'.length ≤ R.cells + k0 → m_sl K' ≤ R.slots + s0 → (∀ pc' ls' st', s_ret y pc' st' v → s_W dC dI cA ad base y k0 s0 p l e R s m args below meth c Q pc' ls' st' K' h') → s_W dC dI cA ad base y k0 s0 p l e R s m args below meth c Q 0 (m_ent (m_ml y) As) [] K h)
    (hgr : K.length ≤ K'.length ∧ m_sl K ≤ m_sl K') : s_Met dC dI cA ad base X l d y As K h v K' h' := by
  refine va_MetF (cc := m_bts y) (maxL := m_ml y) (ret := m_rt y) hpl rfl ?_
  intro p e s m args below meth c s₁ B hml hv
  obtain ⟨rfl, hV, hE, hH, hHs⟩ := hv
  have hts : ∀ w ∈ s_TB, w.before (As.map (s_con ad)).toArray s = true := fun w hw => atoms_spec (ws := Cond.code (m_nm y) (m_bts y) (m_ml y) (m_rt y) :: s_TB) B.pre w (List.mem_cons_of_mem _ hw)
  have hx := B.exec
  have hb := B.bytes
  have hr := B.returns
  have hown : s.vm.findClass (m_cn (m_own y)) = some m.cls := by
    rw [← k_mok3 y hy]
    exact findClass_of_methodNamed B.named
  have hlocks := B.notSynchronized
  have hin : (m_nm y).name = "<init>" → meth.name = "<init>" := fun z => (name_of_methodNamed B.named B.method).1.trans z
  have F : s_F dC dI cA ad base X y d K.length p (headSpec (Cond.code (m_nm y) (m_bts y) (m_ml y) (m_rt y) :: s_TB) ({ frames := d + 1, cells := K'.length - K.length, slots := m_sl K' - m_sl K, locals := 64 * (d + 1) })).room s m (As.map (s_con ad)).toArray meth c :=
    ⟨hx, hb, hml, hown, hts, hV, hE, hin, had, hHs, Nat.le_refl _, Nat.le_refl _⟩
  have hl := lv_entry (As.map (s_con ad)) (n := m_ml y) (by rw [s_sllen]; exact hAs)
  rw [lg_entry_eq]
  generalize (lg_sl (As.map (s_con ad)) ++ List.replicate (m_ml y - (lg_sl (As.map (s_con ad))).length) Slot.unset).toArray = lsx at hl ⊢
  refine snd p e _ s m _ below meth c _ K.length (m_sl K) F (by show K'.length ≤ K'.length - K.length + K.length; omega) (by show m_sl K' ≤ m_sl K' - m_sl K + m_sl K; omega) ?_ s.heap [] 0 0 lsx hH va_S.rf (s_has_mono hl s_ent) (by omega) (by omega)
  intro pc' ls' st' hret H locs cells slots lsx' hH' hS' hl' hc' hs'
  have e1 : cells = K'.length - K.length := by omega
  have e2 : slots = m_sl K' - m_sl K := by omega
  subst e1
  subst e2
  rcases hret with ⟨rfl, rfl, hd, hr2⟩ | ⟨x, ty, rfl, rfl, hd, hr2, hn⟩ | ⟨x, rfl, rfl, hd, hr2⟩ | ⟨x, C, rfl, rfl, hd, hr2, ho⟩
  · exact W.vret hx hb (hr.trans hr2) (fun t ht hW => ⟨rfl, by rw [ht]; exact hH', hS'.F ht⟩) hS'.2.2 hd
  · exact W.zret hx hb (hr.trans hr2) hn (fun t ht hW => ⟨rfl, by rw [ht]; exact hH', hS'.F ht⟩) hS'.2.2 hd
  · exact W.lret hx hb (hr.trans hr2) (fun t ht hW => ⟨rfl, by rw [ht]; exact hH', hS'.F ht⟩) hS'.2.2 hd
  · exact W.aret hx hb (hr.trans hr2) ho (by cases x with | zero => exact Or.inl rfl | succ x => exact Or.inr ⟨_, rfl⟩) (fun t ht hW => ⟨rfl, by rw [ht]; exact hH', hS'.F ht⟩) hS'.2.2 hd
end SC
/-- THE JVM DOES WHAT THE SMALL MACHINE DOES -/
theorem s_sound (had : s_ad ad base) (l : Launch) : ∀ (f d M pc : Nat) (ls : LT) (st : List Value) (K : KT) (h : HT) (v : Option Value) (K' : KT) (h' : HT), m_run X f d M pc ls st K h = some (v, K', h') →
    ∀ (p : Program) (e : Env) (R : Room) (s : State) (m : MethodId) (args : Array Value) (below : List Frame) (meth : Method) (c : Code) (Q : State → Prop) (k0 s0 : Nat), s_F dC dI cA ad base X M d k0 p R s m args meth c → K'.length ≤ R.cells + k0 → m_sl K' ≤ R.slots + s0 → (∀ pc' ls' st', s_ret M pc' st' v → s_W dC dI cA ad base M k0 s0 p l e R s m args below meth c Q pc' ls' st' K' h') → s_W dC dI cA ad base M k0 s0 p l e R s m args below meth c Q pc ls st K h := by
  intro f
  induction f with
  | zero => intro d M pc ls st K h v K' h' hr; cases hr
  | succ f ih =>
    intro d M pc ls st K h v K' h' hr p e R s m args below meth c Q k0 s0 F hb1 hb2 fin
    unfold m_run at hr
    split at hr
    · cases hr
    · rename_i i n hd
      split at hr
      · cases hr
      · rename_i q hq
        have g := g_len (g_run _ _ _ _ _ _ _ _ _ _ _ hr)
        exact s_step F hd hq ⟨Nat.le_trans g.1 hb1, Nat.le_trans g.2 hb2⟩ (ih _ _ _ _ _ _ _ _ _ _ hr p e R s m args below meth c Q k0 s0 F hb1 hb2 fin)
      · rename_i w hw
        cases hr
        exact fin pc ls st (s_rets hd hw)
      · rename_i q hq
        split at hr
        · cases hr
        · rename_i d'
          split at hr
          · cases hr
          · rename_i r hrr
            obtain ⟨v1, K1, h1⟩ := r
            have g1 := g_len (g_run _ _ _ _ _ _ _ _ _ _ _ hrr)
            have g := g_len (g_run _ _ _ _ _ _ _ _ _ _ _ hr)
            obtain ⟨y, As, rest⟩ := q
            exact s_call F hd hq g1 ⟨Nat.le_trans g.1 hb1, Nat.le_trans g.2 hb2⟩ (fun hpl hy hAs => s_entry hpl hy hAs had (ih _ _ _ _ _ _ _ _ _ _ hrr) g1) (ih _ _ _ _ _ _ _ _ _ _ hr p e R s m args below meth c Q k0 s0 F hb1 hb2 fin)
end SI
