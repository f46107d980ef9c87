/-! A STATE OF THE CLASS AS A VALUE: fields, days, loaves; read from and put into the heap -/
abbrev RS : Type := (Nat → Int32) × (Nat → Int32) × (Nat → Int32)
def gS (h : HT) (a : Nat) : RS := (m_gI h a, m_gI h (a + 1), m_gI h (a + 2))
def pS (h : HT) (a : Nat) (r : RS) : HT := (fun c k => if c = a then r.1 k else if c = a + 1 then r.2.1 k else if c = a + 2 then r.2.2 k else h.1 c k, h.2)
def up (f : Nat → Int32) (k : Nat) (v : Int32) : Nat → Int32 := fun j => if j = k then v else f j
theorem up_s {f : Nat → Int32} {k : Nat} {v : Int32} : up f k v k = v := if_pos rfl
theorem gI_pS0 {h : HT} {a k : Nat} {r : RS} : m_gI (pS h a r) a k = r.1 k := if_pos rfl
theorem gI_pS1 {h : HT} {a k : Nat} {r : RS} : m_gI (pS h a r) (a + 1) k = r.2.1 k := by
  show (if a + 1 = a then _ else _) = _
  rw [if_neg (by omega), if_pos rfl]
theorem gI_pS2 {h : HT} {a k : Nat} {r : RS} : m_gI (pS h a r) (a + 2) k = r.2.2 k := by
  show (if a + 2 = a then _ else _) = _
  rw [if_neg (by omega), if_neg (by omega), if_pos rfl]
theorem gI_pSo {h : HT} {a c k : Nat} {r : RS} (n : c < a ∨ a + 3 ≤ c) : m_gI (pS h a r) c k = m_gI h c k := by
  show (if c = a then _ else _) = _
  rw [if_neg (by omega), if_neg (by omega), if_neg (by omega)]
  rfl
theorem gR_pS {h : HT} {a c k : Nat} {r : RS} : m_gR (pS h a r) c k = m_gR h c k := rfl
theorem gL_pS {h : HT} {a c k : Nat} {r : RS} : m_gL (pS h a r) c k = m_gL h c k := rfl
theorem Ptr_pS {h : HT} {a : Nat} {r : RS} : Ptr (pS h a r) = Ptr h := rfl
theorem hx {h g : HT} (e : ∀ c k, h.1 c k = g.1 c k) (e2 : h.2 = g.2) : h = g := Prod.ext (funext fun c => funext fun k => e c k) e2
theorem sI_pS0 {h : HT} {a k : Nat} {r : RS} {v : Int32} : m_sI (pS h a r) a k v = pS h a (up r.1 k v, r.2) := by
  apply hx
  · intro c j
    show (if c = a ∧ j = k then v else if c = a then r.1 j else _) = if c = a then (if j = k then v else r.1 j) else _
    by_cases z : c = a
    · by_cases y : j = k
      · rw [if_pos ⟨z, y⟩, if_pos z, if_pos y]
      · rw [if_neg (fun w => y w.2), if_pos z, if_pos z, if_neg y]
    · rw [if_neg (fun w => z w.1), if_neg z, if_neg z]
  · rfl
theorem sI_pS1 {h : HT} {a k : Nat} {r : RS} {v : Int32} : m_sI (pS h a r) (a + 1) k v = pS h a (r.1, up r.2.1 k v, r.2.2) := by
  apply hx
  · intro c j
    show (if c = a + 1 ∧ j = k then v else if c = a then r.1 j else if c = a + 1 then r.2.1 j else _) = if c = a then r.1 j else if c = a + 1 then (if j = k then v else r.2.1 j) else _
    by_cases z : c = a + 1
    · by_cases y : j = k
      · rw [if_pos ⟨z, y⟩, if_neg (by omega), if_pos z, if_pos y]
      · rw [if_neg (fun w => y w.2), if_neg (by omega), if_pos z, if_neg (by omega), if_pos z, if_neg y]
    · rw [if_neg (fun w => z w.1)]
      by_cases y : c = a
      · rw [if_pos y, if_pos y]
      · rw [if_neg y, if_neg z, if_neg y, if_neg z]
  · rfl
theorem sI_pS2 {h : HT} {a k : Nat} {r : RS} {v : Int32} : m_sI (pS h a r) (a + 2) k v = pS h a (r.1, r.2.1, up r.2.2 k v) := by
  apply hx
  · intro c j
    show (if c = a + 2 ∧ j = k then v else if c = a then r.1 j else if c = a + 1 then r.2.1 j else if c = a + 2 then r.2.2 j else _) = if c = a then r.1 j else if c = a + 1 then r.2.1 j else if c = a + 2 then (if j = k then v else r.2.2 j) else _
    by_cases z : c = a + 2
    · by_cases y : j = k
      · rw [if_pos ⟨z, y⟩, if_neg (by omega), if_neg (by omega), if_pos z, if_pos y]
      · rw [if_neg (fun w => y w.2), if_neg (by omega), if_neg (by omega), if_pos z, if_neg (by omega), if_neg (by omega), if_pos z, if_neg y]
    · rw [if_neg (fun w => z w.1)]
      by_cases y : c = a
      · rw [if_pos y, if_pos y]
      · rw [if_neg y, if_neg y]
        by_cases x : c = a + 1
        · rw [if_pos x, if_pos x]
        · rw [if_neg x, if_neg x, if_neg z, if_neg z]
  · rfl
theorem pS_gS {h : HT} {a : Nat} : pS h a (gS h a) = h := by
  apply hx
  · intro c k
    show (if c = a then m_gI h a k else if c = a + 1 then m_gI h (a + 1) k else if c = a + 2 then m_gI h (a + 2) k else h.1 c k) = h.1 c k
    split
    · next z => rw [z]; rfl
    · split
      · next z => rw [z]; rfl
      · split
        · next z => rw [z]; rfl
        · rfl
  · rfl
theorem gS_pS {h : HT} {a : Nat} {r : RS} : gS (pS h a r) a = r := by
  have e1 : m_gI (pS h a r) a = r.1 := funext fun k => gI_pS0
  have e2 : m_gI (pS h a r) (a + 1) = r.2.1 := funext fun k => gI_pS1
  have e3 : m_gI (pS h a r) (a + 2) = r.2.2 := funext fun k => gI_pS2
  unfold gS
  rw [e1, e2, e3]
theorem gS_pSo {h : HT} {a b : Nat} {r : RS} (n : b + 3 ≤ a ∨ a + 3 ≤ b) : gS (pS h a r) b = gS h b := by
  have e1 : m_gI (pS h a r) b = m_gI h b := funext fun k => gI_pSo (by omega)
  have e2 : m_gI (pS h a r) (b + 1) = m_gI h (b + 1) := funext fun k => gI_pSo (by omega)
  have e3 : m_gI (pS h a r) (b + 2) = m_gI h (b + 2) := funext fun k => gI_pSo (by omega)
  unfold gS
  rw [e1, e2, e3]
theorem pS_pS {h : HT} {a : Nat} {r s : RS} : pS (pS h a r) a s = pS h a s := by
  apply hx
  · intro c k
    show (if c = a then s.1 k else if c = a + 1 then s.2.1 k else if c = a + 2 then s.2.2 k else if c = a then r.1 k else if c = a + 1 then r.2.1 k else if c = a + 2 then r.2.2 k else h.1 c k) = if c = a then s.1 k else if c = a + 1 then s.2.1 k else if c = a + 2 then s.2.2 k else h.1 c k
    split
    · rfl
    · split
      · rfl
      · split <;> rfl
  · rfl
theorem isS_apart {a b : Nat} (ha : isS a) (hb : isS b) (n : a ≠ b) : a + 3 ≤ b ∨ b + 3 ≤ a := by
  have : ∀ a ∈ stIds, ∀ b ∈ stIds, a ≠ b → a + 3 ≤ b ∨ b + 3 ≤ a := by decide +kernel
  exact this a ha b hb n
theorem isS_bd {a : Nat} (ha : isS a) : 38 ≤ a ∧ a ≤ 192 := by
  have : ∀ a ∈ stIds, 38 ≤ a ∧ a ≤ 192 := by decide +kernel
  exact this a ha
theorem CCity_eq {h g : HT} {T : Nat} {τ : CT} (hT : isT T) (e : ∀ c k, c < 38 → m_gI g c k = m_gI h c k) (H : CCity h T τ) : CCity g T τ := by
  have hT' : T ≤ 23 := by rcases hT with z | z <;> omega
  unfold CCity at *
  simp only [e T _ (by omega), e (T + 1) _ (by omega), e (T + 2) _ (by omega), e (T + 3) _ (by omega), e (T + 4) _ (by omega), e (T + 5) _ (by omega), e (T + 6) _ (by omega), e (T + 7) _ (by omega), e (T + 8) _ (by omega), e (T + 9) _ (by omega), e (T + 10) _ (by omega), e (T + 11) _ (by omega), e (T + 13) _ (by omega), e (T + 14) _ (by omega)]
  exact H
theorem CTown_pS {h : HT} {T a : Nat} {τ : CT} {r : RS} (ha : isS a) (H : CTown h T τ) : CTown (pS h a r) T τ :=
  ⟨H.1, H.2.1, H.2.2.1, CCity_eq H.1 (fun c k hc => gI_pSo (Or.inl (by have := isS_bd ha; omega))) H.2.2.2⟩
/-! what changes a state -/
def rCopy (r s : RS) : RS := ((fun k => if k = 0 ∨ 3 ≤ k ∧ k ≤ 7 then s.1 k else r.1 k), (fun k => if k < 7 then s.2.1 k else r.2.1 k), fun k => if k < 7 then s.2.2 k else r.2.2 k)
def rHome (r : RS) (x : Int32) : RS := (up r.1 0 (r.1 0 &&& (x ^^^ (-1))), r.2)
def rWalkL (r : RS) (n : Nat) (i : Nat) : RS := (r.1, (fun k => if k < i ∧ n.testBit k = true then 0 else r.2.1 k), r.2.2)
def rWalk (r : RS) (n : Nat) : RS := (up r.1 0 (r.1 0 ||| nI n), (rWalkL r n 7).2)
theorem c_goHome {X : XT} {d a : Nat} {h : HT} {Q : QT} {x : Int32} (ha : isS a) : wq X d 113 0 [some (.ref a), some (.int x)] [] h Q = Q none (pS h a (rHome (gS h a) x)) := by
  simp only [u113_0, u113_1, u113_2, u113_5, u113_6, u113_7, u113_8, u113_9, u113_12, eq_self, q_nl0, q_nlI, q_nlR, not_false_eq_true, q_nz0, q_nz1, q_zv0, q_zv1, q_tl1, q_tl0, q_wif, q_swc, q_swn, List.cons_append, List.nil_append, shS_0 ha]
  rw [← pS_gS (h := h) (a := a)]
  simp only [sI_pS0, gI_pS0, gS_pS, pS_pS]
  rfl
theorem c_walkOut {X : XT} {d a n : Nat} {h : HT} {Q : QT} (ha : isS a) (hp : Ptr h) (hn : n < 128) : wq X d 109 0 [some (.ref a), some (.int (nI n)), none] [] h Q = Q none (pS h a (rWalk (gS h a) n)) := by
  simp only [u109_0, u109_1, eq_self, q_nl0, q_nlI, q_nlR, not_false_eq_true, q_nz0, q_nz1, q_zv0, q_zv1, q_tl1, q_tl0, q_wif, q_swc, q_swn, List.cons_append, List.nil_append]
  refine Eq.trans (b := wq X d 109 2 [some (.ref a), some (.int (nI n)), some (.int (nI 0))] [] (pS h a (rWalkL (gS h a) n 0)) Q) ?_ ?_
  · have : rWalkL (gS h a) n 0 = gS h a := by
      unfold rWalkL
      refine Prod.ext rfl (Prod.ext (funext fun k => ?_) rfl)
      show (if k < 0 ∧ n.testBit k = true then (0 : Int32) else (gS h a).2.1 k) = (gS h a).2.1 k
      rw [if_neg (by rintro ⟨w, _⟩; omega)]
    rw [this, pS_gS]
    rfl
  refine (q_loop (fun i => wq X d 109 2 [some (.ref a), some (.int (nI n)), some (.int (nI i))] [] (pS h a (rWalkL (gS h a) n i)) Q) 7 ?_).trans ?_
  · intro i hi
    show wq X d 109 2 _ _ _ _ = _
    rw [u109_2]
    have e2 : (nI i < 7) = True := eq_true (nI_lt (b := 7) (by omega) (by omega))
    have e3 : m_in (nI i) 7 = true := q_in (by omega) (by decide)
    have ep : Ptr (pS h a (rWalkL (gS h a) n i)) := hp
    simp only [u109_3, u109_5, u109_8, u109_9, u109_10, u109_11, u109_12, u109_13, u109_14, u109_17, u109_18, u109_21, u109_22, u109_23, u109_24, u109_27, eq_self, q_nl0, q_nlI, q_nlR, not_false_eq_true, q_nz0, q_nz1, q_zv0, q_zv1, q_tl1, q_tl0, q_wif, q_swc, q_swn, List.cons_append, List.nil_append, e2, e3, if_true, nI_bit4 n hn i (by omega), shS_0 ha, shS_1 ha, gR_pS, pS_1 ha hp, q_cl (show i < 2 ^ 31 by omega), sI_pS1, nI_1]
    have es : rWalkL (gS h a) n (i + 1) = if n.testBit i = true then (rWalkL (gS h a) n i |>.1, up (rWalkL (gS h a) n i).2.1 i 0, (rWalkL (gS h a) n i).2.2) else rWalkL (gS h a) n i := by
      split
      · next z =>
        refine Prod.ext rfl (Prod.ext (funext fun k => ?_) rfl)
        show (if k < i + 1 ∧ n.testBit k = true then (0 : Int32) else (gS h a).2.1 k) = if k = i then 0 else if k < i ∧ n.testBit k = true then 0 else (gS h a).2.1 k
        by_cases y : k = i
        · rw [if_pos y, y, if_pos ⟨by omega, z⟩]
        · rw [if_neg y]
          by_cases w : k < i ∧ n.testBit k = true
          · rw [if_pos w, if_pos ⟨by omega, w.2⟩]
          · rw [if_neg w, if_neg (fun v => w ⟨by omega, v.2⟩)]
      · next z =>
        refine Prod.ext rfl (Prod.ext (funext fun k => ?_) rfl)
        show (if k < i + 1 ∧ n.testBit k = true then (0 : Int32) else (gS h a).2.1 k) = if k < i ∧ n.testBit k = true then 0 else (gS h a).2.1 k
        by_cases w : k < i ∧ n.testBit k = true
        · rw [if_pos w, if_pos ⟨by omega, w.2⟩]
        · rw [if_neg w, if_neg]
          rintro ⟨v1, v2⟩
          by_cases y : k = i
          · rw [y] at v2; exact z v2
          · exact w ⟨by omega, v2⟩
    rw [es]
    split <;> rfl
  · rw [u109_2]
    simp only [u109_3, u109_5, u109_8, u109_9, u109_10, u109_11, u109_12, u109_13, u109_14, u109_17, u109_18, u109_21, u109_22, u109_23, u109_24, u109_27, u109_30, u109_31, u109_32, u109_35, u109_36, u109_37, u109_40, eq_self, q_nl0, q_nlI, q_nlR, not_false_eq_true, q_nz0, q_nz1, q_zv0, q_zv1, q_tl1, q_tl0, q_wif, q_swc, q_swn, List.cons_append, List.nil_append, eq_false (show ¬ nI 7 < 7 by decide), if_false, shS_0 ha, gI_pS0, sI_pS0]
    rfl
def rCopyL (r s : RS) (i : Nat) : RS := (up r.1 0 (s.1 0), (fun k => if k < i then s.2.1 k else r.2.1 k), fun k => if k < i then s.2.2 k else r.2.2 k)
theorem rCopyL_s {r s : RS} {i : Nat} : rCopyL r s (i + 1) = ((rCopyL r s i).1, up (rCopyL r s i).2.1 i (s.2.1 i), up (rCopyL r s i).2.2 i (s.2.2 i)) := by
  refine Prod.ext rfl (Prod.ext (funext fun k => ?_) (funext fun k => ?_))
  · show (if k < i + 1 then s.2.1 k else r.2.1 k) = if k = i then s.2.1 i else if k < i then s.2.1 k else r.2.1 k
    by_cases y : k = i
    · rw [if_pos y, if_pos (by omega), y]
    · rw [if_neg y]
      by_cases w : k < i
      · rw [if_pos w, if_pos (by omega)]
      · rw [if_neg w, if_neg (by omega)]
  · show (if k < i + 1 then s.2.2 k else r.2.2 k) = if k = i then s.2.2 i else if k < i then s.2.2 k else r.2.2 k
    by_cases y : k = i
    · rw [if_pos y, if_pos (by omega), y]
    · rw [if_neg y]
      by_cases w : k < i
      · rw [if_pos w, if_pos (by omega)]
      · rw [if_neg w, if_neg (by omega)]
theorem c_copy {X : XT} {d a b : Nat} {h : HT} {Q : QT} (ha : isS a) (hb : isS b) (n : a ≠ b) (hp : Ptr h) : wq X d 105 0 [some (.ref a), some (.ref b), none] [] h Q = Q none (pS h a (rCopy (gS h a) (gS h b))) := by
  have ap := isS_apart ha hb n
  have n0 : b < a ∨ a + 3 ≤ b := by omega
  have n1 : b + 1 < a ∨ a + 3 ≤ b + 1 := by omega
  have n2 : b + 2 < a ∨ a + 3 ≤ b + 2 := by omega
  simp only [u105_0, u105_1, u105_2, u105_5, u105_8, u105_9, eq_self, q_nl0, q_nlI, q_nlR, not_false_eq_true, q_nz0, q_nz1, q_zv0, q_zv1, q_tl1, q_tl0, q_wif, q_swc, q_swn, List.cons_append, List.nil_append, shS_0 ha, shS_0 hb]
  refine Eq.trans (b := wq X d 105 10 [some (.ref a), some (.ref b), some (.int (nI 0))] [] (pS h a (rCopyL (gS h a) (gS h b) 0)) Q) ?_ ?_
  · have : rCopyL (gS h a) (gS h b) 0 = (up (gS h a).1 0 (m_gI h b 0), (gS h a).2) := by
      refine Prod.ext rfl (Prod.ext (funext fun k => ?_) (funext fun k => ?_))
      · show (if k < 0 then m_gI h (b + 1) k else m_gI h (a + 1) k) = m_gI h (a + 1) k
        rw [if_neg (by omega)]
      · show (if k < 0 then m_gI h (b + 2) k else m_gI h (a + 2) k) = m_gI h (a + 2) k
        rw [if_neg (by omega)]
    rw [this, ← sI_pS0, pS_gS]
    rfl
  refine (q_loop (fun i => wq X d 105 10 [some (.ref a), some (.ref b), some (.int (nI i))] [] (pS h a (rCopyL (gS h a) (gS h b) i)) Q) 7 ?_).trans ?_
  · intro i hi
    show wq X d 105 10 _ _ _ _ = _
    rw [u105_10]
    have e2 : (nI i < 7) = True := eq_true (nI_lt (b := 7) (by omega) (by omega))
    have e3 : m_in (nI i) 7 = true := q_in (by omega) (by decide)
    simp only [u105_11, u105_13, u105_16, u105_17, u105_20, u105_21, u105_22, u105_25, u105_26, u105_27, u105_28, u105_29, u105_32, u105_33, u105_34, u105_37, u105_38, u105_39, u105_40, u105_43, eq_self, q_nl0, q_nlI, q_nlR, not_false_eq_true, q_nz0, q_nz1, q_zv0, q_zv1, q_tl1, q_tl0, q_wif, q_swc, q_swn, List.cons_append, List.nil_append, e2, e3, if_true, shS_0 ha, shS_1 ha, shS_2 ha, shS_0 hb, shS_1 hb, shS_2 hb, gR_pS, pS_1 ha hp, pS_2 ha hp, pS_1 hb hp, pS_2 hb hp, q_cl (show i < 2 ^ 31 by omega), gI_pSo n1, gI_pSo n2, sI_pS1, sI_pS2, nI_1, rCopyL_s]
    rfl
  · rw [u105_10]
    simp only [u105_11, u105_13, u105_16, u105_17, u105_20, u105_21, u105_22, u105_25, u105_26, u105_27, u105_28, u105_29, u105_32, u105_33, u105_34, u105_37, u105_38, u105_39, u105_40, u105_43, u105_46, u105_47, u105_48, u105_51, u105_54, u105_55, u105_56, u105_59, u105_62, u105_63, u105_64, u105_67, u105_70, u105_71, u105_72, u105_75, u105_78, u105_79, u105_80, u105_83, u105_86, eq_self, q_nl0, q_nlI, q_nlR, not_false_eq_true, q_nz0, q_nz1, q_zv0, q_zv1, q_tl1, q_tl0, q_wif, q_swc, q_swn, List.cons_append, List.nil_append, eq_false (show ¬ nI 7 < 7 by decide), if_false, shS_0 ha, shS_0 hb, gI_pSo n0, sI_pS0]
    refine congrArg (fun z => Q none (pS h a z)) (Prod.ext (funext fun k => ?_) rfl)
    show (if k = 7 then m_gI h b 7 else if k = 6 then m_gI h b 6 else if k = 5 then m_gI h b 5 else if k = 4 then m_gI h b 4 else if k = 3 then m_gI h b 3 else if k = 0 then m_gI h b 0 else m_gI h a k) = if k = 0 ∨ 3 ≤ k ∧ k ≤ 7 then m_gI h b k else m_gI h a k
    by_cases w : k = 0 ∨ 3 ≤ k ∧ k ≤ 7
    · rw [if_pos w]
      have : k = 0 ∨ k = 3 ∨ k = 4 ∨ k = 5 ∨ k = 6 ∨ k = 7 := by omega
      rcases this with z | z | z | z | z | z <;> subst z <;> rfl
    · rw [if_neg w, if_neg (by omega), if_neg (by omega), if_neg (by omega), if_neg (by omega), if_neg (by omega), if_neg (by omega)]
def rLoaves (r : RS) (m : Nat) (n : Int32) : RS := (r.1, r.2.1, up r.2.2 m (if 99 < r.2.2 m + n then 99 else r.2.2 m + n))
