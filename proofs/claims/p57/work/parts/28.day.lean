/-! A DAY: with junk in the formula's pile -/
def hJ (h : HT) (T : Nat) (x : Int32) (c : Nat → Int32) : HT := (fun b k => if b = T + 12 then c k else if b = T + 10 ∧ k = 4 then x else h.1 b k, h.2)
theorem hG_J {h : HT} {T n : Nat} {c : Nat → Int32} : hG h T n c = hJ h T (nI n) c := rfl
theorem hJ_id {h : HT} {T : Nat} : hJ h T (m_gI h (T + 10) 4) (m_gI h (T + 12)) = h := by
  apply hx
  · intro b j
    show (if b = T + 12 then h.1 (T + 12) j else if b = T + 10 ∧ j = 4 then h.1 (T + 10) 4 else h.1 b j) = h.1 b j
    by_cases y : b = T + 12
    · rw [if_pos y, y]
    · by_cases z : b = T + 10 ∧ j = 4
      · rw [if_neg y, if_pos z, z.1, z.2]
      · rw [if_neg y, if_neg z]
  · rfl
theorem hJ_hJ {h : HT} {T : Nat} {x y : Int32} {c e : Nat → Int32} : hJ (hJ h T x c) T y e = hJ h T y e := by
  apply hx
  · intro b j
    show (if b = T + 12 then e j else if b = T + 10 ∧ j = 4 then y else if b = T + 12 then c j else if b = T + 10 ∧ j = 4 then x else h.1 b j) = if b = T + 12 then e j else if b = T + 10 ∧ j = 4 then y else h.1 b j
    by_cases u : b = T + 12
    · simp only [if_pos u]
    · by_cases z : b = T + 10 ∧ j = 4
      · simp only [if_neg u, if_pos z]
      · simp only [if_neg u, if_neg z]
  · rfl
theorem gI_hJ {h : HT} {T b k : Nat} {x : Int32} {c : Nat → Int32} (z : b ≠ T + 12) (z2 : b ≠ T + 10 ∨ k ≠ 4) : m_gI (hJ h T x c) b k = m_gI h b k := by
  show (if b = T + 12 then _ else if b = T + 10 ∧ k = 4 then _ else _) = _
  rw [if_neg z, if_neg (by omega)]
  rfl
theorem gI_hJ38 {h : HT} {T b k : Nat} {x : Int32} {c : Nat → Int32} (hT : isT T) (z : 38 ≤ b) : m_gI (hJ h T x c) b k = m_gI h b k := by
  rcases hT with t | t <;> exact gI_hJ (by omega) (by omega)
theorem gR_hJ {h : HT} {T b k : Nat} {x : Int32} {c : Nat → Int32} : m_gR (hJ h T x c) b k = m_gR h b k := rfl
theorem sI_hJ {h : HT} {T b k : Nat} {x v : Int32} {c : Nat → Int32} (z : b ≠ T + 12) (z2 : b ≠ T + 10) : m_sI (hJ h T x c) b k v = hJ (m_sI h b k v) T x c := by
  apply hx
  · intro e j
    show (if e = b ∧ j = k then v else if e = T + 12 then c j else if e = T + 10 ∧ j = 4 then x else h.1 e j) = if e = T + 12 then c j else if e = T + 10 ∧ j = 4 then x else if e = b ∧ j = k then v else h.1 e j
    by_cases w : e = b ∧ j = k
    · rw [if_pos w, if_neg (by omega), if_neg (by omega), if_pos w]
    · rw [if_neg w, if_neg w]
  · rfl
theorem sI_hJ38 {h : HT} {T b k : Nat} {x v : Int32} {c : Nat → Int32} (hT : isT T) (z : 38 ≤ b) : m_sI (hJ h T x c) b k v = hJ (m_sI h b k v) T x c := by
  rcases hT with t | t <;> exact sI_hJ (by omega) (by omega)
theorem CCity_hJ {h : HT} {T U : Nat} {τ : CT} {x : Int32} {c : Nat → Int32} (hT : isT T) (hU : isT U) (H : CCity h U τ) : CCity (hJ h T x c) U τ := by
  have e : ∀ j k, j ≤ 14 → j ≠ 12 → (j ≠ 10 ∨ k ≠ 4) → m_gI (hJ h T x c) (U + j) k = m_gI h (U + j) k := by
    intro j k h1 h2 h3
    apply gI_hJ
    · rcases hT with t | t <;> rcases hU with u | u <;> omega
    · rcases hT with t | t <;> rcases hU with u | u <;> omega
  have e0 : ∀ k, m_gI (hJ h T x c) U k = m_gI h U k := fun k => e 0 k (by omega) (by omega) (by omega)
  unfold CCity at *
  simp only [e0, e 1 _ (by omega) (by omega) (Or.inl (by omega)), e 2 _ (by omega) (by omega) (Or.inl (by omega)), e 3 _ (by omega) (by omega) (Or.inl (by omega)), e 4 _ (by omega) (by omega) (Or.inl (by omega)), e 5 _ (by omega) (by omega) (Or.inl (by omega)), e 6 _ (by omega) (by omega) (Or.inl (by omega)), e 7 _ (by omega) (by omega) (Or.inl (by omega)), e 8 _ (by omega) (by omega) (Or.inl (by omega)), e 9 _ (by omega) (by omega) (Or.inl (by omega)), e 10 1 (by omega) (by omega) (Or.inr (by omega)), e 10 2 (by omega) (by omega) (Or.inr (by omega)), e 11 _ (by omega) (by omega) (Or.inl (by omega)), e 13 _ (by omega) (by omega) (Or.inl (by omega)), e 14 _ (by omega) (by omega) (Or.inl (by omega))]
  exact H
theorem CTown_hJ {h : HT} {T U : Nat} {τ : CT} {x : Int32} {c : Nat → Int32} (hT : isT T) (H : CTown h U τ) : CTown (hJ h T x c) U τ := ⟨H.1, H.2.1, H.2.2.1, CCity_hJ hT H.1 H.2.2.2⟩
theorem hGo_J {h : HT} {T : Nat} {τ : CT} {u : UT} : ∃ x c, hGo h T τ u = hJ h T x c := by
  unfold hGo
  split
  · exact ⟨_, _, hJ_id.symm⟩
  · exact ⟨_, _, hG_J⟩
/-! eating -/
def rEatL (r : RS) (n i : Nat) : RS := (r.1, r.2.1, fun k => if k < i ∧ n.testBit k = true ∧ 0 < r.2.2 k then r.2.2 k - 1 else r.2.2 k)
def rEat (r : RS) (n : Nat) : RS := rEatL r n 7
theorem rEatL_0 {r : RS} {n : Nat} : rEatL r n 0 = r := by
  refine Prod.ext rfl (Prod.ext rfl (funext fun k => ?_))
  show (if k < 0 ∧ n.testBit k = true ∧ 0 < r.2.2 k then r.2.2 k - 1 else r.2.2 k) = r.2.2 k
  rw [if_neg (by rintro ⟨w, _⟩; omega)]
theorem rEatL_s {r : RS} {n i : Nat} : rEatL r n (i + 1) = if n.testBit i = true then if 0 < r.2.2 i then ((rEatL r n i).1, (rEatL r n i).2.1, up (rEatL r n i).2.2 i ((rEatL r n i).2.2 i - 1)) else rEatL r n i else rEatL r n i := by
  have e : (rEatL r n i).2.2 i = r.2.2 i := by
    show (if i < i ∧ n.testBit i = true ∧ 0 < r.2.2 i then r.2.2 i - 1 else r.2.2 i) = r.2.2 i
    rw [if_neg (by rintro ⟨w, _⟩; omega)]
  rw [e]
  by_cases z : n.testBit i = true ∧ 0 < r.2.2 i
  · rw [if_pos z.1, if_pos z.2]
    refine Prod.ext rfl (Prod.ext rfl (funext fun k => ?_))
    show (if k < i + 1 ∧ n.testBit k = true ∧ 0 < r.2.2 k then r.2.2 k - 1 else r.2.2 k) = if k = i then r.2.2 i - 1 else if k < i ∧ n.testBit k = true ∧ 0 < r.2.2 k then r.2.2 k - 1 else r.2.2 k
    by_cases y : k = i
    · rw [if_pos y, y, if_pos ⟨by omega, z⟩]
    · rw [if_neg y]
      by_cases w : k < i ∧ n.testBit k = true ∧ 0 < r.2.2 k
      · rw [if_pos w, if_pos ⟨by omega, w.2⟩]
      · rw [if_neg w, if_neg (fun v => w ⟨by omega, v.2⟩)]
  · have : rEatL r n (i + 1) = rEatL r n i := by
      refine Prod.ext rfl (Prod.ext rfl (funext fun k => ?_))
      show (if k < i + 1 ∧ n.testBit k = true ∧ 0 < r.2.2 k then r.2.2 k - 1 else r.2.2 k) = if k < i ∧ n.testBit k = true ∧ 0 < r.2.2 k then r.2.2 k - 1 else r.2.2 k
      by_cases w : k < i ∧ n.testBit k = true ∧ 0 < r.2.2 k
      · rw [if_pos w, if_pos ⟨by omega, w.2⟩]
      · rw [if_neg w, if_neg]
        rintro ⟨v1, v2⟩
        by_cases y : k = i
        · rw [y] at v2; exact z v2
        · exact w ⟨by omega, v2⟩
    rw [this]
    split
    · split
      · exact absurd ⟨by assumption, by assumption⟩ z
      · rfl
    · rfl
theorem c_eat {X : XT} {d T a n : Nat} {h : HT} {Q : QT} (ha : isS a) (hp : Ptr h) (hn : n < 128) (ho : m_gI h a 0 = nI n) : wq X (d + 1) 110 0 [some (.ref T), some (.ref a), none] [] h Q = Q none (pS h a (rEat (gS h a) n)) := by
  simp only [u110_0, u110_1, eq_self, q_nl0, q_nlI, q_nlR, not_false_eq_true, q_nz0, q_nz1, q_zv0, q_zv1, q_tl1, q_tl0, q_wif, q_swc, q_swn, List.cons_append, List.nil_append]
  have s0 : (m_sh (KS X) a).1 = 7 := by rw [shS_0 ha]
  refine Eq.trans (b := wq X (d + 1) 110 2 [some (.ref T), some (.ref a), some (.int (nI 0))] [] (pS h a (rEatL (gS h a) n 0)) Q) ?_ ?_
  · rw [rEatL_0, pS_gS]
    rfl
  refine (q_loop (fun i => wq X (d + 1) 110 2 [some (.ref T), some (.ref a), some (.int (nI i))] [] (pS h a (rEatL (gS h a) n i)) Q) 7 ?_).trans ?_
  · intro i hi
    show wq X (d + 1) 110 2 _ _ _ _ = _
    rw [u110_2]
    have e2 : (nI i < 7) = True := eq_true (nI_lt (b := 7) (by omega) (by omega))
    have e3 : m_in (nI i) 7 = true := q_in (by omega) (by decide)
    have e5 : (rEatL (gS h a) n i).1 0 = nI n := ho
    have e6 : (rEatL (gS h a) n i).2.2 i = (gS h a).2.2 i := by
      show (if i < i ∧ n.testBit i = true ∧ 0 < (gS h a).2.2 i then (gS h a).2.2 i - 1 else (gS h a).2.2 i) = (gS h a).2.2 i
      rw [if_neg (by rintro ⟨w, _⟩; omega)]
    simp only [u110_3, u110_5, u110_8, u110_9, u110_10, u110_13, u110_16, u110_17, u110_20, u110_21, u110_22, u110_25, u110_26, u110_29, u110_30, u110_31, u110_32, u110_33, u110_34, u110_35, u110_38, eq_self, q_nl0, q_nlI, q_nlR, not_false_eq_true, q_nz0, q_nz1, q_zv0, q_zv1, q_tl1, q_tl0, q_wif, q_swc, q_swn, List.cons_append, List.nil_append, e2, e3, if_true, shS_0 ha, c_isOut s0, gI_pS0, e5, nI_bit4 n hn i (by omega), shS_2 ha, gR_pS, pS_2 ha hp, q_cl (show i < 2 ^ 31 by omega), gI_pS2, e6, sI_pS2, nI_1, rEatL_s]
    by_cases z : n.testBit i = true
    · rw [if_pos z, if_neg (by decide), if_pos z]
      split <;> rfl
    · rw [if_neg z, if_pos rfl, if_neg z]
  · rw [u110_2]
    simp only [u110_3, u110_5, u110_8, u110_9, u110_10, u110_13, u110_16, u110_17, u110_20, u110_21, u110_22, u110_25, u110_26, u110_29, u110_30, u110_31, u110_32, u110_33, u110_34, u110_35, u110_38, u110_41, eq_self, q_nl0, q_nlI, q_nlR, not_false_eq_true, q_nz0, q_nz1, q_zv0, q_zv1, q_tl1, q_tl0, q_wif, q_swc, q_swn, List.cons_append, List.nil_append, eq_false (show ¬ nI 7 < 7 by decide), if_false]
    rfl
/-! a day's end -/
def rEndL (r : RS) (n i : Nat) : RS := (r.1, (fun k => if k < i ∧ n.testBit k = true then r.2.1 k + 1 else r.2.1 k), r.2.2)
def sBackL (τ : CT) (r : RS) (n : Nat) : Nat → Nat
  | 0 => 0
  | i + 1 => if n.testBit i = true ∧ sGoes τ n (r.2.2 i) (r.2.1 i + 1) i = true then sBackL τ r n i ||| 2 ^ i else sBackL τ r n i
def sBack (τ : CT) (r : RS) (n : Nat) : Nat := sBackL τ r n 7
def rEnd (τ : CT) (r : RS) (n : Nat) : RS := (up (up r.1 0 (r.1 0 &&& (nI (sBack τ r n) ^^^ (-1)))) 6 (r.1 6 + 1), (rEndL r n 7).2)
theorem sBackL_lt {τ : CT} {r : RS} {n : Nat} : ∀ k, sBackL τ r n k < 2 ^ k
  | 0 => by simp [sBackL]
  | k + 1 => by
    unfold sBackL
    have := sBackL_lt (τ := τ) (r := r) (n := n) k
    have h2 : sBackL τ r n k < 2 ^ (k + 1) := Nat.lt_of_lt_of_le this (Nat.pow_le_pow_right (by decide) (by omega))
    split
    · exact orb h2 (by omega)
    · exact h2
theorem rEndL_0 {r : RS} {n : Nat} : rEndL r n 0 = r := by
  refine Prod.ext rfl (Prod.ext (funext fun k => ?_) rfl)
  show (if k < 0 ∧ n.testBit k = true then r.2.1 k + 1 else r.2.1 k) = r.2.1 k
  rw [if_neg (by rintro ⟨w, _⟩; omega)]
theorem rEndL_i {r : RS} {n i : Nat} : (rEndL r n i).2.1 i = r.2.1 i := by
  show (if i < i ∧ n.testBit i = true then r.2.1 i + 1 else r.2.1 i) = r.2.1 i
  rw [if_neg (by rintro ⟨w, _⟩; omega)]
theorem rEndL_s {r : RS} {n i : Nat} : rEndL r n (i + 1) = if n.testBit i = true then ((rEndL r n i).1, up (rEndL r n i).2.1 i (r.2.1 i + 1), (rEndL r n i).2.2) else rEndL r n i := by
  split
  · next z =>
    refine Prod.ext rfl (Prod.ext (funext fun k => ?_) rfl)
    show (if k < i + 1 ∧ n.testBit k = true then r.2.1 k + 1 else r.2.1 k) = if k = i then r.2.1 i + 1 else if k < i ∧ n.testBit k = true then r.2.1 k + 1 else r.2.1 k
    by_cases y : k = i
    · rw [if_pos y, y, if_pos ⟨by omega, z⟩]
    · rw [if_neg y]
      by_cases w : k < i ∧ n.testBit k = true
      · rw [if_pos w, if_pos ⟨by omega, w.2⟩]
      · rw [if_neg w, if_neg (fun v => w ⟨by omega, v.2⟩)]
  · next z =>
    refine Prod.ext rfl (Prod.ext (funext fun k => ?_) rfl)
    show (if k < i + 1 ∧ n.testBit k = true then r.2.1 k + 1 else r.2.1 k) = if k < i ∧ n.testBit k = true then r.2.1 k + 1 else r.2.1 k
    by_cases w : k < i ∧ n.testBit k = true
    · rw [if_pos w, if_pos ⟨by omega, w.2⟩]
    · rw [if_neg w, if_neg]
      rintro ⟨v1, v2⟩
      by_cases y : k = i
      · rw [y] at v2; exact z v2
      · exact w ⟨by omega, v2⟩
theorem bit_lt {n m i : Nat} (hn : n < 2 ^ m) (hb : n.testBit i = true) : i < m := by
  by_cases w : i < m
  · exact w
  · have : n < 2 ^ i := Nat.lt_of_lt_of_le hn (Nat.pow_le_pow_right (by decide) (by omega))
    rw [Nat.testBit_lt_two_pow this] at hb
    exact absurd hb (by decide)
theorem c_endL {X : XT} {d T a n : Nat} {h : HT} {τ : CT} {r : RS} (H : CTown h T τ) (F : fOk τ) (ha : isS a) (hn : n < 2 ^ τ 0 1) (ho : r.1 0 = nI n) : ∀ i, i ≤ 7 → ∀ x c, ∃ x' c', ∀ Q : QT, wq X (d + 3) 112 4 [some (.ref T), some (.ref a), some (.int (nI 0)), some (.int (nI 0))] [] (hJ (pS h a (rEndL r n 0)) T x c) Q = wq X (d + 3) 112 4 [some (.ref T), some (.ref a), some (.int (nI (sBackL τ r n i))), some (.int (nI i))] [] (hJ (pS h a (rEndL r n i)) T x' c') Q
  | 0, _, x, c => ⟨x, c, fun Q => rfl⟩
  | i + 1, hi, x, c => by
    obtain ⟨x1, c1, ih⟩ := c_endL (X := X) (d := d) H F ha hn ho i (by omega) x c
    have hT := ct_T H
    have hp := ct_p H
    have bd := isS_bd ha
    have h7 := p2_7 (o_mn (ct_ok H))
    have hn' : n < 128 := by omega
    have e2 : (nI i < 7) = True := eq_true (nI_lt (b := 7) (by omega) (by omega))
    have e3 : m_in (nI i) 7 = true := q_in (by omega) (by decide)
    have e4 : (nI i).toNatClampNeg = i := q_cl (by omega)
    have s0 : (m_sh (KS X) a).1 = 7 := by rw [shS_0 ha]
    have g0 : ∀ r' x c, m_gI (hJ (pS h a r') T x c) a 0 = r'.1 0 := fun r' x c => (gI_hJ38 hT (by omega)).trans gI_pS0
    have g1 : ∀ r' x c k, m_gI (hJ (pS h a r') T x c) (a + 1) k = r'.2.1 k := fun r' x c k => (gI_hJ38 hT (by omega)).trans gI_pS1
    have g2 : ∀ r' x c k, m_gI (hJ (pS h a r') T x c) (a + 2) k = r'.2.2 k := fun r' x c k => (gI_hJ38 hT (by omega)).trans gI_pS2
    have s1 : ∀ r' x c v, m_sI (hJ (pS h a r') T x c) (a + 1) i v = hJ (pS h a (r'.1, up r'.2.1 i v, r'.2.2)) T x c := fun r' x c v => by rw [sI_hJ38 hT (by omega), sI_pS1]
    have es : rEndL r n (i + 1) = _ := rEndL_s
    have eb : sBackL τ r n (i + 1) = if n.testBit i = true ∧ sGoes τ n (r.2.2 i) (r.2.1 i + 1) i = true then sBackL τ r n i ||| 2 ^ i else sBackL τ r n i := rfl
    have eo : (rEndL r n i).1 0 = nI n := ho
    by_cases z : n.testBit i = true
    · have hm := bit_lt hn z
      rw [if_pos z] at es
      have ef : ((rEndL r n i).1, up (rEndL r n i).2.1 i (r.2.1 i + 1), (rEndL r n i).2.2) = rEndL r n (i + 1) := es.symm
      have Hg := CTown_hJ (x := x1) (c := c1) hT (CTown_pS (r := rEndL r n (i + 1)) ha H)
      obtain ⟨x2, c2, ej⟩ := hGo_J (h := hJ (pS h a (rEndL r n (i + 1))) T x1 c1) (T := T) (τ := τ) (u := sU τ n (r.2.2 i) (r.2.1 i + 1) i)
      have gd : (rEndL r n (i + 1)).2.1 i = r.2.1 i + 1 := by
        rw [es]
        exact up_s
      have gl : (rEndL r n (i + 1)).2.2 i = r.2.2 i := rfl
      have cg := fun (Q : QT) => c_goesBack (X := X) (d := d) (Q := Q) (m := i) Hg F ha hn' ((g0 _ _ _).trans ho) hm
      simp only [g1, g2, gd, gl, ej, hJ_hJ] at cg
      refine ⟨x2, c2, fun Q => (ih Q).trans ?_⟩
      rw [u112_4]
      simp only [u112_5, u112_7, u112_10, u112_11, u112_12, u112_15, u112_18, u112_19, u112_22, u112_23, u112_24, u112_25, u112_26, u112_27, u112_28, u112_29, u112_30, u112_31, u112_32, eq_self, q_nl0, q_nlI, q_nlR, not_false_eq_true, q_nz0, q_nz1, q_zv0, q_zv1, q_tl1, q_tl0, q_wif, q_swc, q_swn, List.cons_append, List.nil_append, e2, e3, e4, if_true, shS_0 ha, shT_0 hT, c_isOut s0, g0, eo, nI_bit4 n hn' i (by omega), z, eq_false (show ¬ (1 : Int32) = 0 by decide), if_false, shS_1 ha, gR_hJ, gR_pS, pS_1 ha hp, g1, rEndL_i, s1, ef, cg]
      by_cases w : sGoes τ n (r.2.2 i) (r.2.1 i + 1) i = true
      · rw [if_pos ⟨z, w⟩] at eb
        rw [eb]
        simp only [u112_35, u112_38, u112_39, u112_40, u112_41, u112_44, u112_45, u112_46, u112_47, u112_50, eq_self, q_nl0, q_nlI, q_nlR, not_false_eq_true, q_nz0, q_nz1, q_zv0, q_zv1, q_tl1, q_tl0, q_wif, q_swc, q_swn, List.cons_append, List.nil_append, w, if_true, eq_false (show ¬ (1 : Int32) = 0 by decide), if_false, nI_sh i (by omega), nI_or, nI_1]
      · rw [if_neg (fun v => w v.2)] at eb
        rw [eb]
        simp only [u112_35, u112_38, u112_39, u112_40, u112_41, u112_44, u112_45, u112_46, u112_47, u112_50, eq_self, q_nl0, q_nlI, q_nlR, not_false_eq_true, q_nz0, q_nz1, q_zv0, q_zv1, q_tl1, q_tl0, q_wif, q_swc, q_swn, List.cons_append, List.nil_append, w, Bool.false_eq_true, if_true, if_false, nI_1, Int32.or_zero]
    · rw [if_neg z] at es
      rw [if_neg (fun v => z v.1)] at eb
      refine ⟨x1, c1, fun Q => (ih Q).trans ?_⟩
      rw [u112_4, es, eb]
      simp only [u112_5, u112_7, u112_10, u112_11, u112_12, u112_15, u112_47, u112_50, eq_self, q_nl0, q_nlI, q_nlR, not_false_eq_true, q_nz0, q_nz1, q_zv0, q_zv1, q_tl1, q_tl0, q_wif, q_swc, q_swn, List.cons_append, List.nil_append, e2, if_true, shS_0 ha, c_isOut s0, g0, eo, nI_bit4 n hn' i (by omega), z, Bool.false_eq_true, if_true, if_false, nI_1]
theorem c_endDay {X : XT} {d T a n : Nat} {h : HT} {τ : CT} {x : Int32} {c : Nat → Int32} (H : CTown h T τ) (F : fOk τ) (ha : isS a) (r : RS) (hn : n < 2 ^ τ 0 1) (ho : r.1 0 = nI n) : ∃ x' c', ∀ Q : QT, wq X (d + 3) 112 0 [some (.ref T), some (.ref a), none, none] [] (hJ (pS h a r) T x c) Q = Q none (hJ (pS h a (rEnd τ r n)) T x' c') := by
  obtain ⟨x', c', e⟩ := c_endL (X := X) (d := d) H F ha hn ho 7 (by omega) x c
  have hT := ct_T H
  have bd := isS_bd ha
  refine ⟨x', c', fun Q => ?_⟩
  simp only [u112_0, u112_1, u112_2, u112_3, eq_self, q_nl0, q_nlI, q_nlR, not_false_eq_true, q_nz0, q_nz1, q_zv0, q_zv1, q_tl1, q_tl0, q_wif, q_swc, q_swn, List.cons_append, List.nil_append]
  have e0 := e Q
  rw [rEndL_0] at e0
  refine Eq.trans e0 ?_
  have g0 : ∀ r' k, m_gI (hJ (pS h a r') T x' c') a k = r'.1 k := fun r' k => (gI_hJ38 hT (by omega)).trans gI_pS0
  have s0 : ∀ r' k v, m_sI (hJ (pS h a r') T x' c') a k v = hJ (pS h a (up r'.1 k v, r'.2)) T x' c' := fun r' k v => by rw [sI_hJ38 hT (by omega), sI_pS0]
  rw [u112_4]
  simp only [u112_5, u112_7, u112_53, u112_54, u112_55, u112_58, u112_59, u112_60, u112_63, u112_64, u112_65, u112_68, u113_0, u113_1, u113_2, u113_5, u113_6, u113_7, u113_8, u113_9, u113_12, eq_self, q_nl0, q_nlI, q_nlR, not_false_eq_true, q_nz0, q_nz1, q_zv0, q_zv1, q_tl1, q_tl0, q_wif, q_swc, q_swn, List.cons_append, List.nil_append, eq_false (show ¬ nI 7 < 7 by decide), if_false, shS_0 ha, g0, s0]
  rfl
/-- what a day does, and what it costs -/
def rMid (τ : CT) (r : RS) (n : Nat) : RS := rEat (rWalk r (sFol τ n)) (n ||| sFol τ n)
def sSeed (r : RS) : Int32 := r.1 7 * 137 + 71 - (r.1 7 * 137 + 71) / 1000 * 1000
def sFoeIn (τ : CT) (r : RS) (n : Nat) : Bool := decide (sSeed r - sSeed r / 100 * 100 < nI (τ 0 3 * pcN (sShort τ (n ||| sFol τ n))))
def sCost (τ : CT) (r : RS) (n : Nat) : Int32 := if sFoeIn τ r n = true then nI (sLoss τ (n ||| sFol τ n)) + nI (τ 0 4) else nI (sLoss τ (n ||| sFol τ n))
def rPre (τ : CT) (r : RS) (n : Nat) : RS := (up (if sFoeIn τ r n = true then up (up (rMid τ r n).1 7 (sSeed r)) 4 (r.1 4 + 1) else up (rMid τ r n).1 7 (sSeed r)) 3 (r.1 3 + sCost τ r n), (rMid τ r n).2)
def rDay (τ : CT) (r : RS) (n : Nat) : RS := rEnd τ (rPre τ r n) (n ||| sFol τ n)
theorem gS_hJ {h : HT} {T a : Nat} {x : Int32} {c : Nat → Int32} {r : RS} (hT : isT T) (ha : isS a) : gS (hJ (pS h a r) T x c) a = r := by
  have bd := isS_bd ha
  refine Eq.trans ?_ (gS_pS (h := h) (a := a))
  have e : ∀ j, m_gI (hJ (pS h a r) T x c) (a + j) = m_gI (pS h a r) (a + j) := fun j => funext fun k => gI_hJ38 hT (by omega)
  have e0 : m_gI (hJ (pS h a r) T x c) a = m_gI (pS h a r) a := funext fun k => gI_hJ38 hT (by omega)
  unfold gS
  rw [e0, e 1, e 2]
theorem pS_hJ {h : HT} {T a : Nat} {x : Int32} {c : Nat → Int32} {r s : RS} (hT : isT T) (ha : isS a) : pS (hJ (pS h a r) T x c) a s = hJ (pS h a s) T x c := by
  have bd := isS_bd ha
  have hT' : T ≤ 23 := by rcases hT with z | z <;> omega
  apply hx
  · intro b j
    show (if b = a then s.1 j else if b = a + 1 then s.2.1 j else if b = a + 2 then s.2.2 j else if b = T + 12 then c j else if b = T + 10 ∧ j = 4 then x else if b = a then r.1 j else if b = a + 1 then r.2.1 j else if b = a + 2 then r.2.2 j else h.1 b j) = if b = T + 12 then c j else if b = T + 10 ∧ j = 4 then x else if b = a then s.1 j else if b = a + 1 then s.2.1 j else if b = a + 2 then s.2.2 j else h.1 b j
    by_cases z : b = T + 12
    · rw [if_neg (by omega), if_neg (by omega), if_neg (by omega), if_pos z, if_pos z]
    · by_cases y : b = T + 10 ∧ j = 4
      · rw [if_neg (by omega), if_neg (by omega), if_neg (by omega), if_neg z, if_pos y, if_neg z, if_pos y]
      · simp only [if_neg z, if_neg y]
        by_cases u : b = a
        · simp only [if_pos u]
        · by_cases v : b = a + 1
          · simp only [if_neg u, if_pos v]
          · by_cases w : b = a + 2
            · simp only [if_neg u, if_neg v, if_pos w]
            · simp only [if_neg u, if_neg v, if_neg w]
  · rfl
theorem c_passDay {X : XT} {d T a n : Nat} {h : HT} {τ : CT} {x : Int32} {c : Nat → Int32} (H : CTown h T τ) (F : fOk τ) (ha : isS a) (r : RS) (hn : n < 2 ^ τ 0 1) (ho : r.1 0 = nI n) : ∃ x' c', ∀ Q : QT, wq X (d + 4) 107 0 [some (.ref T), some (.ref a), none] [] (hJ (pS h a r) T x c) Q = Q (some (.int (sCost τ r n))) (hJ (pS h a (rDay τ r n)) T x' c') := by
  have hT := ct_T H
  have hp := ct_p H
  have bd := isS_bd ha
  have h7 := p2_7 (o_mn (ct_ok H))
  have hn' : n < 128 := by omega
  have hf := sFol_lt (ct_ok H) n
  have hu : n ||| sFol τ n < 2 ^ τ 0 1 := Nat.or_lt_two_pow hn (sFol_all n)
  have hu' : n ||| sFol τ n < 128 := by omega
  have C : ∀ r' x c, CTown (hJ (pS h a r') T x c) T τ := fun r' x c => CTown_hJ hT (CTown_pS ha H)
  have P : ∀ r' x c, Ptr (hJ (pS h a r') T x c) := fun r' x c => hp
  have g0 : ∀ r' x c k, m_gI (hJ (pS h a r') T x c) a k = r'.1 k := fun r' x c k => (gI_hJ38 hT (by omega)).trans gI_pS0
  have s0 : ∀ r' x c k v, m_sI (hJ (pS h a r') T x c) a k v = hJ (pS h a (up r'.1 k v, r'.2)) T x c := fun r' x c k v => by rw [sI_hJ38 hT (by omega), sI_pS0]
  have o1 : (rWalk r (sFol τ n)).1 0 = nI (n ||| sFol τ n) := by
    show r.1 0 ||| nI (sFol τ n) = _
    rw [ho, nI_or]
  obtain ⟨x', c', e⟩ := c_endDay (X := X) (d := d) (x := x) (c := c) H F ha (rPre τ r n) hu (by
    unfold rPre
    split <;> exact o1)
  refine ⟨x', c', fun Q => ?_⟩
  have ew := fun (Q : QT) => c_walkOut (X := X) (d := d + 3) (Q := Q) ha (P r x c) hf
  simp only [gS_hJ hT ha, pS_hJ hT ha] at ew
  have ee := fun (Q : QT) => c_eat (X := X) (d := d + 2) (T := T) (Q := Q) ha (P (rWalk r (sFol τ n)) x c) hu' ((g0 _ _ _ 0).trans o1)
  simp only [gS_hJ hT ha, pS_hJ hT ha] at ee
  have em : rEat (rWalk r (sFol τ n)) (n ||| sFol τ n) = rMid τ r n := rfl
  have m0 : (rMid τ r n).1 0 = nI (n ||| sFol τ n) := o1
  have m7 : (rMid τ r n).1 7 = r.1 7 := rfl
  have k1 : ¬ (1000 : Int32) = 0 := by decide
  have k2 : ¬ (100 : Int32) = 0 := by decide
  have u7 : ∀ f v, up f 7 v 0 = f 0 := fun f v => rfl
  have es : r.1 7 * 137 + 71 - (r.1 7 * 137 + 71) / 1000 * 1000 = sSeed r := rfl
  simp only [u107_0, u107_1, u107_2, u107_3, u107_6, u107_9, u107_12, u107_13, u107_14, u107_17, u107_18, u107_19, u107_22, u107_25, u107_26, u107_27, u107_28, u107_31, u107_34, u107_35, u107_37, u107_38, u107_41, u107_42, u107_45, u107_46, u107_49, u107_51, u107_52, u107_53, u107_54, u107_57, u107_60, eq_self, q_nl0, q_nlI, q_nlR, not_false_eq_true, q_nz0, q_nz1, q_zv0, q_zv1, q_tl1, q_tl0, q_wif, q_swc, q_swn, List.cons_append, List.nil_append, shS_0 ha, shT_0 hT, g0, ho, c_followers (C _ _ _) hn', ew, ee, em, m0, m7, c_lossBy (C _ _ _) hu', s0, up_s, u7, es, c_foeOdds (C _ _ _) hu', k1, k2]
  by_cases z : sFoeIn τ r n = true
  · have z' := of_decide_eq_true z
    rw [if_pos z']
    have ep : rPre τ r n = (up (up (up (rMid τ r n).1 7 (sSeed r)) 4 (r.1 4 + 1)) 3 (r.1 3 + sCost τ r n), (rMid τ r n).2) := by
      unfold rPre
      rw [if_pos z]
    have ec : sCost τ r n = nI (sLoss τ (n ||| sFol τ n)) + nI (τ 0 4) := if_pos z
    have q4 : up (rMid τ r n).1 7 (sSeed r) 4 = r.1 4 := rfl
    have q3 : ∀ v, up (up (rMid τ r n).1 7 (sSeed r)) 4 v 3 = r.1 3 := fun v => rfl
    simp only [u107_63, u107_64, u107_65, u107_68, u107_69, u107_70, u107_73, u107_74, u107_75, u107_78, u107_79, u107_80, u107_81, u107_82, u107_85, u107_86, u107_87, u107_90, u107_91, u107_92, u107_95, u107_96, eq_self, q_nl0, q_nlI, q_nlR, not_false_eq_true, q_nz0, q_nz1, q_zv0, q_zv1, q_tl1, q_tl0, q_wif, q_swc, q_swn, List.cons_append, List.nil_append, shS_0 ha, shT_0 hT, g0, s0, ct_ra (C _ _ _), q4, q3, ← ec, ← ep, e]
    rfl
  · have z' : ¬ _ := fun w => z (decide_eq_true w)
    rw [if_neg z']
    have ep : rPre τ r n = (up (up (rMid τ r n).1 7 (sSeed r)) 3 (r.1 3 + sCost τ r n), (rMid τ r n).2) := by
      unfold rPre
      rw [if_neg z]
    have ec : sCost τ r n = nI (sLoss τ (n ||| sFol τ n)) := if_neg z
    have q3 : up (rMid τ r n).1 7 (sSeed r) 3 = r.1 3 := rfl
    simp only [u107_80, u107_81, u107_82, u107_85, u107_86, u107_87, u107_90, u107_91, u107_92, u107_95, u107_96, eq_self, q_nl0, q_nlI, q_nlR, not_false_eq_true, q_nz0, q_nz1, q_zv0, q_zv1, q_tl1, q_tl0, q_wif, q_swc, q_swn, List.cons_append, List.nil_append, shS_0 ha, shT_0 hT, g0, s0, q3, ← ec, ← ep, e]
    rfl
