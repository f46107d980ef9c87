/-! CITY, both -/
def rBL (h : HT) (C i : Nat) : RS := (up (gS h 38).1 0 (m_gI h C 9), (fun k => if k < i then 0 else (gS h 38).2.1 k), fun k => if k < i then m_gI h (C + 5) k else (gS h 38).2.2 k)
def rNew (h : HT) (C : Nat) : RS := (up (up (up (up (up (rBL h C 7).1 3 0) 4 0) 5 0) 6 0) 7 (m_gI h C 16), (rBL h C 7).2)
section CCALL
variable {X : XT} {d C L : Nat} {h : HT} {V : Nat → Nat}
theorem c_begin {X : XT} (hp : Ptr h) (hU : isT C) (Q : QT) : wq X d 77 0 [some (.ref 38), some (.ref C), none] [] h Q = Q none (pS h 38 (rNew h C)) := by
  have hC : C = 5 ∨ C = 23 := hU
  have hp' : ∀ r, Ptr (pS h 38 r) := fun r => hp
  have gC : ∀ r k, m_gI (pS h 38 r) C k = m_gI h C k := fun r k => gI_pSo (by omega)
  have gC5 : ∀ r k, m_gI (pS h 38 r) (C + 5) k = m_gI h (C + 5) k := fun r k => gI_pSo (by omega)
  have p1 : ∀ r, m_gR (pS h 38 r) 38 1 = 38 + 1 := fun r => pS_1 isS_38 (hp' r)
  have p2 : ∀ r, m_gR (pS h 38 r) 38 2 = 38 + 2 := fun r => pS_2 isS_38 (hp' r)
  have s1 : m_sh (KS X) (38 + 1) = (20, 7) := shS_1 isS_38
  have s2 : m_sh (KS X) (38 + 2) = (20, 7) := shS_2 isS_38
  have z0 : m_sI h 38 0 (m_gI h C 9) = pS h 38 (rBL h C 0) := by
    have : rBL h C 0 = (up (gS h 38).1 0 (m_gI h C 9), (gS h 38).2) := by
      refine Prod.ext rfl (Prod.ext (funext fun k => ?_) (funext fun k => ?_))
      · show (if k < 0 then 0 else m_gI h (38 + 1) k) = m_gI h (38 + 1) k
        rw [if_neg (Nat.not_lt_zero k)]
      · show (if k < 0 then m_gI h (C + 5) k else m_gI h (38 + 2) k) = m_gI h (38 + 2) k
        rw [if_neg (Nat.not_lt_zero k)]
    rw [this, ← sI_pS0, pS_gS]
  have l1 := q_loop (fun i => wq X d 77 10 [some (.ref 38), some (.ref C), some (.int (nI i))] [] (pS h 38 (rBL h C i)) Q) 7 (fun i hi => by
    have c1 : (nI i < 7) = True := eq_true (nI_lt (b := 7) hi (by decide))
    have c2 : m_in (nI i) 7 = true := q_in hi (by decide)
    have c3 : (nI i).toNatClampNeg = i := q_cl (by omega)
    have eu : ((rBL h C i).1, up (rBL h C i).2.1 i 0, up (rBL h C i).2.2 i (m_gI h (C + 5) i)) = rBL h C (i + 1) := by
      refine Prod.ext rfl (Prod.ext (funext fun k => ?_) (funext fun k => ?_))
      · show (if k = i then _ else if k < i then _ else _) = if k < i + 1 then _ else _
        by_cases x : k = i
        · rw [if_pos x, if_pos (by omega)]
        · rw [if_neg x]
          by_cases y : k < i
          · rw [if_pos y, if_pos (by omega)]
          · rw [if_neg y, if_neg (show ¬ k < i + 1 by omega)]
      · show (if k = i then _ else if k < i then _ else _) = if k < i + 1 then _ else _
        by_cases x : k = i
        · rw [if_pos x, if_pos (by omega), x]
        · rw [if_neg x]
          by_cases y : k < i
          · rw [if_pos y, if_pos (by omega)]
          · rw [if_neg y, if_neg (show ¬ k < i + 1 by omega)]
    show wq X d 77 10 _ [] _ Q = wq X d 77 10 [some (.ref 38), some (.ref C), some (.int (nI (i + 1)))] [] (pS h 38 (rBL h C (i + 1))) Q
    generalize hz : wq X d 77 10 [some (.ref 38), some (.ref C), some (.int (nI (i + 1)))] [] (pS h 38 (rBL h C (i + 1))) Q = Z
    rw [u77_10]
    simp only [u77_11, u77_13, u77_16, u77_17, u77_20, u77_21, u77_22, u77_23, u77_24, u77_27, u77_28, u77_29, u77_32, u77_33, u77_34, u77_35, u77_38, eq_self, q_nl0, q_nlI, q_nlR, not_false_eq_true, q_nz0, q_nz1, q_zv0, q_zv1, q_tl1, q_tl0, q_wif, q_swc, q_swn, List.cons_append, List.nil_append, if_true, if_false, e10, e01, Bool.false_eq_true, sh_38, s1, s2, shT_0 hU, shT_5 hU, p1, p2, pT_6 hU (hp' _), gC5, c1, c2, c3, sI_pS1, sI_pS2, eu, nI_1]
    exact hz)
  simp only [u77_0, u77_1, u77_2, u77_5, u77_8, u77_9, eq_self, q_nl0, q_nlI, q_nlR, not_false_eq_true, q_nz0, q_nz1, q_zv0, q_zv1, q_tl1, q_tl0, q_wif, q_swc, q_swn, List.cons_append, List.nil_append, if_true, if_false, e10, e01, Bool.false_eq_true, sh_38, shT_0 hU]
  rw [z0]
  refine Eq.trans l1 ?_
  have c1 : (nI 7 < (7 : Int32)) = False := eq_false (by decide)
  rw [u77_10]
  simp only [u77_11, u77_13, u77_41, u77_42, u77_43, u77_46, u77_47, u77_48, u77_51, u77_52, u77_53, u77_56, u77_57, u77_58, u77_61, u77_62, u77_63, u77_66, u77_69, eq_self, q_nl0, q_nlI, q_nlR, not_false_eq_true, q_nz0, q_nz1, q_zv0, q_zv1, q_tl1, q_tl0, q_wif, q_swc, q_swn, List.cons_append, List.nil_append, if_true, if_false, e10, e01, Bool.false_eq_true, sh_38, shT_0 hU, gC, sI_pS0, c1]
  rfl
/-- what the call may change of the class's ints -/
theorem c_cityB (hp : Tp h L V) (hu : m_gR h 4 1 = C) (hU : isT C) {e : Nat × Nat} (q : rdA V L = .inl e) : ∃ g, (∀ c k, m_gR g c k = m_gR h c k) ∧ (∀ c k, ¬ exC C c k → ¬ (c = 2 ∧ k = 1) → m_gI g c k = m_gI h c k) ∧ m_gI g 2 1 = 0 ∧ m_gI g 4 2 = nI e.1 ∧ m_gI g 4 3 = nI e.2 ∧ ∀ Q : QT, wq X (d + 111) 14 0 [some (.ref 1), none, none] [] h Q = Q (some (.int (-1))) g := by
  obtain ⟨g1, a1, a2, a3⟩ := c_read (X := X) (d := d) hp hu hU
  rw [q] at a2 a3
  have hp1 : Ptr g1 := Ptr_of hp.1 a1.1
  refine ⟨m_sI g1 2 1 0, a1.1, fun c k x y => ?_, ?_, ?_, ?_, fun Q => ?_⟩
  · rw [gI_sI, if_neg y]
    exact a1.2.1 c k x
  · rw [gI_sI, if_pos ⟨rfl, rfl⟩]
  · rw [gI_sI, if_neg (by decide)]
    exact a2.1
  · rw [gI_sI, if_neg (by decide)]
    exact a2.2
  · simp only [u14_0, u14_1, u14_4, eq_self, q_nl0, q_nlI, q_nlR, not_false_eq_true, q_nz0, q_nz1, q_zv0, q_zv1, q_tl1, q_tl0, q_wif, q_swc, q_swn, List.cons_append, List.nil_append, if_true, if_false, e10, e01, Bool.false_eq_true, sh_1, sh_4, p_1_1 hp.1]
    refine (a3 _).trans ?_
    have c0 : rdV (.inl e) = 0 := rfl
    simp only [u14_7, u14_8, u14_9, u14_12, u14_13, u14_16, u14_17, u14_20, u14_21, eq_self, q_nl0, q_nlI, q_nlR, not_false_eq_true, q_nz0, q_nz1, q_zv0, q_zv1, q_tl1, q_tl0, q_wif, q_swc, q_swn, List.cons_append, List.nil_append, if_true, if_false, e10, e01, Bool.false_eq_true, sh_1, sh_2, p_1_0 hp1, c0]
theorem c_cityG {T s : Nat} {τ : CT} (hp : Tp h L V) (hu : m_gR h 4 1 = C) (hU : isT C) (hT : m_gR h 1 2 = T) (iT : isT T) (q : rdA V L = .inr (s, τ)) : ∃ g, Rf h g ∧ m_gR g 1 2 = C ∧ m_gR g 4 1 = T ∧ (∀ c k, ¬ exC C c k → ¬ (c = 2 ∧ k = 1) → ¬ (38 ≤ c ∧ c ≤ 40) → ¬ (c = 44 ∧ (k = 2 ∨ k = 3)) → ¬ (c = 179 ∧ k = 5) → c ≠ 170 → m_gI g c k = m_gI h c k) ∧ m_gI g 2 1 = 0 ∧ m_gI g 4 2 = 0 ∧ m_gI g 4 3 = -1 ∧ CCity g C τ ∧ (m_gI g 44 2 = 0 ∧ m_gI g 44 3 = 0) ∧ m_gI g 179 5 = 0 ∧ (∀ j, j < 3 → m_gI g 170 j = 0) ∧ (∃ h1, gS g 38 = rNew h1 C ∧ CCity h1 C τ) ∧ ∀ Q : QT, wq X (d + 111) 14 0 [some (.ref 1), none, none] [] h Q = Q (some (.int (nI (τ 0 1)))) g := by
  have hC : C = 5 ∨ C = 23 := hU
  obtain ⟨g1, a1, a2, a3⟩ := c_read (X := X) (d := d) hp hu hU
  rw [q] at a2 a3
  obtain ⟨a21, a22, a23⟩ := a2
  have a23 : CCity g1 C τ := a23
  have hp1 : Ptr g1 := Ptr_of hp.1 a1.1
  have vn0 : vp_nar .boolean 0 = 0 := by decide
  -- the cities change places
  obtain ⟨g2, e2⟩ : ∃ g2, g2 = m_sR (m_sR (m_sI g1 2 1 0) 4 1 T) 1 2 C := ⟨_, rfl⟩
  have gI2 : ∀ c k, ¬ (c = 2 ∧ k = 1) → m_gI g2 c k = m_gI g1 c k := fun c k x => by
    rw [e2, gI_sR, gI_sR, gI_sI, if_neg x]
  have gR2 : ∀ c k, ¬ (c = 4 ∧ k = 1) → ¬ (c = 1 ∧ k = 2) → m_gR g2 c k = m_gR h c k := fun c k x y => by
    rw [e2, gR_sR, if_neg y, gR_sR, if_neg x, gR_sI]
    exact a1.1 c k
  have r12 : m_gR g2 1 2 = C := by rw [e2, gR_sR, if_pos ⟨rfl, rfl⟩]
  have r41 : m_gR g2 4 1 = T := by rw [e2, gR_sR, if_neg (by decide), gR_sR, if_pos ⟨rfl, rfl⟩]
  have rf2 : Rf h g2 := fun c k => by
    by_cases x : c = 4 ∧ k = 1
    · exact Or.inr (Or.inl x)
    · by_cases y : c = 1 ∧ k = 2
      · exact Or.inl y
      · exact Or.inr (Or.inr (gR2 c k x y))
  have hp2 : Ptr g2 := Ptr_rf rf2 hp.1
  have CC2 : CCity g2 C τ := CCity_of (fun j k _ _ _ => gI2 _ _ (by omega)) a23
  have l1 := fun Q => c_begin (X := X) (d := d + 110) hp2 hU Q
  -- the rest
  obtain ⟨g3, e3⟩ : ∃ g3, g3 = m_sI (m_sI (m_sI (pS g2 38 (rNew g2 C)) 44 2 0) 44 3 0) 179 5 0 := ⟨_, rfl⟩
  have gI3 : ∀ c k, c < 38 ∨ 40 < c → ¬ (c = 44 ∧ (k = 2 ∨ k = 3)) → ¬ (c = 179 ∧ k = 5) → m_gI g3 c k = m_gI g2 c k := fun c k x y z => by
    rw [e3, gI_sI, if_neg (by omega), gI_sI, if_neg (by omega), gI_sI, if_neg (by omega)]
    exact gI_pSo (by omega)
  have gR3 : ∀ c k, m_gR g3 c k = m_gR g2 c k := fun c k => by
    rw [e3]
    rfl
  have hp3 : Ptr g3 := Ptr_of hp2 gR3
  have pz : ∀ f, Ptr (hRw g3 170 f) := fun f => hp3
  have z3 : hRw g3 170 (boZ (m_gI g3 170) 0) = g3 := by
    have : boZ (m_gI g3 170) 0 = m_gI g3 170 := funext fun k => if_neg (Nat.not_lt_zero k)
    rw [this, hRw_id]
  have l3 := fun (Q : QT) => q_loop (fun i => wq X (d + 111) 14 64 [some (.ref 1), some (.int 1), some (.int (nI i))] [] (hRw g3 170 (boZ (m_gI g3 170) i)) Q) 3 (fun i hi => by
    have c1 : (nI i < Int32.ofNat 3) = True := eq_true (nI_lt (b := 3) hi (by decide))
    have c2 : m_in (nI i) 3 = true := q_in hi (by decide)
    have c3 : (nI i).toNatClampNeg = i := q_cl (by omega)
    have eu : up (boZ (m_gI g3 170) i) i 0 = boZ (m_gI g3 170) (i + 1) := funext fun k => by
      show (if k = i then 0 else if k < i then 0 else _) = if k < i + 1 then 0 else _
      by_cases x : k = i
      · rw [if_pos x, if_pos (by omega)]
      · rw [if_neg x]
        by_cases y : k < i
        · rw [if_pos y, if_pos (by omega)]
        · rw [if_neg y, if_neg (by omega)]
    have p7 : ∀ f, m_gR (hRw g3 170 f) 1 7 = 170 := fun f => p_1_7 (pz f)
    show wq X (d + 111) 14 64 _ [] _ Q = wq X (d + 111) 14 64 [some (.ref 1), some (.int 1), some (.int (nI (i + 1)))] [] (hRw g3 170 (boZ (m_gI g3 170) (i + 1))) Q
    generalize hz : wq X (d + 111) 14 64 [some (.ref 1), some (.int 1), some (.int (nI (i + 1)))] [] (hRw g3 170 (boZ (m_gI g3 170) (i + 1))) Q = Z
    rw [u14_64]
    simp only [u14_65, u14_66, eq_self, q_nl0, q_nlI, q_nlR, not_false_eq_true, q_nz0, q_nz1, q_zv0, q_zv1, q_tl1, q_tl0, q_wif, q_swc, q_swn, List.cons_append, List.nil_append, if_true, if_false, e10, e01, Bool.false_eq_true, sh_1, p7]
    rw [u14_69 (X := X) (r0 := 170) (by rw [sh_170]; rfl), sh_170]
    simp only [u14_70, u14_73, u14_74, u14_77, u14_78, u14_79z, u14_79b, u14_80, u14_83, eq_self, q_nl0, q_nlI, q_nlR, not_false_eq_true, q_nz0, q_nz1, q_zv0, q_zv1, q_tl1, q_tl0, q_wif, q_swc, q_swn, List.cons_append, List.nil_append, if_true, if_false, e10, e01, Bool.false_eq_true, sh_1, sh_170, p7, c1, c2, c3, vn0, sI_hRw, eu, nI_1]
    exact hz)
  obtain ⟨g, eg⟩ : ∃ g, g = hRw g3 170 (boZ (m_gI g3 170) 3) := ⟨_, rfl⟩
  have gI4 : ∀ c k, c ≠ 170 → m_gI g c k = m_gI g3 c k := fun c k x => by rw [eg, gI_hRw, if_neg x]
  have gR4 : ∀ c k, m_gR g c k = m_gR g2 c k := fun c k => by
    rw [eg]
    exact gR3 c k
  have low : ∀ c k, c < 38 → ¬ (c = 2 ∧ k = 1) → m_gI g c k = m_gI g1 c k := fun c k x y => by
    rw [gI4 c k (by omega), gI3 c k (by omega) (by omega) (by omega), gI2 c k y]
  refine ⟨g, fun c k => ?_, (gR4 1 2).trans r12, (gR4 4 1).trans r41, fun c k x1 x2 x3 x4 x5 x6 => ?_, ?_, (low _ _ (by decide) (by decide)).trans a21, (low _ _ (by decide) (by decide)).trans a22, ?_, ⟨?_, ?_⟩, ?_, fun j hj => ?_, ⟨g2, ?_, CC2⟩, fun Q => ?_⟩
  · rcases rf2 c k with z | z | z
    · exact Or.inl z
    · exact Or.inr (Or.inl z)
    · exact Or.inr (Or.inr ((gR4 c k).trans z))
  · rw [gI4 c k x6, gI3 c k (by omega) x4 x5, gI2 c k x2]
    exact a1.2.1 c k x1
  · rw [gI4 _ _ (by decide), gI3 _ _ (by decide) (by decide) (by decide), e2, gI_sR, gI_sR, gI_sI, if_pos ⟨rfl, rfl⟩]
  · exact CCity_of (fun j k _ _ _ => low _ _ (by omega) (by omega)) a23
  · rw [gI4 _ _ (by decide), e3, gI_sI, if_neg (by decide), gI_sI, if_neg (by decide), gI_sI, if_pos ⟨rfl, rfl⟩]
  · rw [gI4 _ _ (by decide), e3, gI_sI, if_neg (by decide), gI_sI, if_pos ⟨rfl, rfl⟩]
  · rw [gI4 _ _ (by decide), e3, gI_sI, if_pos ⟨rfl, rfl⟩]
  · rw [eg, gI_hRw, if_pos rfl]
    exact if_pos hj
  · have e38 : ∀ c k, 38 ≤ c ∧ c ≤ 40 → m_gI g c k = m_gI (pS g2 38 (rNew g2 C)) c k := fun c k x => by
      rw [gI4 c k (by omega), e3, gI_sI, if_neg (by omega), gI_sI, if_neg (by omega), gI_sI, if_neg (by omega)]
    refine Prod.ext (funext fun k => (e38 38 k (by decide)).trans gI_pS0) (Prod.ext (funext fun k => (e38 39 k (by decide)).trans (gI_pS1 (a := 38))) (funext fun k => (e38 40 k (by decide)).trans (gI_pS2 (a := 38))))
  · have nb : ∀ n : Nat, 5 ≤ n → Nat.beq n 0 = false := fun n hn => by
      cases n with
      | zero => omega
      | succ n => rfl
    have bT : Nat.beq T 0 = false := nb T (isT_ge iT)
    have bC : Nat.beq C 0 = false := nb C (isT_ge hU)
    have n10 : ¬ ((1 : Int32) = 0) := by decide
    have c0 : rdV (.inr (s, τ)) = 1 := rfl
    have u1 : m_gR (m_sI g1 2 1 0) 4 1 = C := (a1.1 4 1).trans hu
    have u2 : m_gR (m_sI g1 2 1 0) 1 2 = T := (a1.1 1 2).trans hT
    have hp1' : Ptr (m_sI g1 2 1 0) := hp1
    simp only [u14_0, u14_1, u14_4, eq_self, q_nl0, q_nlI, q_nlR, not_false_eq_true, q_nz0, q_nz1, q_zv0, q_zv1, q_tl1, q_tl0, q_wif, q_swc, q_swn, List.cons_append, List.nil_append, if_true, if_false, e10, e01, Bool.false_eq_true, sh_1, sh_4, p_1_1 hp.1]
    refine (a3 _).trans ?_
    simp only [u14_7, u14_8, u14_9, u14_12, u14_13, u14_16, u14_17, u14_20, u14_21, u14_22, u14_23, u14_24, u14_27, u14_28, u14_31, u14_34, u14_37, u14_38, u14_41, u14_42, u14_45, u76_0, u76_1, u76_4, u76_5, u76_6, u76_7, u76_10, u76_11, eq_self, q_nl0, q_nlI, q_nlR, not_false_eq_true, q_nz0, q_nz1, q_zv0, q_zv1, q_tl1, q_tl0, q_wif, q_swc, q_swn, List.cons_append, List.nil_append, if_true, if_false, e10, e01, Bool.false_eq_true, sh_1, sh_2, sh_4, sh_38, p_1_0 hp1, p_1_1 hp1', c0, n10, u1, u2, bT, bC, Option.toList]
    rw [← e2]
    have hp2' := hp2
    simp only [u14_37, u14_38, u14_41, u14_42, u14_45, eq_self, q_nl0, q_nlI, q_nlR, not_false_eq_true, q_nz0, q_nz1, q_zv0, q_zv1, q_tl1, q_tl0, q_wif, q_swc, q_swn, List.cons_append, List.nil_append, if_true, if_false, e10, e01, Bool.false_eq_true, sh_1, sh_38, p_1_3 hp2, r12, shT_0 hU]
    refine (l1 _).trans ?_
    have hpp : Ptr (pS g2 38 (rNew g2 C)) := hp2
    have p5 : ∀ v w, m_gR (m_sI (m_sI (pS g2 38 (rNew g2 C)) 44 2 v) 44 3 w) 1 10 = 179 := fun v w => p_1_10 hpp
    simp only [u14_48, u14_49, u14_52, u14_55, u14_56, u14_59, u14_62, u14_63, u78_0, u78_1, u78_2, u78_5, u78_6, u78_7, u78_10, u79_0, u79_1, u79_2, u79_5, eq_self, q_nl0, q_nlI, q_nlR, not_false_eq_true, q_nz0, q_nz1, q_zv0, q_zv1, q_tl1, q_tl0, q_wif, q_swc, q_swn, List.cons_append, List.nil_append, if_true, if_false, e10, e01, Bool.false_eq_true, sh_1, sh_44, sh_179, p_1_5 hpp, p5, Option.toList]
    rw [← e3]
    refine Eq.trans (b := wq X (d + 111) 14 64 [some (.ref 1), some (.int 1), some (.int (nI 0))] [] (hRw g3 170 (boZ (m_gI g3 170) 0)) Q) (by rw [z3]; rfl) ((l3 Q).trans ?_)
    rw [← eg]
    have hpg : Ptr g := Ptr_of hp2 gR4
    have p7 : m_gR g 1 7 = 170 := p_1_7 hpg
    have x3 : (nI 3 < Int32.ofNat 3) = False := eq_false (by decide)
    have rg : m_gR g 1 2 = C := (gR4 1 2).trans r12
    have mn : m_gI g C 4 = nI (τ 0 1) := (CCity_of (fun j k _ _ _ => low _ _ (by omega) (by omega)) a23).1.2.1
    rw [u14_64]
    simp only [u14_65, u14_66, eq_self, q_nl0, q_nlI, q_nlR, not_false_eq_true, q_nz0, q_nz1, q_zv0, q_zv1, q_tl1, q_tl0, q_wif, q_swc, q_swn, List.cons_append, List.nil_append, if_true, if_false, e10, e01, Bool.false_eq_true, sh_1, p7]
    rw [u14_69 (X := X) (r0 := 170) (by rw [sh_170]; rfl), sh_170]
    simp only [u14_70, u14_86, u14_87, u14_90, u14_93, eq_self, q_nl0, q_nlI, q_nlR, not_false_eq_true, q_nz0, q_nz1, q_zv0, q_zv1, q_tl1, q_tl0, q_wif, q_swc, q_swn, List.cons_append, List.nil_append, if_true, if_false, e10, e01, Bool.false_eq_true, sh_1, sh_170, x3, rg, shT_0 hU, mn]
end CCALL
