/-! SMALL STEPS OF THE CLASS'S READER -/
abbrev RP : Type := (Nat × Nat) ⊕ Nat
def CP (h : HT) (C L : Nat) (V : Nat → Nat) : RP → Prop
  | .inl e => CB h C L V e
  | .inr s => TkC h L V s ∧ (m_gR h 4 1 = C ∧ isT C) ∧ m_gI h 4 2 = 0 ∧ m_gI h 4 3 = -1
/-- only the tape's token and the fault change -/
def FrP (h g : HT) : Prop := (∀ c k, m_gR g c k = m_gR h c k) ∧ (∀ c k, c ≠ 2 ∨ k = 1 → c ≠ 4 ∨ k ≠ 2 ∧ k ≠ 3 → m_gI g c k = m_gI h c k) ∧ ∀ c k, c ≠ 2 → m_gL g c k = m_gL h c k
theorem FrP_rf {h : HT} : FrP h h := ⟨fun _ _ => rfl, fun _ _ _ _ => rfl, fun _ _ _ => rfl⟩
theorem FrP_tr {h g f : HT} (a : FrP h g) (b : FrP g f) : FrP h f := ⟨fun c k => (b.1 c k).trans (a.1 c k), fun c k x y => (b.2.1 c k x y).trans (a.2.1 c k x y), fun c k x => (b.2.2 c k x).trans (a.2.2 c k x)⟩
theorem FrP_T {h g : HT} (a : FrT h g) : FrP h g := ⟨a.1, fun c k x _ => a.2.1 c k x, a.2.2⟩
def rfP (V : Nat → Nat) (L k : Nat) : RP → RP
  | .inl e => .inl e
  | .inr s => .inl (kdO V L s k, s)
theorem CP_p {h : HT} {C L : Nat} {V : Nat → Nat} {r : RP} (H : CP h C L V r) : Ptr h ∧ (m_gR h 4 1 = C ∧ isT C) := by
  cases r with
  | inl e => exact ⟨H.1.1.1, H.2.1⟩
  | inr s => exact ⟨H.1.1.1, H.2.1⟩
def rpS : RP → Nat
  | .inl e => e.2
  | .inr s => s
theorem CP_k {h : HT} {C L : Nat} {V : Nat → Nat} {r : RP} (H : CP h C L V r) : TkC h L V (rpS r) := by
  cases r with
  | inl e => exact H.1
  | inr s => exact H.1
theorem CP_bad {h : HT} {C L : Nat} {V : Nat → Nat} {e : Nat × Nat} (H : CB h C L V e) : (nI e.1 = 0) = False := eq_false (fun q => by
  have := (nI_eq (a := e.1) (b := 0) (by have := H.2.2.2.1.2; omega) (by decide)).mp q
  have := H.2.2.2.1.1
  omega)
theorem c_refP {X : XT} {d C L k : Nat} {h : HT} {V : Nat → Nat} {r : RP} (H : CP h C L V r) (hk : 0 < k ∧ k < 10) : ∃ g, FrP h g ∧ CP g C L V (rfP V L k r) ∧ ∀ Q : QT, wq X d 54 0 [some (.ref 4), some (.int (nI k))] [] h Q = Q none g := by
  cases r with
  | inl e =>
    refine ⟨h, FrP_rf, H, fun Q => ?_⟩
    have H : CB h C L V e := H
    simp only [u54_0, u54_1, u54_4, u54_7, u54_8, u54_9, u54_12, u54_15, u54_16, u54_19, u54_20, u54_23, u54_24, u54_27, u54_28, u54_29, u54_32, u54_35, u54_38, eq_self, q_nl0, q_nlI, q_nlR, not_false_eq_true, q_nz0, q_nz1, q_zv0, q_zv1, q_tl1, q_tl0, q_wif, q_swc, q_swn, List.cons_append, List.nil_append, if_true, if_false, e10, e01, Bool.false_eq_true, sh_4, H.2.2.1, CP_bad H]
  | inr s =>
    obtain ⟨H1, H2, H3⟩ := H
    have hp := H1.1.1
    have hU := isT_ge H2.2
    have e1 : (nI (tK V L s) = 4) = (tK V L s = 4) := nI_eqB (b := 4) (by have := tK_4 (V := V) (L := L) (s := s); omega) (by decide)
    have key : wq X d 54 0 [some (.ref 4), some (.int (nI k))] [] h = fun Q => Q none (m_sI (m_sI h 4 2 (nI (kdO V L s k))) 4 3 (nI s)) := by
      funext Q
      unfold kdO
      by_cases z : tK V L s = 4
      · rw [if_pos z]
        simp only [u54_0, u54_1, u54_4, u54_7, u54_8, u54_9, u54_12, u54_15, u54_16, u54_19, u54_20, u54_23, u54_24, u54_27, u54_28, u54_29, u54_32, u54_35, u54_38, eq_self, q_nl0, q_nlI, q_nlR, not_false_eq_true, q_nz0, q_nz1, q_zv0, q_zv1, q_tl1, q_tl0, q_wif, q_swc, q_swn, List.cons_append, List.nil_append, if_true, if_false, e10, e01, Bool.false_eq_true, sh_2, sh_4, H3, p_4_0 hp, H1.2.2.1, e1, eq_true z, gR_sI, gI_sI, H1.2.2.2.1]
        rfl
      · rw [if_neg z]
        simp only [u54_0, u54_1, u54_4, u54_7, u54_8, u54_9, u54_12, u54_15, u54_16, u54_19, u54_20, u54_23, u54_24, u54_27, u54_28, u54_29, u54_32, u54_35, u54_38, eq_self, q_nl0, q_nlI, q_nlR, not_false_eq_true, q_nz0, q_nz1, q_zv0, q_zv1, q_tl1, q_tl0, q_wif, q_swc, q_swn, List.cons_append, List.nil_append, if_true, if_false, e10, e01, Bool.false_eq_true, sh_2, sh_4, H3, p_4_0 hp, H1.2.2.1, e1, eq_false z, gR_sI, gI_sI, H1.2.2.2.1]
        rfl
    have fr : ∀ c k', c ≠ 4 ∨ k' ≠ 2 ∧ k' ≠ 3 → m_gI (m_sI (m_sI h 4 2 (nI (kdO V L s k))) 4 3 (nI s)) c k' = m_gI h c k' := fun c k' z => by
      rw [gI_sI, gI_sI, if_neg (by omega), if_neg (by omega)]
    refine ⟨m_sI (m_sI h 4 2 (nI (kdO V L s k))) 4 3 (nI s), ⟨fun _ _ => rfl, fun c k' _ y => fr c k' y, fun _ _ _ => rfl⟩, ⟨TkC_eq (h := h) (fun _ _ => rfl) (fun c k z => fr c k (by omega)) rfl H1, H2, ?_, ?_, ?_⟩, fun Q => congrFun key Q⟩
    · rw [gI_sI, gI_sI, if_neg (by decide), if_pos ⟨rfl, rfl⟩]
    · show 0 < kdO V L s k ∧ kdO V L s k < 10
      unfold kdO
      split <;> omega
    · rw [gI_sI, if_pos ⟨rfl, rfl⟩]
theorem c_avP {X : XT} {d C L s : Nat} {h : HT} {V : Nat → Nat} (H : CP h C L V (.inr s)) : ∃ g, FrP h g ∧ CP g C L V (.inr (nx V L s)) ∧ ∀ Q : QT, wq X (d + 4) 19 0 [some (.ref 2), none] [] h Q = Q none g := by
  obtain ⟨H1, H2, H3⟩ := H
  obtain ⟨g, a1, a2, a3⟩ := c_advance (X := X) (d := d) H1.1 (tE_L H1.2.1) H1.2.2.2.2.1
  exact ⟨g, FrP_T a1, ⟨a2, ⟨(a1.1 4 1).trans H2.1, H2.2⟩, (a1.2.1 4 2 (by omega)).trans H3.1, (a1.2.1 4 3 (by omega)).trans H3.2⟩, a3⟩
/-- a word that must stand here -/
def exW (V : Nat → Nat) (L i : Nat) : RP → RP
  | .inl e => .inl e
  | .inr s => if isW V L s i = true then .inr (nx V L s) else .inl (kdO V L s 2, s)
theorem c_expW {X : XT} {d C L r0 i : Nat} {h : HT} {V : Nat → Nat} {r : RP} (H : CP h C L V r) (hr : r0 = 10000 + (10 + i)) (hi : i < 46) : ∃ g, FrP h g ∧ CP g C L V (exW V L i r) ∧ ∀ Q : QT, wq X (d + 5) 59 0 [some (.ref 4), some (.ref r0)] [] h Q = Q none g := by
  obtain ⟨hp, hu, hU⟩ := CP_p H
  have wi := fun (Q : QT) => c_wordAt (X := X) (d := d) (Q := Q) (CP_k H) hr hi
  cases r with
  | inl e =>
    obtain ⟨g, a1, a2, a3⟩ := c_refP (X := X) (d := d + 4) (k := 2) H (by decide)
    have HB : CB h C L V e := H
    by_cases z : isW V L (rpS (.inl e)) i = true
    · refine ⟨h, FrP_rf, H, fun Q => ?_⟩
      simp only [u59_0, u59_1, u59_4, u59_5, u59_8, u59_11, u59_12, u59_13, u59_16, u59_19, u59_20, u59_23, u59_26, u59_27, u59_30, u59_33, eq_self, q_nl0, q_nlI, q_nlR, not_false_eq_true, q_nz0, q_nz1, q_zv0, q_zv1, q_tl1, q_tl0, q_wif, q_swc, q_swn, List.cons_append, List.nil_append, if_true, if_false, e10, e01, Bool.false_eq_true, sh_2, sh_4, p_4_0 hp, wi, z, HB.2.2.1, CP_bad HB, Option.toList]
    · refine ⟨g, a1, a2, fun Q => ?_⟩
      simp only [u59_0, u59_1, u59_4, u59_5, u59_8, u59_11, u59_12, u59_13, u59_16, u59_19, u59_20, u59_23, u59_26, u59_27, u59_30, u59_33, eq_self, q_nl0, q_nlI, q_nlR, not_false_eq_true, q_nz0, q_nz1, q_zv0, q_zv1, q_tl1, q_tl0, q_wif, q_swc, q_swn, List.cons_append, List.nil_append, if_true, if_false, e10, e01, Bool.false_eq_true, sh_2, sh_4, p_4_0 hp, wi, z, Option.toList]
      refine (a3 _).trans ?_
      simp only [u59_16, u59_33, eq_self, q_nl0, q_nlI, q_nlR, not_false_eq_true, q_nz0, q_nz1, q_zv0, q_zv1, q_tl1, q_tl0, q_wif, q_swc, q_swn, List.cons_append, List.nil_append, if_true, if_false, e10, e01, Bool.false_eq_true]
  | inr s =>
    by_cases z : isW V L s i = true
    · obtain ⟨g, a1, a2, a3⟩ := c_avP (X := X) (d := d) H
      rw [show exW V L i (.inr s) = .inr (nx V L s) from if_pos z]
      refine ⟨g, a1, a2, fun Q => ?_⟩
      simp only [u59_0, u59_1, u59_4, u59_5, u59_8, u59_11, u59_12, u59_13, u59_16, u59_19, u59_20, u59_23, u59_26, u59_27, u59_30, u59_33, eq_self, q_nl0, q_nlI, q_nlR, not_false_eq_true, q_nz0, q_nz1, q_zv0, q_zv1, q_tl1, q_tl0, q_wif, q_swc, q_swn, List.cons_append, List.nil_append, if_true, if_false, e10, e01, Bool.false_eq_true, sh_2, sh_4, p_4_0 hp, wi, show rpS (.inr s) = s from rfl, z, H.2.2, Option.toList, a3]
    · obtain ⟨g, a1, a2, a3⟩ := c_refP (X := X) (d := d + 4) (k := 2) H (by decide)
      rw [show exW V L i (.inr s) = .inl (kdO V L s 2, s) from if_neg z]
      refine ⟨g, a1, a2, fun Q => ?_⟩
      simp only [u59_0, u59_1, u59_4, u59_5, u59_8, u59_11, u59_12, u59_13, u59_16, u59_19, u59_20, u59_23, u59_26, u59_27, u59_30, u59_33, eq_self, q_nl0, q_nlI, q_nlR, not_false_eq_true, q_nz0, q_nz1, q_zv0, q_zv1, q_tl1, q_tl0, q_wif, q_swc, q_swn, List.cons_append, List.nil_append, if_true, if_false, e10, e01, Bool.false_eq_true, sh_2, sh_4, p_4_0 hp, wi, show rpS (.inr s) = s from rfl, z, Option.toList]
      refine (a3 _).trans ?_
      simp only [u59_16, u59_33, eq_self, q_nl0, q_nlI, q_nlR, not_false_eq_true, q_nz0, q_nz1, q_zv0, q_zv1, q_tl1, q_tl0, q_wif, q_swc, q_swn, List.cons_append, List.nil_append, if_true, if_false, e10, e01, Bool.false_eq_true]
/-- a number that must stand here, and what it says -/
def nuP (V : Nat → Nat) (L m : Nat) : RP → RP × Nat
  | .inl e => (.inl e, 0)
  | .inr s => if tK V L s = 2 then (if m < dN V s (nDg V L s) then (.inl (kdO V L s 4, s), 0) else (.inr (nx V L s), dN V s (nDg V L s))) else (.inl (kdO V L s 2, s), 0)
theorem c_numB {X : XT} {d C L r0 i m : Nat} {h : HT} {V : Nat → Nat} {r : RP} (H : CP h C L V r) (hr : r0 = 10000 + (10 + i)) (hi : i < 46) (hm : m < 1000) : ∃ g, FrP h g ∧ CP g C L V (nuP V L m (exW V L i r)).1 ∧ ∀ Q : QT, wq X (d + 6) 58 0 [some (.ref 4), some (.ref r0), some (.int (nI m)), none] [] h Q = Q (some (.int (nI (nuP V L m (exW V L i r)).2))) g := by
  obtain ⟨h1, a1, a2, a3⟩ := c_expW (X := X) (d := d) H hr hi
  have hp1 := (CP_p a2).1
  have k1 := CP_k a2
  have e2 : ∀ s, (nI (tK V L s) = 2) = (tK V L s = 2) := fun s => nI_eqB (b := 2) (by have := tK_4 (V := V) (L := L) (s := s); omega) (by decide)
  have st : ∀ Q : QT, wq X (d + 6) 58 0 [some (.ref 4), some (.ref r0), some (.int (nI m)), none] [] h Q = wq X (d + 6) 58 5 [some (.ref 4), some (.ref r0), some (.int (nI m)), none] [] h1 Q := fun Q => by
    simp only [u58_0, u58_1, u58_2, eq_self, q_nl0, q_nlI, q_nlR, not_false_eq_true, q_nz0, q_nz1, q_zv0, q_zv1, q_tl1, q_tl0, q_wif, q_swc, q_swn, List.cons_append, List.nil_append, if_true, if_false, e10, e01, Bool.false_eq_true, sh_4]
    refine (a3 _).trans ?_
    simp only [eq_self, q_nl0, q_nlI, q_nlR, not_false_eq_true, q_nz0, q_nz1, q_zv0, q_zv1, q_tl1, q_tl0, q_wif, q_swc, q_swn, List.cons_append, List.nil_append, if_true, if_false, e10, e01, Bool.false_eq_true]
  generalize exW V L i r = r1 at a2 k1
  cases r1 with
  | inl e =>
    obtain ⟨g2, b1, b2, b3⟩ := c_refP (X := X) (d := d + 5) (k := 2) a2 (by decide)
    obtain ⟨g4, c1, c2, c3⟩ := c_refP (X := X) (d := d + 5) (k := 4) a2 (by decide)
    have HB : CB h1 C L V e := a2
    have H2 : CB g2 C L V e := b2
    have H4 : CB g4 C L V e := c2
    have kt : TkC h1 L V e.2 := k1
    by_cases y : tK V L e.2 = 2
    · have hd := dN_4 y
      have f1 : (nI m < nI (dN V e.2 (nDg V L e.2))) = (m < dN V e.2 (nDg V L e.2)) := nI_ltB (by omega) (by omega)
      by_cases x : m < dN V e.2 (nDg V L e.2)
      · refine ⟨g4, FrP_tr a1 c1, c2, fun Q => ?_⟩
        rw [st]
        simp only [u58_5, u58_6, u58_9, u58_12, u58_13, u58_16, u58_17, u58_18, u58_21, u58_24, u58_25, u58_28, u58_31, u58_32, u58_35, u58_36, u58_37, eq_self, q_nl0, q_nlI, q_nlR, not_false_eq_true, q_nz0, q_nz1, q_zv0, q_zv1, q_tl1, q_tl0, q_wif, q_swc, q_swn, List.cons_append, List.nil_append, if_true, if_false, e10, e01, Bool.false_eq_true, sh_2, sh_4, p_4_0 hp1, kt.2.2.1, e2, eq_true y, kt.2.2.2.2.2.2 y, f1, eq_true x]
        refine (c3 _).trans ?_
        simp only [u58_40, u58_41, u58_44, u58_47, u58_48, eq_self, q_nl0, q_nlI, q_nlR, not_false_eq_true, q_nz0, q_nz1, q_zv0, q_zv1, q_tl1, q_tl0, q_wif, q_swc, q_swn, List.cons_append, List.nil_append, if_true, if_false, e10, e01, Bool.false_eq_true, sh_4, H4.2.2.1, CP_bad H4]
        rfl
      · refine ⟨h1, a1, a2, fun Q => ?_⟩
        rw [st]
        simp only [u58_5, u58_6, u58_9, u58_12, u58_13, u58_16, u58_17, u58_18, u58_21, u58_24, u58_25, u58_28, u58_31, u58_32, u58_35, u58_36, u58_37, u58_40, u58_41, u58_44, u58_47, u58_48, eq_self, q_nl0, q_nlI, q_nlR, not_false_eq_true, q_nz0, q_nz1, q_zv0, q_zv1, q_tl1, q_tl0, q_wif, q_swc, q_swn, List.cons_append, List.nil_append, if_true, if_false, e10, e01, Bool.false_eq_true, sh_2, sh_4, p_4_0 hp1, kt.2.2.1, e2, eq_true y, kt.2.2.2.2.2.2 y, f1, eq_false x, HB.2.2.1, CP_bad HB]
        rfl
    · refine ⟨g2, FrP_tr a1 b1, b2, fun Q => ?_⟩
      rw [st]
      simp only [u58_5, u58_6, u58_9, u58_12, u58_13, u58_16, u58_17, u58_18, eq_self, q_nl0, q_nlI, q_nlR, not_false_eq_true, q_nz0, q_nz1, q_zv0, q_zv1, q_tl1, q_tl0, q_wif, q_swc, q_swn, List.cons_append, List.nil_append, if_true, if_false, e10, e01, Bool.false_eq_true, sh_2, sh_4, p_4_0 hp1, kt.2.2.1, e2, eq_false y]
      refine (b3 _).trans ?_
      simp only [u58_21, u58_24, u58_25, u58_28, u58_31, u58_32, u58_35, u58_36, u58_37, u58_40, u58_41, u58_44, u58_47, u58_48, eq_self, q_nl0, q_nlI, q_nlR, not_false_eq_true, q_nz0, q_nz1, q_zv0, q_zv1, q_tl1, q_tl0, q_wif, q_swc, q_swn, List.cons_append, List.nil_append, if_true, if_false, e10, e01, Bool.false_eq_true, sh_4, H2.2.2.1, CP_bad H2]
      rfl
  | inr s =>
    have kt : TkC h1 L V s := k1
    by_cases y : tK V L s = 2
    · have hd := dN_4 y
      have f1 : (nI m < nI (dN V s (nDg V L s))) = (m < dN V s (nDg V L s)) := nI_ltB (by omega) (by omega)
      by_cases x : m < dN V s (nDg V L s)
      · obtain ⟨g4, c1, c2, c3⟩ := c_refP (X := X) (d := d + 5) (k := 4) a2 (by decide)
        have H4 : CB g4 C L V (kdO V L s 4, s) := c2
        rw [show nuP V L m (.inr s) = (.inl (kdO V L s 4, s), 0) from (if_pos y).trans (if_pos x)]
        refine ⟨g4, FrP_tr a1 c1, c2, fun Q => ?_⟩
        rw [st]
        simp only [u58_5, u58_6, u58_9, u58_12, u58_13, u58_16, u58_17, u58_18, u58_21, u58_24, u58_25, u58_28, u58_31, u58_32, u58_35, u58_36, u58_37, eq_self, q_nl0, q_nlI, q_nlR, not_false_eq_true, q_nz0, q_nz1, q_zv0, q_zv1, q_tl1, q_tl0, q_wif, q_swc, q_swn, List.cons_append, List.nil_append, if_true, if_false, e10, e01, Bool.false_eq_true, sh_2, sh_4, p_4_0 hp1, kt.2.2.1, e2, eq_true y, kt.2.2.2.2.2.2 y, f1, eq_true x]
        refine (c3 _).trans ?_
        simp only [u58_40, u58_41, u58_44, u58_47, u58_48, eq_self, q_nl0, q_nlI, q_nlR, not_false_eq_true, q_nz0, q_nz1, q_zv0, q_zv1, q_tl1, q_tl0, q_wif, q_swc, q_swn, List.cons_append, List.nil_append, if_true, if_false, e10, e01, Bool.false_eq_true, sh_4, H4.2.2.1, CP_bad H4]
        rfl
      · obtain ⟨g, b1, b2, b3⟩ := c_avP (X := X) (d := d + 1) a2
        rw [show nuP V L m (.inr s) = (.inr (nx V L s), dN V s (nDg V L s)) from (if_pos y).trans (if_neg x)]
        refine ⟨g, FrP_tr a1 b1, b2, fun Q => ?_⟩
        rw [st]
        simp only [u58_5, u58_6, u58_9, u58_12, u58_13, u58_16, u58_17, u58_18, u58_21, u58_24, u58_25, u58_28, u58_31, u58_32, u58_35, u58_36, u58_37, u58_40, u58_41, u58_44, u58_47, u58_48, u58_49, u58_50, u58_53, u58_56, u58_57, u58_58, u58_61, eq_self, q_nl0, q_nlI, q_nlR, not_false_eq_true, q_nz0, q_nz1, q_zv0, q_zv1, q_tl1, q_tl0, q_wif, q_swc, q_swn, List.cons_append, List.nil_append, if_true, if_false, e10, e01, Bool.false_eq_true, sh_2, sh_4, p_4_0 hp1, kt.2.2.1, e2, eq_true y, kt.2.2.2.2.2.2 y, f1, eq_false x, a2.2.2]
        refine (b3 _).trans ?_
        simp only [u58_64, u58_65, eq_self, q_nl0, q_nlI, q_nlR, not_false_eq_true, q_nz0, q_nz1, q_zv0, q_zv1, q_tl1, q_tl0, q_wif, q_swc, q_swn, List.cons_append, List.nil_append, if_true, if_false, e10, e01, Bool.false_eq_true]
    · obtain ⟨g2, b1, b2, b3⟩ := c_refP (X := X) (d := d + 5) (k := 2) a2 (by decide)
      have H2 : CB g2 C L V (kdO V L s 2, s) := b2
      rw [show nuP V L m (.inr s) = (.inl (kdO V L s 2, s), 0) from if_neg y]
      refine ⟨g2, FrP_tr a1 b1, b2, fun Q => ?_⟩
      rw [st]
      simp only [u58_5, u58_6, u58_9, u58_12, u58_13, u58_16, u58_17, u58_18, eq_self, q_nl0, q_nlI, q_nlR, not_false_eq_true, q_nz0, q_nz1, q_zv0, q_zv1, q_tl1, q_tl0, q_wif, q_swc, q_swn, List.cons_append, List.nil_append, if_true, if_false, e10, e01, Bool.false_eq_true, sh_2, sh_4, p_4_0 hp1, kt.2.2.1, e2, eq_false y]
      refine (b3 _).trans ?_
      simp only [u58_21, u58_24, u58_25, u58_28, u58_31, u58_32, u58_35, u58_36, u58_37, u58_40, u58_41, u58_44, u58_47, u58_48, eq_self, q_nl0, q_nlI, q_nlR, not_false_eq_true, q_nz0, q_nz1, q_zv0, q_zv1, q_tl1, q_tl0, q_wif, q_swc, q_swn, List.cons_append, List.nil_append, if_true, if_false, e10, e01, Bool.false_eq_true, sh_4, H2.2.2.1, CP_bad H2]
      rfl
