/-! NAMES: where one stands among those told, a new one, one that is known -/
/-- the first from i on, of k, that keeps P -/
def fp (P : Nat → Bool) : Nat → Nat → Nat
  | 0, i => i
  | k + 1, i => if P i = true then i else fp P k (i + 1)
theorem fp_le {P : Nat → Bool} : ∀ k i, i ≤ fp P k i ∧ fp P k i ≤ i + k
  | 0, i => ⟨Nat.le_refl _, Nat.le_refl _⟩
  | k + 1, i => by
    unfold fp
    by_cases z : P i = true
    · rw [if_pos z]
      omega
    · rw [if_neg z]
      have := fp_le (P := P) k (i + 1)
      omega
theorem fp_cg {P P' : Nat → Bool} : ∀ k i, (∀ j, i ≤ j → j < i + k → P j = P' j) → fp P k i = fp P' k i
  | 0, _, _ => rfl
  | k + 1, i, h => by
    unfold fp
    rw [h i (by omega) (by omega), fp_cg k (i + 1) (fun j h1 h2 => h j (by omega) (by omega))]
def pI (n f : Nat) : Int32 := if f < n then nI f else -1
theorem pI_m1 {n f : Nat} (hn : n < 100) : (pI n f = -1) = ¬ f < n := by
  unfold pI
  by_cases z : f < n
  · rw [if_pos z]
    have := nI_m1eq (a := f) (by omega)
    rw [this]
    exact propext ⟨fun q => q.elim, fun q => q z⟩
  · rw [if_neg z]
    exact propext ⟨fun _ => z, fun _ => rfl⟩
theorem c_placeOf {X : XT} {d R K n : Nat} {h : HT} {μ : Nat → Int64} {w : Int64} (hR : m_sh (KS X) R = (21, K)) (hK : K < 100) (hn : n ≤ K) (hm : ∀ i, i < n → m_gL h R i = μ i) (Q : QT) : wq X d 57 0 [some (.long w), none, some (.ref R), some (.int (nI n)), none] [] h Q = Q (some (.int (pI n (fp (fun i => decide (μ i = w)) n 0)))) h := by
  have e20 : (Nat.ble 20 (m_sh (KS X) R).1 && Nat.blt (m_sh (KS X) R).1 99) = true := by rw [hR]; rfl
  have key : ∀ k i, i + k = n → wq X d 57 3 [some (.long w), none, some (.ref R), some (.int (nI n)), some (.int (nI i))] [] h Q = Q (some (.int (pI n (fp (fun i => decide (μ i = w)) k i)))) h := by
    intro k
    induction k with
    | zero =>
      intro i e
      have : i = n := by omega
      subst this
      have c1 : (nI i < nI i) = False := eq_false (nI_nlt (Nat.le_refl _) (by omega))
      simp only [u57_0, u57_1, u57_3, u57_5, u57_6, u57_9, u57_11, u57_12, u57_13, u57_16, u57_17, u57_19, u57_20, u57_21, u57_22, u57_25, u57_27, u57_28, u57_31, u57_34, u57_35, eq_self, q_nl0, q_nlI, q_nlR, not_false_eq_true, q_nz0, q_nz1, q_zv0, q_zv1, q_tl1, q_tl0, q_wif, q_swc, q_swn, List.cons_append, List.nil_append, if_true, if_false, e10, e01, Bool.false_eq_true, c1]
      show _ = Q (some (.int (pI i i))) h
      rw [show pI i i = -1 from if_neg (Nat.lt_irrefl _)]
    | succ k ih =>
      intro i e
      have c1 : (nI i < nI n) = True := eq_true (nI_lt (by omega) (by omega))
      have c2 : (nI i < Int32.ofNat K) = True := eq_true (nI_lt (b := K) (by omega) (by omega))
      have c3 : m_in (nI i) K = true := q_in (by omega) (by omega)
      have c4 : (nI i).toNatClampNeg = i := q_cl (by omega)
      refine Eq.trans ?_ (?_ : (if μ i = w then Q (some (.int (nI i))) h else wq X d 57 3 [some (.long w), none, some (.ref R), some (.int (nI n)), some (.int (nI (i + 1)))] [] h Q) = _)
      · rw [u57_3]
        simp only [u57_0, u57_1, u57_5, u57_6, u57_9, u57_11, u57_13, u57_16, u57_17, u57_19, u57_20, u57_21, u57_22, u57_25, u57_27, u57_28, u57_31, u57_34, u57_35, u57_12 (r0 := R) e20, eq_self, q_nl0, q_nlI, q_nlR, not_false_eq_true, q_nz0, q_nz1, q_zv0, q_zv1, q_tl1, q_tl0, q_wif, q_swc, q_swn, List.cons_append, List.nil_append, if_true, if_false, e10, e01, Bool.false_eq_true, c1, hR, c2, c3, c4, hm i (by omega), lg_z, nI_1]
      · show _ = Q (some (.int (pI n (if decide (μ i = w) = true then i else fp (fun i => decide (μ i = w)) k (i + 1))))) h
        by_cases z : μ i = w
        · rw [if_pos z, if_pos (decide_eq_true z), show pI n i = nI i from if_pos (by omega)]
        · rw [if_neg z, if_neg (fun q => z (of_decide_eq_true q))]
          exact ih (i + 1) (by omega)
  refine Eq.trans ?_ (key n 0 (by omega))
  simp only [u57_0, u57_1, eq_self, q_nl0, q_nlI, q_nlR, not_false_eq_true, q_nz0, q_nz1, q_zv0, q_zv1, q_tl1, q_tl0, q_wif, q_swc, q_swn, List.cons_append, List.nil_append, if_true, if_false, e10, e01, Bool.false_eq_true]
  rfl
/-- the word that stands here, as a number -/
def wd (V : Nat → Nat) (L s : Nat) : Nat := wN V s (nLt V L s)
def wP (ν : Nat → Nat) (w : Nat) (i : Nat) : Bool := decide (ν i = w)
/-- names as both keep them -/
def nmK (ν : Nat → Nat) (n : Nat) : Prop := ∀ i, i < n → ν i < 2 ^ 40
theorem wd_40 {V : Nat → Nat} {L s : Nat} (h : tK V L s = 1) : wd V L s < 2 ^ 40 := wN_40 h
theorem wP_c {ν : Nat → Nat} {n w : Nat} (hν : nmK ν n) (hw : w < 2 ^ 40) : fp (fun i => decide (nL (ν i) = nL w)) n 0 = fp (wP ν w) n 0 := by
  refine fp_cg n 0 (fun j _ h2 => ?_)
  have hj := hν j (by omega)
  unfold wP
  by_cases z : ν j = w
  · rw [decide_eq_true z, z]
    exact decide_eq_true rfl
  · rw [decide_eq_false z]
    exact decide_eq_false (fun q => z (nL_inj (Nat.lt_trans hj (by decide)) (Nat.lt_trans hw (by decide)) q))
theorem wP_k {ν : Nat → Nat} {n w : Nat} (hν : nmK ν n) (hw : w < 2 ^ 40) : fp (fun i => decide (nL (cv (ν i)) = nL (cv w))) n 0 = fp (wP ν w) n 0 := by
  refine fp_cg n 0 (fun j _ h2 => ?_)
  have hj := hν j (by omega)
  unfold wP
  by_cases z : ν j = w
  · rw [decide_eq_true z, z]
    exact decide_eq_true rfl
  · rw [decide_eq_false z]
    exact decide_eq_false (fun q => z (cv_inj hj hw q))
theorem isN_1 {V : Nat → Nat} {L s : Nat} (h : isN V L s = true) : tK V L s = 1 := (of_decide_eq_true h).1
theorem kdO_N {V : Nat → Nat} {L s k : Nat} (h : isN V L s = true) : kdO V L s k = k := if_neg (by rw [isN_1 h]; decide)
/-- a new name -/
def nmP (V : Nat → Nat) (L : Nat) (ν : Nat → Nat) (n : Nat) : RP → RP
  | .inl e => .inl e
  | .inr s => if isN V L s = true then (if fp (wP ν (wd V L s)) n 0 < n then .inl (kdO V L s 3, s) else .inr (nx V L s)) else .inl (kdO V L s 2, s)
/-- a name that is known, among t told already -/
def cnP (V : Nat → Nat) (L : Nat) (ν : Nat → Nat) (n t : Nat) : RP → RP × Nat
  | .inl e => (.inl e, 0)
  | .inr s => if isN V L s = true then (if fp (wP ν (wd V L s)) n 0 < n then (if t.testBit (fp (wP ν (wd V L s)) n 0) = true then (.inl (kdO V L s 3, s), 0) else (.inr (nx V L s), 2 ^ fp (wP ν (wd V L s)) n 0)) else (.inl (kdO V L s 5, s), 0)) else (.inl (kdO V L s 2, s), 0)
theorem c_newName {X : XT} {d C L s R K n : Nat} {h : HT} {V ν : Nat → Nat} (H : CP h C L V (.inr s)) (hR : m_sh (KS X) R = (21, K)) (hK : K < 100) (hn : n ≤ K) (hν : nmK ν n) (hm : ∀ i, i < n → m_gL h R i = nL (ν i)) : ∃ g, FrP h g ∧ CP g C L V (nmP V L ν n (.inr s)) ∧ ∀ Q : QT, wq X (d + 5) 55 0 [some (.ref 4), some (.ref R), some (.int (nI n)), none, none] [] h Q = Q (some (.long (m_gL h 2 5))) g := by
  have hp := (CP_p H).1
  have kt : TkC h L V s := H.1
  have nm := fun (Q : QT) => c_nameAt (X := X) (d := d) (Q := Q) kt
  have pl := fun (Q : QT) => c_placeOf (X := X) (d := d + 4) (w := m_gL h 2 5) (μ := fun i => nL (ν i)) hR hK hn hm Q
  by_cases z : isN V L s = true
  · have hw : m_gL h 2 5 = nL (wd V L s) := kt.2.2.2.2.2.1 (isN_1 z)
    have ef : fp (fun i => decide (nL (ν i) = m_gL h 2 5)) n 0 = fp (wP ν (wd V L s)) n 0 := by rw [hw]; exact wP_c hν (wN_40 (isN_1 z))
    by_cases y : fp (wP ν (wd V L s)) n 0 < n
    · obtain ⟨g, a1, a2, a3⟩ := c_refP (X := X) (d := d + 4) (k := 3) H (by decide)
      have a2 : CB g C L V (kdO V L s 3, s) := a2
      rw [show nmP V L ν n (.inr s) = .inl (kdO V L s 3, s) from (if_pos z).trans (if_pos y)]
      refine ⟨g, a1, a2, fun Q => ?_⟩
      simp only [u55_0, u55_1, u55_4, u55_7, u55_8, u55_9, u55_12, u55_15, u55_18, u55_19, u55_20, u55_23, u55_26, u55_27, u55_28, u55_29, u55_32, u55_33, u55_36, u55_37, u55_38, u55_41, u55_42, u55_45, u55_48, u55_49, u55_52, u55_55, u55_56, eq_self, q_nl0, q_nlI, q_nlR, not_false_eq_true, q_nz0, q_nz1, q_zv0, q_zv1, q_tl1, q_tl0, q_wif, q_swc, q_swn, List.cons_append, List.nil_append, if_true, if_false, e10, e01, Bool.false_eq_true, sh_2, sh_4, p_4_0 hp, nm, z, pl, ef, pI_m1 (show n < 100 by omega), y, not_true_eq_false, Option.toList]
      refine (a3 _).trans ?_
      simp only [u55_23, u55_41, u55_42, u55_45, u55_48, u55_49, u55_52, u55_55, u55_56, eq_self, q_nl0, q_nlI, q_nlR, not_false_eq_true, q_nz0, q_nz1, q_zv0, q_zv1, q_tl1, q_tl0, q_wif, q_swc, q_swn, List.cons_append, List.nil_append, if_true, if_false, e10, e01, Bool.false_eq_true, sh_4, a2.2.2.1, CP_bad a2]
    · obtain ⟨g, a1, a2, a3⟩ := c_avP (X := X) (d := d) H
      rw [show nmP V L ν n (.inr s) = .inr (nx V L s) from (if_pos z).trans (if_neg y)]
      refine ⟨g, a1, a2, fun Q => ?_⟩
      simp only [u55_0, u55_1, u55_4, u55_7, u55_8, u55_9, u55_12, u55_15, u55_18, u55_19, u55_20, u55_23, u55_26, u55_27, u55_28, u55_29, u55_32, u55_33, u55_36, u55_37, u55_38, u55_41, u55_42, u55_45, u55_48, u55_49, u55_52, u55_55, u55_56, eq_self, q_nl0, q_nlI, q_nlR, not_false_eq_true, q_nz0, q_nz1, q_zv0, q_zv1, q_tl1, q_tl0, q_wif, q_swc, q_swn, List.cons_append, List.nil_append, if_true, if_false, e10, e01, Bool.false_eq_true, sh_2, sh_4, p_4_0 hp, nm, z, pl, ef, pI_m1 (show n < 100 by omega), y, H.2.2, Option.toList]
      refine (a3 _).trans ?_
      simp only [u55_55, u55_56, eq_self, q_nl0, q_nlI, q_nlR, not_false_eq_true, q_nz0, q_nz1, q_zv0, q_zv1, q_tl1, q_tl0, q_wif, q_swc, q_swn, List.cons_append, List.nil_append, if_true, if_false, e10, e01, Bool.false_eq_true]
  · obtain ⟨g, a1, a2, a3⟩ := c_refP (X := X) (d := d + 4) (k := 2) H (by decide)
    have a2 : CB g C L V (kdO V L s 2, s) := a2
    rw [show nmP V L ν n (.inr s) = .inl (kdO V L s 2, s) from if_neg z]
    refine ⟨g, a1, a2, fun Q => ?_⟩
    simp only [u55_0, u55_1, u55_4, u55_7, u55_8, u55_9, u55_12, u55_15, u55_18, u55_19, u55_20, u55_23, u55_26, u55_27, u55_28, u55_29, u55_32, u55_33, u55_36, u55_37, u55_38, u55_41, u55_42, u55_45, u55_48, u55_49, u55_52, u55_55, u55_56, eq_self, q_nl0, q_nlI, q_nlR, not_false_eq_true, q_nz0, q_nz1, q_zv0, q_zv1, q_tl1, q_tl0, q_wif, q_swc, q_swn, List.cons_append, List.nil_append, if_true, if_false, e10, e01, Bool.false_eq_true, sh_2, sh_4, p_4_0 hp, nm, z, Option.toList]
    refine (a3 _).trans ?_
    simp only [u55_23, u55_41, u55_42, u55_45, u55_48, u55_49, u55_52, u55_55, u55_56, eq_self, q_nl0, q_nlI, q_nlR, not_false_eq_true, q_nz0, q_nz1, q_zv0, q_zv1, q_tl1, q_tl0, q_wif, q_swc, q_swn, List.cons_append, List.nil_append, if_true, if_false, e10, e01, Bool.false_eq_true, sh_4, a2.2.2.1, CP_bad a2]
theorem isT_sh0 {X : XT} {C : Nat} (h : isT C) : (m_sh (KS X) C).1 = 9 := by rw [shT_0 h]
theorem c_craftName {X : XT} {d C L n t : Nat} {h : HT} {V ν : Nat → Nat} {r : RP} (H : CP h C L V r) (h0 : m_gI h C 0 = nI n) (hn : n ≤ 4) (ht : t < 16) (hν : nmK ν n) (hm : ∀ i, i < n → m_gL h 20 i = nL (ν i)) : ∃ g, FrP h g ∧ CP g C L V (cnP V L ν n t r).1 ∧ ∀ Q : QT, wq X (d + 5) 61 0 [some (.ref 4), some (.int (nI t)), none] [] h Q = Q (some (.int (nI (cnP V L ν n t r).2))) g := by
  obtain ⟨hp, hu, hU⟩ := CP_p H
  have nm := fun (Q : QT) => c_nameAt (X := X) (d := d) (Q := Q) (CP_k H)
  have pl := fun (Q : QT) => c_placeOf (X := X) (d := d + 4) (w := m_gL h 2 5) (μ := fun i => nL (ν i)) sh_20 (by decide) hn hm Q
  have sC := isT_sh0 (X := X) hU
  have tb : ∀ f, f < n → ((nI t >>> (nI f &&& 31)) &&& 1 = 1) = (t.testBit f = true) := fun f hf => nI_bit4 t (by omega) f (by omega)
  have pv : ∀ f, f < n → pI n f = nI f := fun f hf => if_pos hf
  cases r with
  | inl e =>
    have HB : CB h C L V e := H
    have rfQ : ∀ (v : Int32) (Q : QT), wq X (d + 4) 54 0 [some (.ref 4), some (.int v)] [] h Q = Q none h := fun v Q => by
      simp only [u54_0, u54_1, u54_4, u54_7, u54_8, u54_9, u54_12, u54_15, u54_16, u54_19, u54_20, u54_23, u54_24, u54_27, u54_28, u54_29, u54_32, u54_35, u54_38, eq_self, q_nl0, q_nlI, q_nlR, not_false_eq_true, q_nz0, q_nz1, q_zv0, q_zv1, q_tl1, q_tl0, q_wif, q_swc, q_swn, List.cons_append, List.nil_append, if_true, if_false, e10, e01, Bool.false_eq_true, sh_4, HB.2.2.1, CP_bad HB]
    refine ⟨h, FrP_rf, H, fun Q => ?_⟩
    generalize fp (fun i => decide (nL (ν i) = m_gL h 2 5)) n 0 = f at pl
    by_cases z : isN V L (rpS (.inl e)) = true
    · by_cases y : f < n
      · by_cases x : t.testBit f = true
        · simp only [u61_0, u61_1, u61_4, u61_7, u61_8, u61_11, u61_12, u61_15, u61_18, u61_21, u61_22, u61_23, u61_26, u61_29, u61_32, u61_33, u61_34, u61_37, u61_40, u61_41, u61_42, u61_45, u61_46, u61_47, u61_50, u61_53, u61_54, u61_55, u61_56, u61_57, u61_58, u61_59, u61_62, u61_63, u61_64, u61_67, u61_68, u61_71, u61_74, u61_75, u61_76, u61_77, u61_80, u61_83, u61_84, u61_85, u61_86, eq_self, q_nl0, q_nlI, q_nlR, not_false_eq_true, q_nz0, q_nz1, q_zv0, q_zv1, q_tl1, q_tl0, q_wif, q_swc, q_swn, List.cons_append, List.nil_append, if_true, if_false, e10, e01, Bool.false_eq_true, sh_2, sh_4, sC, p_4_0 hp, p_4_4 hp, hu, h0, nm, z, pl, y, pv f y, nI_m1eq (show f < 2 ^ 31 by omega), tb f y, x, rfQ, HB.2.2.1, CP_bad HB, Option.toList]
          rfl
        · simp only [u61_0, u61_1, u61_4, u61_7, u61_8, u61_11, u61_12, u61_15, u61_18, u61_21, u61_22, u61_23, u61_26, u61_29, u61_32, u61_33, u61_34, u61_37, u61_40, u61_41, u61_42, u61_45, u61_46, u61_47, u61_50, u61_53, u61_54, u61_55, u61_56, u61_57, u61_58, u61_59, u61_62, u61_63, u61_64, u61_67, u61_68, u61_71, u61_74, u61_75, u61_76, u61_77, u61_80, u61_83, u61_84, u61_85, u61_86, eq_self, q_nl0, q_nlI, q_nlR, not_false_eq_true, q_nz0, q_nz1, q_zv0, q_zv1, q_tl1, q_tl0, q_wif, q_swc, q_swn, List.cons_append, List.nil_append, if_true, if_false, e10, e01, Bool.false_eq_true, sh_2, sh_4, sC, p_4_0 hp, p_4_4 hp, hu, h0, nm, z, pl, y, pv f y, nI_m1eq (show f < 2 ^ 31 by omega), tb f y, x, HB.2.2.1, CP_bad HB, Option.toList]
          rfl
      · simp only [u61_0, u61_1, u61_4, u61_7, u61_8, u61_11, u61_12, u61_15, u61_18, u61_21, u61_22, u61_23, u61_26, u61_29, u61_32, u61_33, u61_34, u61_37, u61_40, u61_41, u61_42, u61_45, u61_46, u61_47, u61_50, u61_53, u61_54, u61_55, u61_56, u61_57, u61_58, u61_59, u61_62, u61_63, u61_64, u61_67, u61_68, u61_71, u61_74, u61_75, u61_76, u61_77, u61_80, u61_83, u61_84, u61_85, u61_86, eq_self, q_nl0, q_nlI, q_nlR, not_false_eq_true, q_nz0, q_nz1, q_zv0, q_zv1, q_tl1, q_tl0, q_wif, q_swc, q_swn, List.cons_append, List.nil_append, if_true, if_false, e10, e01, Bool.false_eq_true, sh_2, sh_4, sC, p_4_0 hp, p_4_4 hp, hu, h0, nm, z, pl, pI_m1 (show n < 100 by omega), y, rfQ, HB.2.2.1, CP_bad HB, Option.toList]
        rfl
    · simp only [u61_0, u61_1, u61_4, u61_7, u61_8, u61_11, u61_12, u61_15, u61_18, u61_21, u61_22, u61_23, u61_26, u61_29, u61_32, u61_33, u61_34, u61_37, u61_40, u61_41, u61_42, u61_45, u61_46, u61_47, u61_50, u61_53, u61_54, u61_55, u61_56, u61_57, u61_58, u61_59, u61_62, u61_63, u61_64, u61_67, u61_68, u61_71, u61_74, u61_75, u61_76, u61_77, u61_80, u61_83, u61_84, u61_85, u61_86, eq_self, q_nl0, q_nlI, q_nlR, not_false_eq_true, q_nz0, q_nz1, q_zv0, q_zv1, q_tl1, q_tl0, q_wif, q_swc, q_swn, List.cons_append, List.nil_append, if_true, if_false, e10, e01, Bool.false_eq_true, sh_2, sh_4, sC, p_4_0 hp, p_4_4 hp, hu, h0, nm, z, pl, rfQ, HB.2.2.1, CP_bad HB, Option.toList]
      rfl
  | inr s =>
    have kt : TkC h L V s := H.1
    have nm := fun (Q : QT) => c_nameAt (X := X) (d := d) (Q := Q) kt
    by_cases z : isN V L s = true
    · have hw : m_gL h 2 5 = nL (wd V L s) := kt.2.2.2.2.2.1 (isN_1 z)
      have ef : fp (fun i => decide (nL (ν i) = m_gL h 2 5)) n 0 = fp (wP ν (wd V L s)) n 0 := by rw [hw]; exact wP_c hν (wN_40 (isN_1 z))
      rw [ef] at pl
      by_cases y : fp (wP ν (wd V L s)) n 0 < n
      · by_cases x : t.testBit (fp (wP ν (wd V L s)) n 0) = true
        · obtain ⟨g, a1, a2, a3⟩ := c_refP (X := X) (d := d + 4) (k := 3) H (by decide)
          have a2 : CB g C L V (kdO V L s 3, s) := a2
          rw [show cnP V L ν n t (.inr s) = (.inl (kdO V L s 3, s), 0) from (if_pos z).trans ((if_pos y).trans (if_pos x))]
          refine ⟨g, a1, a2, fun Q => ?_⟩
          simp only [u61_0, u61_1, u61_4, u61_7, u61_8, u61_11, u61_12, u61_15, u61_18, u61_21, u61_22, u61_23, u61_26, u61_29, u61_32, u61_33, u61_34, u61_37, u61_40, u61_41, u61_42, u61_45, u61_46, u61_47, u61_50, u61_53, u61_54, u61_55, u61_56, u61_57, u61_58, u61_59, u61_62, u61_63, u61_64, u61_67, u61_68, u61_71, u61_74, u61_75, u61_76, u61_77, u61_80, u61_83, u61_84, u61_85, u61_86, eq_self, q_nl0, q_nlI, q_nlR, not_false_eq_true, q_nz0, q_nz1, q_zv0, q_zv1, q_tl1, q_tl0, q_wif, q_swc, q_swn, List.cons_append, List.nil_append, if_true, if_false, e10, e01, Bool.false_eq_true, sh_2, sh_4, sC, p_4_0 hp, p_4_4 hp, hu, h0, nm, z, pl, y, pv _ y, nI_m1eq (show fp (wP ν (wd V L s)) n 0 < 2 ^ 31 by omega), tb _ y, x, Option.toList]
          refine (a3 _).trans ?_
          simp only [u61_37, u61_50, u61_67, u61_68, u61_71, u61_74, u61_75, u61_76, u61_77, u61_80, u61_83, u61_84, u61_85, u61_86, eq_self, q_nl0, q_nlI, q_nlR, not_false_eq_true, q_nz0, q_nz1, q_zv0, q_zv1, q_tl1, q_tl0, q_wif, q_swc, q_swn, List.cons_append, List.nil_append, if_true, if_false, e10, e01, Bool.false_eq_true, sh_4, a2.2.2.1, CP_bad a2]
          rfl
        · obtain ⟨g, a1, a2, a3⟩ := c_avP (X := X) (d := d) H
          rw [show cnP V L ν n t (.inr s) = (.inr (nx V L s), 2 ^ fp (wP ν (wd V L s)) n 0) from (if_pos z).trans ((if_pos y).trans (if_neg x))]
          refine ⟨g, a1, a2, fun Q => ?_⟩
          simp only [u61_0, u61_1, u61_4, u61_7, u61_8, u61_11, u61_12, u61_15, u61_18, u61_21, u61_22, u61_23, u61_26, u61_29, u61_32, u61_33, u61_34, u61_37, u61_40, u61_41, u61_42, u61_45, u61_46, u61_47, u61_50, u61_53, u61_54, u61_55, u61_56, u61_57, u61_58, u61_59, u61_62, u61_63, u61_64, u61_67, u61_68, u61_71, u61_74, u61_75, u61_76, u61_77, u61_80, u61_83, u61_84, u61_85, u61_86, eq_self, q_nl0, q_nlI, q_nlR, not_false_eq_true, q_nz0, q_nz1, q_zv0, q_zv1, q_tl1, q_tl0, q_wif, q_swc, q_swn, List.cons_append, List.nil_append, if_true, if_false, e10, e01, Bool.false_eq_true, sh_2, sh_4, sC, p_4_0 hp, p_4_4 hp, hu, h0, nm, z, pl, y, pv _ y, nI_m1eq (show fp (wP ν (wd V L s)) n 0 < 2 ^ 31 by omega), tb _ y, x, H.2.2, Option.toList]
          refine (a3 _).trans ?_
          simp only [u61_83, u61_84, u61_85, u61_86, eq_self, q_nl0, q_nlI, q_nlR, not_false_eq_true, q_nz0, q_nz1, q_zv0, q_zv1, q_tl1, q_tl0, q_wif, q_swc, q_swn, List.cons_append, List.nil_append, if_true, if_false, e10, e01, Bool.false_eq_true, nI_sh _ (show fp (wP ν (wd V L s)) n 0 < 8 by omega)]
      · obtain ⟨g, a1, a2, a3⟩ := c_refP (X := X) (d := d + 4) (k := 5) H (by decide)
        have a2 : CB g C L V (kdO V L s 5, s) := a2
        rw [show cnP V L ν n t (.inr s) = (.inl (kdO V L s 5, s), 0) from (if_pos z).trans (if_neg y)]
        refine ⟨g, a1, a2, fun Q => ?_⟩
        simp only [u61_0, u61_1, u61_4, u61_7, u61_8, u61_11, u61_12, u61_15, u61_18, u61_21, u61_22, u61_23, u61_26, u61_29, u61_32, u61_33, u61_34, u61_37, u61_40, u61_41, u61_42, u61_45, u61_46, u61_47, u61_50, u61_53, u61_54, u61_55, u61_56, u61_57, u61_58, u61_59, u61_62, u61_63, u61_64, u61_67, u61_68, u61_71, u61_74, u61_75, u61_76, u61_77, u61_80, u61_83, u61_84, u61_85, u61_86, eq_self, q_nl0, q_nlI, q_nlR, not_false_eq_true, q_nz0, q_nz1, q_zv0, q_zv1, q_tl1, q_tl0, q_wif, q_swc, q_swn, List.cons_append, List.nil_append, if_true, if_false, e10, e01, Bool.false_eq_true, sh_2, sh_4, sC, p_4_0 hp, p_4_4 hp, hu, h0, nm, z, pl, pI_m1 (show n < 100 by omega), y, Option.toList]
        refine (a3 _).trans ?_
        simp only [u61_37, u61_50, u61_67, u61_68, u61_71, u61_74, u61_75, u61_76, u61_77, u61_80, u61_83, u61_84, u61_85, u61_86, eq_self, q_nl0, q_nlI, q_nlR, not_false_eq_true, q_nz0, q_nz1, q_zv0, q_zv1, q_tl1, q_tl0, q_wif, q_swc, q_swn, List.cons_append, List.nil_append, if_true, if_false, e10, e01, Bool.false_eq_true, sh_4, a2.2.2.1, CP_bad a2]
        rfl
    · obtain ⟨g, a1, a2, a3⟩ := c_refP (X := X) (d := d + 4) (k := 2) H (by decide)
      have a2 : CB g C L V (kdO V L s 2, s) := a2
      rw [show cnP V L ν n t (.inr s) = (.inl (kdO V L s 2, s), 0) from if_neg z]
      refine ⟨g, a1, a2, fun Q => ?_⟩
      simp only [u61_0, u61_1, u61_4, u61_7, u61_8, u61_11, u61_12, u61_15, u61_18, u61_21, u61_22, u61_23, u61_26, u61_29, u61_32, u61_33, u61_34, u61_37, u61_40, u61_41, u61_42, u61_45, u61_46, u61_47, u61_50, u61_53, u61_54, u61_55, u61_56, u61_57, u61_58, u61_59, u61_62, u61_63, u61_64, u61_67, u61_68, u61_71, u61_74, u61_75, u61_76, u61_77, u61_80, u61_83, u61_84, u61_85, u61_86, eq_self, q_nl0, q_nlI, q_nlR, not_false_eq_true, q_nz0, q_nz1, q_zv0, q_zv1, q_tl1, q_tl0, q_wif, q_swc, q_swn, List.cons_append, List.nil_append, if_true, if_false, e10, e01, Bool.false_eq_true, sh_2, sh_4, sC, p_4_0 hp, p_4_4 hp, hu, h0, nm, z, pl, Option.toList]
      refine (a3 _).trans ?_
      simp only [u61_37, u61_50, u61_67, u61_68, u61_71, u61_74, u61_75, u61_76, u61_77, u61_80, u61_83, u61_84, u61_85, u61_86, eq_self, q_nl0, q_nlI, q_nlR, not_false_eq_true, q_nz0, q_nz1, q_zv0, q_zv1, q_tl1, q_tl0, q_wif, q_swc, q_swn, List.cons_append, List.nil_append, if_true, if_false, e10, e01, Bool.false_eq_true, sh_4, a2.2.2.1, CP_bad a2]
      rfl
