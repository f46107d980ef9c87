/-! who goes back when -/
def reP (τ : CT) (A : Nat → Int32) (m n : Nat) : Bool := !(aN (aIt τ A n)).testBit m
def reO (τ : CT) (A : Nat → Int32) (m : Nat) : Option Nat := fstN (reP τ A m) 60
theorem reP_f {τ : CT} {A : Nat → Int32} {m n : Nat} (h : reP τ A m n = false) : (aN (aIt τ A n)).testBit m = true := by
  unfold reP at h
  simpa using h
theorem reP_t {τ : CT} {A : Nat → Int32} {m n : Nat} (h : reP τ A m n = true) : (aN (aIt τ A n)).testBit m = false := by
  unfold reP at h
  simpa using h
theorem k_returnsOf {X : XT} {d b f N m : Nat} {g : HT} {τ : CT} {A : Nat → Int32} (K : KQ g b f τ N A) (hm : m < τ 0 1) : ∃ g', Same g g' ∧ ∀ Q : QT, wq X (d + 7) 282 0 [some (.ref 195), some (.int (nI m)), none, none] [] g Q = Q (some (.int (oI (reO τ A m)))) g' := by
  have hk := mq_k K
  have h7 := o_mn hk
  obtain ⟨g1, a1, a2, a3⟩ := k_keepG (X := X) (d := d + 6) K
  have K1 := KQ_same a1 K
  have step : ∀ i h, i < 60 → (aN (aIt τ A i)).testBit m = true → Al g h ∧ Kept h A ∧ KQ h b f τ (N + i) (aIt τ A i) → ∃ h', (Al g h' ∧ Kept h' A ∧ KQ h' b f τ (N + (i + 1)) (aIt τ A (i + 1))) ∧ (fun (Q : QT) => wq X (d + 7) 282 6 [some (.ref 195), some (.int (nI m)), some (.int (nI i)), none] [] h Q) = fun Q => wq X (d + 7) 282 6 [some (.ref 195), some (.int (nI m)), some (.int (nI (i + 1))), none] [] h' Q := by
    intro i h hi hz hh
    obtain ⟨b1, b2, b3⟩ := hh
    obtain ⟨h', c1, c2, c3, _, c5⟩ := k_dayG (X := X) (d := d) b3
    refine ⟨h', ⟨Al_tr b1 c1, fun k hk => (c3 k).trans (b2 k hk), c2⟩, funext fun Q => ?_⟩
    have e1 : (nI i < 60) = True := eq_true (nI_lt (b := 60) (by omega) (by omega))
    have hb := bit01 (mq_n b3) (show m < 8 by omega)
    rw [u282_6]
    simp only [u282_7, u282_9, u282_12, u282_13, u282_16, u282_18, u282_19, u282_20, u282_23, u282_26, u282_27, u282_30, u282_33, eq_self, q_nl0, q_nlI, q_nlR, not_false_eq_true, q_nz0, q_nz1, q_zv0, q_zv1, q_tl1, q_tl0, q_wif, q_swc, q_swn, List.cons_append, List.nil_append, if_true, if_false, e10, e01, Bool.false_eq_true, sh_195, sh_227, e1, p_195_47 (mq_p b3), in14, cl14, mq_o b3, k_has, hb, hz, c5, nI_1]
  unfold reO
  cases e : fstN (reP τ A m) 60 with
  | none =>
    have hz := fst_none 60 e
    obtain ⟨h1, ⟨b1, b2, b3⟩, e1⟩ := q_loopI (fun i (h : HT) (Q : QT) => wq X (d + 7) 282 6 [some (.ref 195), some (.int (nI m)), some (.int (nI i)), none] [] h Q) (fun i h => Al g h ∧ Kept h A ∧ KQ h b f τ (N + i) (aIt τ A i)) 60 (fun i hi h hh => step i h hi (reP_f (hz i (by omega))) hh) g1 ⟨Al_of a1, a2, K1⟩
    obtain ⟨g2, c1, c2⟩ := k_bringG (X := X) (d := d + 6) K b1 b2 b3 (fun k hk2 => it_ge hk (Or.inl hk2) 60)
    refine ⟨g2, c1, fun Q => ?_⟩
    have hb := bit01 (mq_n b3) (show m < 8 by omega)
    simp only [u282_0, u282_1, u282_4, u282_5, eq_self, q_nl0, q_nlI, q_nlR, not_false_eq_true, q_nz0, q_nz1, q_zv0, q_zv1, q_tl1, q_tl0, q_wif, q_swc, q_swn, List.cons_append, List.nil_append, if_true, if_false, e10, e01, Bool.false_eq_true, sh_195, a3]
    refine (congrFun e1 Q).trans ?_
    rw [u282_6]
    simp only [u282_7, u282_9, u282_36, u282_37, u282_40, u282_42, u282_43, u282_44, u282_47, u282_50, u282_51, u282_54, u282_55, u282_56, u282_57, eq_self, q_nl0, q_nlI, q_nlR, not_false_eq_true, q_nz0, q_nz1, q_zv0, q_zv1, q_tl1, q_tl0, q_wif, q_swc, q_swn, List.cons_append, List.nil_append, if_true, if_false, e10, e01, Bool.false_eq_true, sh_195, sh_227, eq_false (show ¬ nI 60 < 60 by decide), p_195_47 (mq_p b3), in14, cl14, mq_o b3, k_has, hb, reP_f (hz 60 (Nat.le_refl _)), c2]
    simp only [u282_60, u282_61, u282_64, u282_65, u282_68, u282_69, eq_self, q_nl0, q_nlI, q_nlR, not_false_eq_true, q_nz0, q_nz1, q_zv0, q_zv1, q_tl1, q_tl0, q_wif, q_swc, q_swn, List.cons_append, List.nil_append, if_true, if_false, e10, e01, Bool.false_eq_true, oI]
  | some n =>
    have hz := fst_some 60 e
    obtain ⟨h1, ⟨b1, b2, b3⟩, e1⟩ := q_loopI (fun i (h : HT) (Q : QT) => wq X (d + 7) 282 6 [some (.ref 195), some (.int (nI m)), some (.int (nI i)), none] [] h Q) (fun i h => Al g h ∧ Kept h A ∧ KQ h b f τ (N + i) (aIt τ A i)) n (fun i hi h hh => step i h (by omega) (reP_f (hz.2.2 i hi)) hh) g1 ⟨Al_of a1, a2, K1⟩
    obtain ⟨g2, c1, c2⟩ := k_bringG (X := X) (d := d + 6) K b1 b2 b3 (fun k hk2 => it_ge hk (Or.inl hk2) n)
    refine ⟨g2, c1, fun Q => ?_⟩
    have hb := bit01 (mq_n b3) (show m < 8 by omega)
    simp only [u282_0, u282_1, u282_4, u282_5, eq_self, q_nl0, q_nlI, q_nlR, not_false_eq_true, q_nz0, q_nz1, q_zv0, q_zv1, q_tl1, q_tl0, q_wif, q_swc, q_swn, List.cons_append, List.nil_append, if_true, if_false, e10, e01, Bool.false_eq_true, sh_195, a3]
    refine (congrFun e1 Q).trans ?_
    rw [u282_6]
    simp only [u282_7, u282_9, u282_12, u282_13, u282_16, u282_18, u282_19, u282_20, u282_23, u282_36, u282_37, u282_40, u282_42, u282_43, u282_44, u282_47, u282_50, u282_51, u282_54, u282_55, u282_56, u282_57, eq_self, q_nl0, q_nlI, q_nlR, not_false_eq_true, q_nz0, q_nz1, q_zv0, q_zv1, q_tl1, q_tl0, q_wif, q_swc, q_swn, List.cons_append, List.nil_append, if_true, if_false, e10, e01, Bool.false_eq_true, sh_195, sh_227, p_195_47 (mq_p b3), in14, cl14, mq_o b3, k_has, hb, reP_t hz.2.1, c2, ite_self]
    simp only [u282_60, u282_61, u282_64, u282_65, u282_68, u282_69, eq_self, q_nl0, q_nlI, q_nlR, not_false_eq_true, q_nz0, q_nz1, q_zv0, q_zv1, q_tl1, q_tl0, q_wif, q_swc, q_swn, List.cons_append, List.nil_append, if_true, if_false, e10, e01, Bool.false_eq_true, oI]
theorem b_returns {X : XT} {d T b f N : Nat} {h : HT} {τ : CT} {A : Nat → Int32} (H : CQ h T τ N A) (K : KQ h b f τ N A) (x : Int32) : Pr X (d + 10) 160 [some (.ref 1), some (.int x), none] 281 [some (.ref 195), some (.int x)] h := by
  have hp := cq_p H
  have hk := cq_k H
  have h7 := o_mn hk
  have hn := cq_n H
  have s38 : (m_sh KS 38).1 = 7 := by rw [sh_38]
  rcases ix_cases x (k := τ 0 1) (by omega) with ⟨m, hm, rfl, ix⟩ | ix
  · have hb := bit01 hn (show m < 8 by omega)
    by_cases z : (aN A).testBit m = true
    · refine Pr_of (oI (reO τ A m)) ?_ ?_
      · obtain ⟨g, a1, a2, a3⟩ := c_look (X := X) (d := d + 4) H (Nat.le_refl 60)
        have C := CQ_same a1 H
        have a3' : ∀ Q : QT, wq X (d + 9) 104 0 [some (.ref 171), some (.ref T), some (.ref 38), some (.int 60), none, none] [] h Q = Q none g := a3
        have st : ∀ i (Q : QT), i ≤ 60 → wq X (d + 10) 160 40 [some (.ref 1), some (.int (nI m)), some (.int (nI i))] [] g Q = if (aN (aIt τ A i)).testBit m = true then wq X (d + 10) 160 40 [some (.ref 1), some (.int (nI m)), some (.int (nI (i + 1)))] [] g Q else Q (some (.int (nI i))) g := by
          intro i Q hi
          have e2 : (60 < nI i) = False := eq_false (nI_nlt (a := 60) (by omega) (by omega))
          have hb2 := bit01 (aN_lt hk (it_ok hk (cq_a H) i)) (show m < 8 by omega)
          rw [u160_40]
          simp only [u160_41, u160_43, u160_46, u160_47, u160_50, u160_51, u160_54, u160_55, u160_56, u160_57, u160_58, u160_61, u160_62, u160_63, u160_66, eq_self, q_nl0, q_nlI, q_nlR, not_false_eq_true, q_nz0, q_nz1, q_zv0, q_zv1, q_tl1, q_tl0, q_wif, q_swc, q_swn, List.cons_append, List.nil_append, if_true, if_false, e10, e01, Bool.false_eq_true, sh_1, sh_171, e2, p_1_8 (cq_p C), c_outB (cq_p C) a2 (show i ≤ 60 by omega) (Nat.le_refl _), hb2, if_b0, nI_1]
          by_cases y : (aN (aIt τ A i)).testBit m = true
          · simp only [y, not_true_eq_false, if_false, if_true]
          · simp only [y, not_false_eq_true, if_false, if_true, Bool.false_eq_true]
        refine ⟨g, a1, fun Q => ?_⟩
        simp only [u160_0, u160_1, u160_2, u160_5, u160_8, u160_9, u160_12, u160_13, u160_16, u160_19, u160_20, u160_21, u160_22, u160_25, u160_26, u160_29, u160_30, u160_33, u160_35, eq_self, q_nl0, q_nlI, q_nlR, not_false_eq_true, q_nz0, q_nz1, q_zv0, q_zv1, q_tl1, q_tl0, q_wif, q_swc, q_swn, List.cons_append, List.nil_append, if_true, if_false, e10, e01, Bool.false_eq_true, sh_1, sh_38, sh_171, c_isIx (cq_t H) (cq_T H), ix, p_1_3 hp, c_isOut s38, cq_o H, hb, z, p_1_8 hp, cq_T H, a3']
        simp only [u160_38, u160_39, eq_self, q_nl0, q_nlI, q_nlR, not_false_eq_true, q_nz0, q_nz1, q_zv0, q_zv1, q_tl1, q_tl0, q_wif, q_swc, q_swn, List.cons_append, List.nil_append, if_true, if_false, e10, e01, Bool.false_eq_true]
        unfold reO
        cases e : fstN (reP τ A m) 60 with
        | none =>
          have hz := fst_none 60 e
          refine (q_loopFrom (fun i => wq X (d + 9 + 1) 160 40 [some (.ref 1), some (.int (nI m)), some (.int (nI i))] [] g Q) 1 61 (by omega) (fun i h1 hi => ?_)).trans ?_
          · show wq X (d + 10) 160 40 _ _ _ _ = _
            rw [st i Q (by omega), if_pos (reP_f (hz i (by omega)))]
          · rw [u160_40]
            simp only [u160_41, u160_43, u160_69, u160_70, eq_self, q_nl0, q_nlI, q_nlR, not_false_eq_true, q_nz0, q_nz1, q_zv0, q_zv1, q_tl1, q_tl0, q_wif, q_swc, q_swn, List.cons_append, List.nil_append, if_true, if_false, e10, e01, Bool.false_eq_true, eq_true (show 60 < nI 61 by decide), oI]
        | some n =>
          have hz := fst_some 60 e
          have hn1 : 1 ≤ n := by
            rcases Nat.eq_zero_or_pos n with q | q
            · subst q
              have := reP_t hz.2.1
              rw [show aIt τ A 0 = A from rfl, z] at this
              cases this
            · exact q
          refine (q_loopFrom (fun i => wq X (d + 9 + 1) 160 40 [some (.ref 1), some (.int (nI m)), some (.int (nI i))] [] g Q) 1 n hn1 (fun i h1 hi => ?_)).trans ?_
          · show wq X (d + 10) 160 40 _ _ _ _ = _
            rw [st i Q (by omega), if_pos (reP_f (hz.2.2 i hi))]
          · show wq X (d + 10) 160 40 _ _ _ _ = _
            rw [st n Q hz.1, if_neg (by rw [reP_t hz.2.1]; decide)]
            rfl
      · intro g a
        have K' := KQ_same a K
        obtain ⟨g', b1, b2⟩ := k_returnsOf (X := X) (d := d + 2) K' hm
        refine ⟨g', b1, fun Q => ?_⟩
        simp only [u281_0, u281_1, u281_2, u281_5, u281_8, u281_9, u281_12, u281_14, u281_15, u281_16, u281_19, u281_22, u281_23, u281_24, u281_27, u281_31, eq_self, q_nl0, q_nlI, q_nlR, not_false_eq_true, q_nz0, q_nz1, q_zv0, q_zv1, q_tl1, q_tl0, q_wif, q_swc, q_swn, List.cons_append, List.nil_append, if_true, if_false, e10, e01, Bool.false_eq_true, sh_195, sh_227, k_isMan (mq_t K'), ix, p_195_47 (mq_p K'), in14, cl14, mq_o K', k_has, hb, z, b2]
    · refine Pr_pure (-1) (fun Q => ?_) (fun Q => ?_)
      · simp only [u160_0, u160_1, u160_2, u160_5, u160_8, u160_9, u160_12, u160_13, u160_16, u160_19, u160_20, eq_self, q_nl0, q_nlI, q_nlR, not_false_eq_true, q_nz0, q_nz1, q_zv0, q_zv1, q_tl1, q_tl0, q_wif, q_swc, q_swn, List.cons_append, List.nil_append, if_true, if_false, e10, e01, Bool.false_eq_true, sh_1, sh_38, c_isIx (cq_t H) (cq_T H), ix, p_1_3 hp, c_isOut s38, cq_o H, hb, z]
      · simp only [u281_0, u281_1, u281_2, u281_5, u281_8, u281_9, u281_12, u281_14, u281_15, u281_16, u281_19, u281_22, u281_23, u281_24, u281_27, u281_30, u281_31, eq_self, q_nl0, q_nlI, q_nlR, not_false_eq_true, q_nz0, q_nz1, q_zv0, q_zv1, q_tl1, q_tl0, q_wif, q_swc, q_swn, List.cons_append, List.nil_append, if_true, if_false, e10, e01, Bool.false_eq_true, sh_195, sh_227, k_isMan (mq_t K), ix, p_195_47 hp, in14, cl14, mq_o K, k_has, hb, z]
  · refine Pr_pure (-1) (fun Q => ?_) (fun Q => ?_)
    · simp only [u160_0, u160_1, u160_2, u160_5, u160_8, u160_9, u160_12, u160_13, u160_16, u160_19, u160_20, eq_self, q_nl0, q_nlI, q_nlR, not_false_eq_true, q_nz0, q_nz1, q_zv0, q_zv1, q_tl1, q_tl0, q_wif, q_swc, q_swn, List.cons_append, List.nil_append, if_true, if_false, e10, e01, Bool.false_eq_true, sh_1, c_isIx (cq_t H) (cq_T H), ix]
    · simp only [u281_0, u281_1, u281_2, u281_5, u281_8, u281_9, u281_12, u281_14, u281_15, u281_16, u281_19, u281_22, u281_23, u281_24, u281_27, u281_30, u281_31, eq_self, q_nl0, q_nlI, q_nlR, not_false_eq_true, q_nz0, q_nz1, q_zv0, q_zv1, q_tl1, q_tl0, q_wif, q_swc, q_swn, List.cons_append, List.nil_append, if_true, if_false, e10, e01, Bool.false_eq_true, sh_195, k_isMan (mq_t K), ix]
/-! the weakest -/
def wkM (i v : Nat) : Option (Nat × Nat) → Option (Nat × Nat)
  | none => some (i, v)
  | some q => if v < q.2 then some (i, v) else some q
def wkS (τ : CT) (A : Nat → Int32) (i : Nat) (o : Option (Nat × Nat)) : Option (Nat × Nat) := if (aN A).testBit i = true then (match reO τ A i with
  | none => o
  | some v => wkM i v o) else o
def wkB : Option (Nat × Nat) → Int32
  | none => -1
  | some q => nI q.1
def wkL : Option (Nat × Nat) → Int32
  | none => 0
  | some q => nI q.2
theorem wk_none {τ : CT} {A : Nat → Int32} : ∀ n, fL (wkS τ A) none n = none → ∀ m, m < n → (aN A).testBit m = true → reO τ A m = none
  | 0, _, m, hm, _ => absurd hm (Nat.not_lt_zero m)
  | n + 1, h, m, hm, hb => by
    rw [fL_s] at h
    generalize e : fL (wkS τ A) none n = o at h
    have ho : o = none := by
      cases o with
      | none => rfl
      | some q =>
        unfold wkS at h
        split at h
        · split at h
          · exact h
          · unfold wkM at h
            split at h
            · cases h
            · split at h <;> cases h
        · exact h
    subst ho
    by_cases z : m = n
    · subst z
      unfold wkS at h
      rw [if_pos hb] at h
      split at h
      · next w => exact w
      · cases h
    · exact wk_none n e m (by omega) hb
theorem wk_some {τ : CT} {A : Nat → Int32} : ∀ n q v, fL (wkS τ A) none n = some (q, v) → (q < n ∧ (aN A).testBit q = true ∧ reO τ A q = some v) ∧ ∀ m, m < n → (aN A).testBit m = true → ∀ w, reO τ A m = some w → v < w ∨ v = w ∧ q ≤ m
  | 0, q, v, h => by cases h
  | n + 1, q, v, h => by
    rw [fL_s] at h
    by_cases z : (aN A).testBit n = true
    · cases r : reO τ A n with
      | none =>
        have e : wkS τ A n (fL (wkS τ A) none n) = fL (wkS τ A) none n := by
          unfold wkS
          rw [if_pos z, r]
        rw [e] at h
        have ih := wk_some n q v h
        refine ⟨⟨by omega, ih.1.2⟩, fun m hm hb w hw => ?_⟩
        by_cases y : m = n
        · subst y
          rw [r] at hw
          cases hw
        · exact ih.2 m (by omega) hb w hw
      | some u =>
        have e : wkS τ A n (fL (wkS τ A) none n) = wkM n u (fL (wkS τ A) none n) := by
          unfold wkS
          rw [if_pos z, r]
        rw [e] at h
        cases o : fL (wkS τ A) none n with
        | none =>
          rw [o] at h
          unfold wkM at h
          cases h
          refine ⟨⟨by omega, z, r⟩, fun m hm hb w hw => ?_⟩
          by_cases y : m = n
          · subst y
            rw [r] at hw
            cases hw
            exact Or.inr ⟨rfl, Nat.le_refl _⟩
          · rw [wk_none n o m (by omega) hb] at hw
            cases hw
        | some p =>
          obtain ⟨p1, p2⟩ := p
          have ih := wk_some n p1 p2 o
          rw [o] at h
          unfold wkM at h
          dsimp only at h
          by_cases x : u < p2
          · rw [if_pos x] at h
            cases h
            refine ⟨⟨by omega, z, r⟩, fun m hm hb w hw => ?_⟩
            by_cases y : m = n
            · subst y
              rw [r] at hw
              cases hw
              exact Or.inr ⟨rfl, Nat.le_refl _⟩
            · rcases ih.2 m (by omega) hb w hw with t | t
              · exact Or.inl (by omega)
              · exact Or.inl (by omega)
          · rw [if_neg x] at h
            cases h
            refine ⟨⟨by omega, ih.1.2⟩, fun m hm hb w hw => ?_⟩
            by_cases y : m = n
            · subst y
              rw [r] at hw
              cases hw
              rcases Nat.lt_or_ge v u with t | t
              · exact Or.inl t
              · exact Or.inr ⟨by omega, by omega⟩
            · exact ih.2 m (by omega) hb w hw
    · have e : wkS τ A n (fL (wkS τ A) none n) = fL (wkS τ A) none n := if_neg z
      rw [e] at h
      have ih := wk_some n q v h
      refine ⟨⟨by omega, ih.1.2⟩, fun m hm hb w hw => ?_⟩
      by_cases y : m = n
      · subst y
        exact absurd hb z
      · exact ih.2 m (by omega) hb w hw
theorem b_weakest {X : XT} {d T b f N : Nat} {h : HT} {τ : CT} {A : Nat → Int32} (H : CQ h T τ N A) (K : KQ h b f τ N A) : Pr X (d + 10) 161 [some (.ref 1), none, none, none] 283 [some (.ref 195), none, none, none, none] h := by
  have hp := cq_p H
  have hk := cq_k H
  have h7 := o_mn hk
  have hn := cq_n H
  refine Pr_of (wkB (fL (wkS τ A) none (τ 0 1))) ?_ ?_
  · obtain ⟨g, a1, a2, a3⟩ := c_look (X := X) (d := d + 4) H (Nat.le_refl 60)
    have C := CQ_same a1 H
    have a3' : ∀ Q : QT, wq X (d + 9) 104 0 [some (.ref 171), some (.ref T), some (.ref 38), some (.int 60), none, none] [] h Q = Q none g := a3
    -- what is back on day i
    have bk : ∀ i m, m < 7 → (aN A &&& (127 ^^^ aN (aIt τ A i))).testBit m = ((aN A).testBit m && !(aN (aIt τ A i)).testBit m) := fun i m hm => and_bit hm
    have inn : ∀ i m (Q : QT) (l1 : Int32), m ≤ 7 → (∀ j, j < m → (aN A &&& (127 ^^^ aN (aIt τ A i))).testBit j = false) → wq X (d + 10) 161 46 [some (.ref 1), some (.int l1), some (.int (nI (aN A &&& (127 ^^^ aN (aIt τ A i))))), some (.int (nI 0))] [] g Q = wq X (d + 10) 161 46 [some (.ref 1), some (.int l1), some (.int (nI (aN A &&& (127 ^^^ aN (aIt τ A i))))), some (.int (nI m))] [] g Q := by
      intro i m Q l1 hm hz
      refine q_loop (fun j => wq X (d + 10) 161 46 [some (.ref 1), some (.int l1), some (.int (nI (aN A &&& (127 ^^^ aN (aIt τ A i))))), some (.int (nI j))] [] g Q) m (fun j hj => ?_)
      have e2 : (nI j < 7) = True := eq_true (nI_lt (b := 7) (by omega) (by omega))
      have hb := bit01 (and_128 (b := 127 ^^^ aN (aIt τ A i)) hn) (show j < 8 by omega)
      show wq X (d + 10) 161 46 _ _ _ _ = _
      rw [u161_46]
      simp only [u161_47, u161_49, u161_52, u161_53, u161_54, u161_55, u161_56, u161_57, u161_58, u161_61, u161_62, u161_63, u161_66, eq_self, q_nl0, q_nlI, q_nlR, not_false_eq_true, q_nz0, q_nz1, q_zv0, q_zv1, q_tl1, q_tl0, q_wif, q_swc, q_swn, List.cons_append, List.nil_append, if_true, if_false, e10, e01, Bool.false_eq_true, e2, hb, hz j hj, nI_1]
    have out : ∀ i (Q : QT) (l2 l3 : Option Value), 1 ≤ i → i ≤ 60 → wq X (d + 10) 161 19 [some (.ref 1), some (.int (nI i)), l2, l3] [] g Q = wq X (d + 10) 161 46 [some (.ref 1), some (.int (nI i)), some (.int (nI (aN A &&& (127 ^^^ aN (aIt τ A i))))), some (.int (nI 0))] [] g Q := by
      intro i Q l2 l3 h1 hi
      have e2 : (60 < nI i) = False := eq_false (nI_nlt (a := 60) (by omega) (by omega))
      rw [u161_19]
      simp only [u161_20, u161_22, u161_25, u161_26, u161_29, u161_32, u161_33, u161_36, u161_37, u161_40, u161_41, u161_42, u161_43, u161_44, u161_45, eq_self, q_nl0, q_nlI, q_nlR, not_false_eq_true, q_nz0, q_nz1, q_zv0, q_zv1, q_tl1, q_tl0, q_wif, q_swc, q_swn, List.cons_append, List.nil_append, if_true, if_false, e10, e01, Bool.false_eq_true, sh_1, sh_38, sh_171, e2, p_1_3 (cq_p C), cq_o C, p_1_8 (cq_p C), c_outB (cq_p C) a2 (show i ≤ 60 by omega) (Nat.le_refl _), nI_not _ hn _ (aN_lt hk (it_ok hk (cq_a H) i))]
      rfl
    have day : ∀ i (Q : QT) (l : Option Value × Option Value), 1 ≤ i → i ≤ 60 → (∀ j, j < 7 → (aN A &&& (127 ^^^ aN (aIt τ A i))).testBit j = false) → wq X (d + 10) 161 19 [some (.ref 1), some (.int (nI i)), l.1, l.2] [] g Q = wq X (d + 10) 161 19 [some (.ref 1), some (.int (nI (i + 1))), some (.int (nI (aN A &&& (127 ^^^ aN (aIt τ A i))))), some (.int (nI 7))] [] g Q := by
      intro i Q l h1 hi hz
      rw [out i Q l.1 l.2 h1 hi, inn i 7 Q (nI i) (Nat.le_refl _) hz, u161_46]
      simp only [u161_47, u161_49, u161_69, u161_72, eq_self, q_nl0, q_nlI, q_nlR, not_false_eq_true, q_nz0, q_nz1, q_zv0, q_zv1, q_tl1, q_tl0, q_wif, q_swc, q_swn, List.cons_append, List.nil_append, if_true, if_false, e10, e01, Bool.false_eq_true, eq_false (show ¬ nI 7 < 7 by decide), nI_1]
    refine ⟨g, a1, fun Q => ?_⟩
    simp only [u161_0, u161_1, u161_4, u161_5, u161_8, u161_9, u161_12, u161_14, eq_self, q_nl0, q_nlI, q_nlR, not_false_eq_true, q_nz0, q_nz1, q_zv0, q_zv1, q_tl1, q_tl0, q_wif, q_swc, q_swn, List.cons_append, List.nil_append, if_true, if_false, e10, e01, Bool.false_eq_true, sh_1, sh_171, p_1_8 hp, cq_T H, p_1_3 hp, a3']
    simp only [u161_17, u161_18, eq_self, q_nl0, q_nlI, q_nlR, not_false_eq_true, q_nz0, q_nz1, q_zv0, q_zv1, q_tl1, q_tl0, q_wif, q_swc, q_swn, List.cons_append, List.nil_append, if_true, if_false, e10, e01, Bool.false_eq_true]
    have lp : ∀ n, 1 ≤ n → n ≤ 61 → (∀ i, 1 ≤ i → i < n → ∀ j, j < 7 → (aN A &&& (127 ^^^ aN (aIt τ A i))).testBit j = false) → ∃ l : Option Value × Option Value, wq X (d + 10) 161 19 [some (.ref 1), some (.int 1), none, none] [] g Q = wq X (d + 10) 161 19 [some (.ref 1), some (.int (nI n)), l.1, l.2] [] g Q := by
      intro n h1 h2 hz
      induction n with
      | zero => omega
      | succ n ih =>
        by_cases z : n = 0
        · subst z
          exact ⟨(none, none), rfl⟩
        · obtain ⟨l, e⟩ := ih (by omega) (by omega) (fun i a b => hz i a (by omega))
          exact ⟨(_, _), e.trans (day n Q l (by omega) (by omega) (hz n (by omega) (by omega)))⟩
    cases e : fL (wkS τ A) none (τ 0 1) with
    | none =>
      have hz := wk_none _ e
      obtain ⟨l, e1⟩ := lp 61 (by omega) (by omega) (fun i h1 hi j hj => by
        rw [bk i j hj]
        by_cases z : (aN A).testBit j = true
        · have hm := bit_lt (cq_a H).1.2 z
          rw [reP_f (fst_none 60 (hz j hm z) i (by omega))]
          simp
        · simp only [z, Bool.false_and])
      refine e1.trans ?_
      rw [u161_19]
      simp only [u161_20, u161_22, u161_75, u161_76, eq_self, q_nl0, q_nlI, q_nlR, not_false_eq_true, q_nz0, q_nz1, q_zv0, q_zv1, q_tl1, q_tl0, q_wif, q_swc, q_swn, List.cons_append, List.nil_append, if_true, if_false, e10, e01, Bool.false_eq_true, eq_true (show 60 < nI 61 by decide), wkB]
    | some p =>
      obtain ⟨q, v⟩ := p
      obtain ⟨⟨hq, hqb, hqr⟩, hmin⟩ := wk_some _ q v e
      have hf := fst_some 60 hqr
      have hv1 : 1 ≤ v := by
        rcases Nat.eq_zero_or_pos v with y | y
        · subst y
          have := reP_t hf.2.1
          rw [show aIt τ A 0 = A from rfl, hqb] at this
          cases this
        · exact y
      have hle : ∀ m i, (aN A).testBit m = true → (aN (aIt τ A i)).testBit m = false → i ≤ 60 → v < i ∨ v = i ∧ (i = v → True) ∧ q ≤ m ∨ v ≤ i ∧ v ≠ i := by
        intro m i hb hc hi
        have hm := bit_lt (cq_a H).1.2 hb
        cases r : reO τ A m with
        | none =>
          have := reP_f (fst_none 60 r i hi)
          rw [hc] at this
          cases this
        | some w =>
          have hw := fst_some 60 r
          have hwi : w ≤ i := by
            rcases Nat.lt_or_ge i w with y | y
            · have := reP_f (hw.2.2 i y)
              rw [hc] at this
              cases this
            · exact y
          rcases hmin m hm hb w r with t | t
          · exact Or.inl (by omega)
          · by_cases y : v = i
            · exact Or.inr (Or.inl ⟨y, fun _ => trivial, t.2⟩)
            · exact Or.inr (Or.inr ⟨by omega, y⟩)
      obtain ⟨l, e1⟩ := lp v hv1 (by omega) (fun i h1 hi j hj => by
        rw [bk i j hj]
        by_cases z : (aN A).testBit j = true
        · by_cases y : (aN (aIt τ A i)).testBit j = true
          · rw [y]
            simp
          · have := hle j i z (by simpa using y) (by omega)
            omega
        · simp only [z, Bool.false_and])
      refine e1.trans ((out v Q l.1 l.2 hv1 hf.1).trans ?_)
      refine (inn v q Q (nI v) (by omega) (fun j hj => ?_)).trans ?_
      · rw [bk v j (by omega)]
        by_cases z : (aN A).testBit j = true
        · by_cases y : (aN (aIt τ A v)).testBit j = true
          · rw [y]
            simp
          · have := hle j v z (by simpa using y) hf.1
            omega
        · simp only [z, Bool.false_and]
      · have e2 : (nI q < 7) = True := eq_true (nI_lt (b := 7) (by omega) (by omega))
        have hb := bit01 (and_128 (b := 127 ^^^ aN (aIt τ A v)) hn) (show q < 8 by omega)
        have hz : (aN A &&& (127 ^^^ aN (aIt τ A v))).testBit q = true := by
          rw [bk v q (by omega), hqb, reP_t hf.2.1]
          rfl
        rw [u161_46]
        simp only [u161_47, u161_49, u161_52, u161_53, u161_54, u161_55, u161_56, u161_57, u161_58, u161_61, u161_62, eq_self, q_nl0, q_nlI, q_nlR, not_false_eq_true, q_nz0, q_nz1, q_zv0, q_zv1, q_tl1, q_tl0, q_wif, q_swc, q_swn, List.cons_append, List.nil_append, if_true, if_false, e10, e01, Bool.false_eq_true, e2, hb, hz, wkB]
  · intro g a
    have K0 := KQ_same a K
    obtain ⟨g', b1, e⟩ : ∃ g', Same g g' ∧ ∃ l4, (fun Q : QT => wq X (d + 10) 283 6 [some (.ref 195), some (.int (-1)), some (.int 0), some (.int 0), none] [] g Q) = fun Q => wq X (d + 10) 283 6 [some (.ref 195), some (.int (wkB (fL (wkS τ A) none (τ 0 1)))), some (.int (wkL (fL (wkS τ A) none (τ 0 1)))), some (.int (nI (τ 0 1))), l4] [] g' Q := by
      obtain ⟨p, i1, e⟩ := q_loopI (fun i (p : HT × Option Value) (Q : QT) => wq X (d + 10) 283 6 [some (.ref 195), some (.int (wkB (fL (wkS τ A) none i))), some (.int (wkL (fL (wkS τ A) none i))), some (.int (nI i)), p.2] [] p.1 Q) (fun _ p => Same g p.1) (τ 0 1) (by
        intro i hi p hs
        have K' := KQ_same hs K0
        have e1 : (nI i < nI (τ 0 1)) = True := eq_true (nI_lt hi (by omega))
        have hb := bit01 hn (show i < 8 by omega)
        by_cases z : (aN A).testBit i = true
        · obtain ⟨g2, c1, c2⟩ := k_returnsOf (X := X) (d := d + 2) K' hi
          have hs2 := Same_tr hs c1
          refine ⟨(g2, some (.int (oI (reO τ A i)))), hs2, funext fun Q => ?_⟩
          have es : wkS τ A i (fL (wkS τ A) none i) = match reO τ A i with
            | none => fL (wkS τ A) none i
            | some v => wkM i v (fL (wkS τ A) none i) := if_pos z
          have hq : ∀ q, fL (wkS τ A) none i = some q → q.1 < 2 ^ 31 ∧ q.2 < 2 ^ 31 := fun q e => by
            have w := wk_some i q.1 q.2 e
            have w2 := (fst_some 60 w.1.2.2).1
            omega
          rw [fL_s, es]
          generalize fL (wkS τ A) none i = o at hq ⊢
          cases r : reO τ A i with
          | none =>
            rw [r] at c2
            rw [u283_6]
            simp only [u283_7, u283_8, u283_11, u283_14, u283_15, u283_18, u283_20, u283_21, u283_22, u283_25, u283_28, u283_29, u283_30, u283_33, u283_36, u283_37, u283_39, u283_41, u283_44, u283_45, u283_48, u283_50, u283_51, u283_54, u283_57, u283_58, u283_59, u283_61, u283_62, u283_65, eq_self, q_nl0, q_nlI, q_nlR, not_false_eq_true, q_nz0, q_nz1, q_zv0, q_zv1, q_tl1, q_tl0, q_wif, q_swc, q_swn, List.cons_append, List.nil_append, if_true, if_false, e10, e01, Bool.false_eq_true, sh_195, sh_227, k_many (mq_t K'), e1, p_195_47 (mq_p K'), in14, cl14, mq_o K', k_has, hb, z, c2, oI, m1_lt0, nI_1]
          | some v =>
            have hv := (fst_some 60 r).1
            rw [r] at c2
            rw [u283_6]
            cases o with
            | none =>
              simp only [u283_7, u283_8, u283_11, u283_14, u283_15, u283_18, u283_20, u283_21, u283_22, u283_25, u283_28, u283_29, u283_30, u283_33, u283_36, u283_37, u283_39, u283_41, u283_44, u283_45, u283_48, u283_50, u283_51, u283_54, u283_57, u283_58, u283_59, u283_61, u283_62, u283_65, eq_self, q_nl0, q_nlI, q_nlR, not_false_eq_true, q_nz0, q_nz1, q_zv0, q_zv1, q_tl1, q_tl0, q_wif, q_swc, q_swn, List.cons_append, List.nil_append, if_true, if_false, e10, e01, Bool.false_eq_true, sh_195, sh_227, k_many (mq_t K'), e1, p_195_47 (mq_p K'), in14, cl14, mq_o K', k_has, hb, z, c2, oI, oI_lt0 (show v < 2 ^ 31 by omega), wkB, wkL, m1_lt0, wkM, nI_1]
            | some q =>
              have hq2 := hq q rfl
              simp only [u283_7, u283_8, u283_11, u283_14, u283_15, u283_18, u283_20, u283_21, u283_22, u283_25, u283_28, u283_29, u283_30, u283_33, u283_36, u283_37, u283_39, u283_41, u283_44, u283_45, u283_48, u283_50, u283_51, u283_54, u283_57, u283_58, u283_59, u283_61, u283_62, u283_65, eq_self, q_nl0, q_nlI, q_nlR, not_false_eq_true, q_nz0, q_nz1, q_zv0, q_zv1, q_tl1, q_tl0, q_wif, q_swc, q_swn, List.cons_append, List.nil_append, if_true, if_false, e10, e01, Bool.false_eq_true, sh_195, sh_227, k_many (mq_t K'), e1, p_195_47 (mq_p K'), in14, cl14, mq_o K', k_has, hb, z, c2, oI, oI_lt0 (show v < 2 ^ 31 by omega), wkB, wkL, oI_lt0 hq2.1, nI_ltB (show v < 2 ^ 31 by omega) hq2.2, wkM, nI_1]
              by_cases y : v < q.2
              · simp only [y, if_true]
              · simp only [y, if_false]
        · refine ⟨(p.1, some (.int (-1))), hs, funext fun Q => ?_⟩
          have es : wkS τ A i (fL (wkS τ A) none i) = fL (wkS τ A) none i := if_neg z
          rw [fL_s, es, u283_6]
          simp only [u283_7, u283_8, u283_11, u283_14, u283_15, u283_18, u283_20, u283_21, u283_22, u283_25, u283_28, u283_29, u283_30, u283_33, u283_36, u283_37, u283_39, u283_41, u283_44, u283_45, u283_48, u283_50, u283_51, u283_54, u283_57, u283_58, u283_59, u283_61, u283_62, u283_65, eq_self, q_nl0, q_nlI, q_nlR, not_false_eq_true, q_nz0, q_nz1, q_zv0, q_zv1, q_tl1, q_tl0, q_wif, q_swc, q_swn, List.cons_append, List.nil_append, if_true, if_false, e10, e01, Bool.false_eq_true, sh_195, sh_227, k_many (mq_t K'), e1, p_195_47 (mq_p K'), in14, cl14, mq_o K', k_has, hb, z, m1_lt0, nI_1]) (g, none) Same_rf
      exact ⟨p.1, i1, p.2, e⟩
    obtain ⟨l4, e⟩ := e
    have K' := KQ_same b1 K0
    refine ⟨g', b1, fun Q => ?_⟩
    simp only [u283_0, u283_1, u283_2, u283_3, u283_4, u283_5, eq_self, q_nl0, q_nlI, q_nlR, not_false_eq_true, q_nz0, q_nz1, q_zv0, q_zv1, q_tl1, q_tl0, q_wif, q_swc, q_swn, List.cons_append, List.nil_append, if_true, if_false, e10, e01, Bool.false_eq_true]
    refine (congrFun e Q).trans ?_
    rw [u283_6]
    simp only [u283_7, u283_8, u283_11, u283_68, u283_69, eq_self, q_nl0, q_nlI, q_nlR, not_false_eq_true, q_nz0, q_nz1, q_zv0, q_zv1, q_tl1, q_tl0, q_wif, q_swc, q_swn, List.cons_append, List.nil_append, if_true, if_false, e10, e01, Bool.false_eq_true, sh_195, k_many (mq_t K'), eq_false (nI_nlt (Nat.le_refl (τ 0 1)) (by omega))]
