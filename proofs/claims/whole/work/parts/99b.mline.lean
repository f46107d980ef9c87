/-! A LINE, as the model reads it -/
theorem KD_of {h g : HT} {R : Nat} {τ : CT} (eI : ∀ c k, c = 195 ∧ (k = 41 ∨ k = 42) ∨ 198 ≤ c ∧ c ≤ 218 ∨ c = 222 ∨ c = 223 → m_gI g c k = m_gI h c k) (eL : ∀ c k, 219 ≤ c ∧ c ≤ 221 → m_gL g c k = m_gL h c k) (D : KD h R τ) : KD g R τ := by
  refine ⟨⟨D.1.1, (eI _ _ (by omega)).trans D.1.2⟩, ⟨?_, ?_, ?_, ?_, ?_, ?_, ?_⟩, ⟨?_, ?_, ?_, ?_, ?_, ?_, ?_, ?_⟩, ⟨?_, ?_, ?_, ?_⟩, ⟨?_, ?_, ?_⟩, ?_, ?_, ?_⟩
  · exact (eI _ _ (by omega)).trans D.2.1.1
  · exact (eI _ _ (by omega)).trans D.2.1.2.1
  · exact (eI _ _ (by omega)).trans D.2.1.2.2.1
  · exact (eI _ _ (by omega)).trans D.2.1.2.2.2.1
  · exact (eI _ _ (by omega)).trans D.2.1.2.2.2.2.1
  · exact (eI _ _ (by omega)).trans D.2.1.2.2.2.2.2.1
  · exact (eI _ _ (by omega)).trans D.2.1.2.2.2.2.2.2
  · exact fun i hi => (eI _ _ (by omega)).trans (D.2.2.1.1 i hi)
  · exact fun i hi => (eI _ _ (by omega)).trans (D.2.2.1.2.1 i hi)
  · exact fun i hi => (eI _ _ (by omega)).trans (D.2.2.1.2.2.1 i hi)
  · exact fun i hi => (eI _ _ (by omega)).trans (D.2.2.1.2.2.2.1 i hi)
  · exact fun i hi => (eI _ _ (by omega)).trans (D.2.2.1.2.2.2.2.1 i hi)
  · exact fun i hi => (eI _ _ (by omega)).trans (D.2.2.1.2.2.2.2.2.1 i hi)
  · exact fun i hi => (eI _ _ (by omega)).trans (D.2.2.1.2.2.2.2.2.2.1 i hi)
  · exact fun i hi => (eI _ _ (by omega)).trans (D.2.2.1.2.2.2.2.2.2.2 i hi)
  · exact (eI _ _ (by omega)).trans D.2.2.2.1.1
  · exact (eI _ _ (by omega)).trans D.2.2.2.1.2.1
  · exact fun q => ⟨(eI _ _ (by omega)).trans (D.2.2.2.1.2.2.1 q).1, (eI _ _ (by omega)).trans (D.2.2.2.1.2.2.1 q).2⟩
  · exact fun i hi => ⟨(eI _ _ (by omega)).trans (D.2.2.2.1.2.2.2 i hi).1, (eI _ _ (by omega)).trans (D.2.2.2.1.2.2.2 i hi).2⟩
  · exact fun i hi => (eL _ _ (by omega)).trans (D.2.2.2.2.1.1 i hi)
  · exact fun i hi => (eL _ _ (by omega)).trans (D.2.2.2.2.1.2.1 i hi)
  · exact fun i hi => (eL _ _ (by omega)).trans (D.2.2.2.2.1.2.2 i hi)
  · exact (eI _ _ (by omega)).trans D.2.2.2.2.2.1
  · exact (eI _ _ (by omega)).trans D.2.2.2.2.2.2.1
  · exact (eI _ _ (by omega)).trans D.2.2.2.2.2.2.2
theorem KD_M {h g : HT} {R : Nat} {τ : CT} (a : FrM h g) (D : KD h R τ) : KD g R τ := KD_of (fun c k x => a.2.1 c k (by omega)) (fun c k x => a.2.2 c k (by omega)) D
/-- the rule, as the model ends it -/
def liBm (V : Nat → Nat) (L s : Nat) (τ : CT) : RL := match ruO V L (lev V L 48 0 0 (nx V L s, 0, 0, fun _ => (0, 0))) with
  | .inl e => .inl e
  | .inr S => .inr (S.1, upB τ S.2)
theorem rk4_G {V : Nat → Nat} {L s : Nat} (h : rkC V L s = 4) : ¬ isG V L s 59 = true := fun q => by
  obtain ⟨k, v⟩ := of_decide_eq_true q
  have w : ∀ i, isW V L s i = false := fun i => decide_eq_false (fun z => by omega)
  have g : ∀ c, c ≠ 59 → isG V L s c = false := fun c hc => decide_eq_false (fun z => by omega)
  unfold rkC at h
  rw [w 20, w 19, g 60 (by decide), g 62 (by decide), g 61 (by decide), g 43 (by decide), g 45 (by decide), g 42 (by decide), g 47 (by decide), g 37 (by decide)] at h
  cases h
theorem liB_m {V : Nat → Nat} {L s : Nat} {τ : CT} : exL V L 59 (liBm V L s τ) = exL V L 59 (liB V L s τ) := by
  unfold liBm liB
  cases q : lev V L 48 0 0 (nx V L s, 0, 0, fun _ => (0, 0)) with
  | inl e => rfl
  | inr S =>
    by_cases z : rkC V L S.1 = 4
    · rw [show ruO V L (.inr S) = .inl (kdO V L S.1 2, S.1) from if_pos z]
      exact (if_neg (rk4_G z)).symm
    · rw [show ruO V L (.inr S) = .inr S from if_neg z]
theorem isW_x {V : Nat → Nat} {L s i j : Nat} (h : isW V L s i = true) (n : txW i ≠ txW j) : ¬ isW V L s j = true := fun q => n ((of_decide_eq_true h).2.symm.trans (of_decide_eq_true q).2)
theorem isW_3 {V : Nat → Nat} {L s i : Nat} (h : isW V L s i = true) (hi : i ∈ wIx) : mK V L s = 3 := by
  obtain ⟨k, w⟩ := of_decide_eq_true h
  have hw := wN_40 k
  rw [mK_w]
  refine ⟨k, ?_⟩
  rw [tx_n i hi] at w
  rw [own_N hw, nL_inj (Nat.lt_trans hw (by decide)) (Nat.lt_trans (ow_4 _ (tx_o i hi)) (by decide)) w]
  exact tx_o i hi
theorem k_what {h : HT} {V : Nat → Nat} {L s i : Nat} {c : Int64} (H : TkK h L V s) (hi : i ∈ wIx) (hc : c = nL (cv (txN i))) (k : tK V L s = 1) : (m_gL h 195 10 = c) = (isW V L s i = true) := by
  have hw := wN_40 k
  have ht : txN i < 2 ^ 40 := ow_4 _ (tx_o i hi)
  rw [H.2.2.2.2.2.1 k, hc]
  refine propext ⟨fun q => decide_eq_true ⟨k, ?_⟩, fun q => ?_⟩
  · rw [tx_n i hi, cv_inj hw ht q]
  · have w := (of_decide_eq_true q).2
    rw [tx_n i hi] at w
    rw [nL_inj (Nat.lt_trans hw (by decide)) (Nat.lt_trans ht (by decide)) w]
section MLINE
variable {X : XT} {d R L s : Nat} {h : HT} {V : Nat → Nat} {τ : CT}
theorem k_semi {r : RL} (H : KLr h R L V r) (hp : Ptr h) : ∃ g, FrM h g ∧ KLr g R L V (exL V L 59 r) ∧ ∃ v : Int32, (∀ Q : QT, wq X (d + 3) 217 0 [some (.ref 195), some (.int 59)] [] h Q = Q (some (.int v)) h) ∧ ∀ Q : QT, wq X (d + 3) 208 0 [some (.ref 195), some (.int v)] [] h Q = Q none g := by
  have nb0 : q_nb .boolean 0 = true := by decide
  have nb1 : q_nb .boolean 1 = true := by decide
  cases r with
  | inl e =>
    have HB : KBd h e := H
    obtain ⟨a, z, q1, q2, q3, q4⟩ := HB.2.2.2
    have st : ∃ v : Int32, ∀ Q : QT, wq X (d + 3) 217 0 [some (.ref 195), some (.int 59)] [] h Q = Q (some (.int v)) h := by
      by_cases t : m_gI h 195 8 = 5
      · by_cases y : a < z
        · have c1 : (nI a < nI z) = True := eq_true (nI_lt y (by omega))
          have m1 : m_in (nI a) 1600 = true := q_in (by omega) (by decide)
          have c2 : (nI a).toNatClampNeg = a := q_cl (by omega)
          by_cases x : m_gI h 197 a &&& 255 = 59
          · refine ⟨1, fun Q => ?_⟩
            simp only [u217_0, u217_1, u217_4, u217_5, u217_8, u217_9, u217_10, u217_13, u217_16, u217_17, u217_20, u217_21, u217_24, u217_25, u192_0, u192_1, u192_2, u192_5, u192_8, u192_9, u192_12, u192_13z, u192_13b, u192_14, u192_17, u192_18, u192_21, u192_22, eq_self, q_nl0, q_nlI, q_nlR, not_false_eq_true, q_nz0, q_nz1, q_zv0, q_zv1, q_tl1, q_tl0, q_wif, q_swc, q_swn, List.cons_append, List.nil_append, if_true, if_false, e10, e01, Bool.false_eq_true, sh_195, sh_197, p_195_1 hp, t, q1, q2, c1, m1, c2, x, nb0, nb1, Option.toList]
          · refine ⟨0, fun Q => ?_⟩
            simp only [u217_0, u217_1, u217_4, u217_5, u217_8, u217_9, u217_10, u217_13, u217_16, u217_17, u217_20, u217_21, u217_24, u217_25, u192_0, u192_1, u192_2, u192_5, u192_8, u192_9, u192_12, u192_13z, u192_13b, u192_14, u192_17, u192_18, u192_21, u192_22, eq_self, q_nl0, q_nlI, q_nlR, not_false_eq_true, q_nz0, q_nz1, q_zv0, q_zv1, q_tl1, q_tl0, q_wif, q_swc, q_swn, List.cons_append, List.nil_append, if_true, if_false, e10, e01, Bool.false_eq_true, sh_195, sh_197, p_195_1 hp, t, q1, q2, c1, m1, c2, x, nb0, nb1, Option.toList]
        · have c1 : (nI a < nI z) = False := eq_false (nI_nlt (by omega) (by omega))
          refine ⟨0, fun Q => ?_⟩
          simp only [u217_0, u217_1, u217_4, u217_5, u217_8, u217_9, u217_10, u217_13, u217_16, u217_17, u217_20, u217_21, u217_24, u217_25, u192_0, u192_1, u192_2, u192_5, u192_8, u192_9, u192_12, u192_13z, u192_13b, u192_14, u192_17, u192_18, u192_21, u192_22, eq_self, q_nl0, q_nlI, q_nlR, not_false_eq_true, q_nz0, q_nz1, q_zv0, q_zv1, q_tl1, q_tl0, q_wif, q_swc, q_swn, List.cons_append, List.nil_append, if_true, if_false, e10, e01, Bool.false_eq_true, sh_195, sh_197, t, q1, q2, c1, nb0, nb1, Option.toList, show ¬ ((0 : Int32) = 59) by decide]
      · refine ⟨0, fun Q => ?_⟩
        simp only [u217_0, u217_1, u217_4, u217_5, u217_8, u217_9, u217_10, u217_13, u217_16, u217_17, u217_20, u217_21, u217_24, u217_25, eq_self, q_nl0, q_nlI, q_nlR, not_false_eq_true, q_nz0, q_nz1, q_zv0, q_zv1, q_tl1, q_tl0, q_wif, q_swc, q_swn, List.cons_append, List.nil_append, if_true, if_false, e10, e01, Bool.false_eq_true, sh_195, t, nb0, nb1]
    obtain ⟨v, hv⟩ := st
    exact ⟨h, FrM_rf, H, v, hv, fun Q => k_mustB HB Q⟩
  | inr q =>
    obtain ⟨H1, H2⟩ := H
    obtain ⟨g, a1, a2, a3⟩ := k_mustP (X := X) (d := d) H1 (isG V L q.1 59)
    refine ⟨g, a1, ?_, _, fun Q => k_isSignH (d := d + 2) (c := 59) H1.1 (by decide), a3⟩
    by_cases z : isG V L q.1 59 = true
    · rw [if_pos z] at a2
      rw [show exL V L 59 (.inr q) = .inr (nx V L q.1, q.2) from if_pos z]
      exact ⟨a2, KD_M a1 H2⟩
    · rw [if_neg z] at a2
      rw [show exL V L 59 (.inr q) = .inl (kdO V L q.1 2, q.1) from if_neg z]
      exact a2
/-- is there room for this line -/
def fullB (V : Nat → Nat) (L s : Nat) (τ : CT) : Bool := if isW V L s 1 = true then decide (τ 0 0 = 4) else if isW V L s 5 = true then decide (τ 0 1 = 7) else if isW V L s 11 = true then decide (τ 0 2 = 5) else if isW V L s 14 = true then decide (τ 0 7 = 1) else if isW V L s 24 = true then decide (τ 0 10 = 1) else if isW V L s 26 = true then decide (τ 0 11 = 1) else true
theorem k_isFull (H : KP h L V (.inr s)) (D : KD h R τ) (O : lOk τ) (Q : QT) : wq X (d + 1) 199 0 [some (.ref 195)] [] h Q = Q (some (.int (if fullB V L s τ = true then 1 else 0))) h := by
  have hp : Ptr h := H.1.1.1
  have hR := D.1.1
  have hb := D.1.2
  have m2 : m_in (nI R) 2 = true := q_in hR (by decide)
  have cR : (nI R).toNatClampNeg = R := q_cl (by omega)
  have nb0 : q_nb .boolean 0 = true := by decide
  have nb1 : q_nb .boolean 1 = true := by decide
  have n10 : ¬ ((1 : Int32) = 0) := by decide
  have kw : ∀ (i : Nat) (c : Int64), i ∈ wIx → c = nL (cv (txN i)) → ∀ Q : QT, wq X d 200 0 [some (.ref 195), some (.long c), none] [] h Q = Q (some (.int (if isW V L s i = true then 1 else 0))) h := fun i c hi hc Q => k_isWord H.1 hi hc
  have k1 := kw 1 427120748148 (by decide) (by decide +kernel)
  have k5 := kw 5 7168366 (by decide) (by decide +kernel)
  have k11 := kw 11 110386789576292 (by decide) (by decide +kernel)
  have k14 := kw 14 1650549611 (by decide) (by decide +kernel)
  have k24 := kw 24 1718576499 (by decide) (by decide +kernel)
  have k26 := kw 26 1685217655 (by decide) (by decide +kernel)
  have b1 : ∀ a, a ≤ 1 → a = 0 ∨ a = 1 := fun a h => by omega
  have p0 := O.1.1
  have p1 := O.1.2.1
  have p2 := O.1.2.2.1
  have q0 : (nI (τ 0 0) = 4) = (τ 0 0 = 4) := nI_eqB (b := 4) (by omega) (by decide)
  have q1 : (nI (τ 0 1) = 7) = (τ 0 1 = 7) := nI_eqB (b := 7) (by omega) (by decide)
  have q2 : (nI (τ 0 2) = 5) = (τ 0 2 = 5) := nI_eqB (b := 5) (by omega) (by decide)
  unfold fullB
  by_cases z1 : isW V L s 1 = true
  · rw [if_pos z1]
    by_cases y : τ 0 0 = 4
    · simp only [u199_0, u199_1, u199_4, u199_7, u199_10, u199_11, u199_14, u199_15, u199_18, u199_19, u199_20, u199_23, u199_24, u199_27, u199_28, eq_self, q_nl0, q_nlI, q_nlR, not_false_eq_true, q_nz0, q_nz1, q_zv0, q_zv1, q_tl1, q_tl0, q_wif, q_swc, q_swn, List.cons_append, List.nil_append, if_true, if_false, e10, e01, Bool.false_eq_true, sh_195, sh_198, p_195_11 hp, hb, m2, cR, k1, z1, D.2.1.1, q0, y, nb0, nb1, n10, decide_true, Option.toList]
      exact if_pos (by decide)
    · simp only [u199_0, u199_1, u199_4, u199_7, u199_10, u199_11, u199_14, u199_15, u199_18, u199_19, u199_20, u199_23, u199_24, u199_27, u199_28, eq_self, q_nl0, q_nlI, q_nlR, not_false_eq_true, q_nz0, q_nz1, q_zv0, q_zv1, q_tl1, q_tl0, q_wif, q_swc, q_swn, List.cons_append, List.nil_append, if_true, if_false, e10, e01, Bool.false_eq_true, sh_195, sh_198, p_195_11 hp, hb, m2, cR, k1, z1, D.2.1.1, q0, y, nb0, nb1, n10, decide_false, Option.toList]
  · rw [if_neg z1]
    by_cases z5 : isW V L s 5 = true
    · rw [if_pos z5]
      by_cases y : τ 0 1 = 7
      · simp only [u199_0, u199_1, u199_4, u199_7, u199_10, u199_11, u199_14, u199_15, u199_18, u199_19, u199_20, u199_23, u199_24, u199_27, u199_28, u199_29, u199_30, u199_33, u199_36, u199_39, u199_40, u199_43, u199_44, u199_47, u199_48, u199_50, u199_53, u199_54, u199_57, u199_58, eq_self, q_nl0, q_nlI, q_nlR, not_false_eq_true, q_nz0, q_nz1, q_zv0, q_zv1, q_tl1, q_tl0, q_wif, q_swc, q_swn, List.cons_append, List.nil_append, if_true, if_false, e10, e01, Bool.false_eq_true, sh_195, sh_199, p_195_12 hp, hb, m2, cR, k1, z1, k5, z5, D.2.1.2.1, q1, y, nb0, nb1, n10, decide_true, Option.toList]
        exact if_pos (by decide)
      · simp only [u199_0, u199_1, u199_4, u199_7, u199_10, u199_11, u199_14, u199_15, u199_18, u199_19, u199_20, u199_23, u199_24, u199_27, u199_28, u199_29, u199_30, u199_33, u199_36, u199_39, u199_40, u199_43, u199_44, u199_47, u199_48, u199_50, u199_53, u199_54, u199_57, u199_58, eq_self, q_nl0, q_nlI, q_nlR, not_false_eq_true, q_nz0, q_nz1, q_zv0, q_zv1, q_tl1, q_tl0, q_wif, q_swc, q_swn, List.cons_append, List.nil_append, if_true, if_false, e10, e01, Bool.false_eq_true, sh_195, sh_199, p_195_12 hp, hb, m2, cR, k1, z1, k5, z5, D.2.1.2.1, q1, y, nb0, nb1, n10, decide_false, Option.toList]
    · rw [if_neg z5]
      by_cases z11 : isW V L s 11 = true
      · rw [if_pos z11]
        by_cases y : τ 0 2 = 5
        · simp only [u199_0, u199_1, u199_4, u199_7, u199_10, u199_11, u199_14, u199_15, u199_18, u199_19, u199_20, u199_23, u199_24, u199_27, u199_28, u199_29, u199_30, u199_33, u199_36, u199_39, u199_40, u199_43, u199_44, u199_47, u199_48, u199_50, u199_53, u199_54, u199_57, u199_58, u199_59, u199_60, u199_63, u199_66, u199_69, u199_70, u199_73, u199_74, u199_77, u199_78, u199_79, u199_82, u199_83, u199_86, u199_87, eq_self, q_nl0, q_nlI, q_nlR, not_false_eq_true, q_nz0, q_nz1, q_zv0, q_zv1, q_tl1, q_tl0, q_wif, q_swc, q_swn, List.cons_append, List.nil_append, if_true, if_false, e10, e01, Bool.false_eq_true, sh_195, sh_200, p_195_13 hp, hb, m2, cR, k1, z1, k5, z5, k11, z11, D.2.1.2.2.1, q2, y, nb0, nb1, n10, decide_true, Option.toList]
          exact if_pos (by decide)
        · simp only [u199_0, u199_1, u199_4, u199_7, u199_10, u199_11, u199_14, u199_15, u199_18, u199_19, u199_20, u199_23, u199_24, u199_27, u199_28, u199_29, u199_30, u199_33, u199_36, u199_39, u199_40, u199_43, u199_44, u199_47, u199_48, u199_50, u199_53, u199_54, u199_57, u199_58, u199_59, u199_60, u199_63, u199_66, u199_69, u199_70, u199_73, u199_74, u199_77, u199_78, u199_79, u199_82, u199_83, u199_86, u199_87, eq_self, q_nl0, q_nlI, q_nlR, not_false_eq_true, q_nz0, q_nz1, q_zv0, q_zv1, q_tl1, q_tl0, q_wif, q_swc, q_swn, List.cons_append, List.nil_append, if_true, if_false, e10, e01, Bool.false_eq_true, sh_195, sh_200, p_195_13 hp, hb, m2, cR, k1, z1, k5, z5, k11, z11, D.2.1.2.2.1, q2, y, nb0, nb1, n10, decide_false, Option.toList]
      · rw [if_neg z11]
        by_cases z14 : isW V L s 14 = true
        · rw [if_pos z14]
          have f := D.2.2.2.2.2.1
          rcases b1 _ O.2.2.1.1 with y | y
          · rw [y] at f ⊢
            have f : m_gI h 216 R = 0 := f
            simp only [u199_0, u199_1, u199_4, u199_7, u199_10, u199_11, u199_14, u199_15, u199_18, u199_19, u199_20, u199_23, u199_24, u199_27, u199_28, u199_29, u199_30, u199_33, u199_36, u199_39, u199_40, u199_43, u199_44, u199_47, u199_48, u199_50, u199_53, u199_54, u199_57, u199_58, u199_59, u199_60, u199_63, u199_66, u199_69, u199_70, u199_73, u199_74, u199_77, u199_78, u199_79, u199_82, u199_83, u199_86, u199_87, u199_88, u199_89, u199_92, u199_95, u199_98, u199_99, u199_102, u199_103, u199_106z, u199_106b, u199_107, eq_self, q_nl0, q_nlI, q_nlR, not_false_eq_true, q_nz0, q_nz1, q_zv0, q_zv1, q_tl1, q_tl0, q_wif, q_swc, q_swn, List.cons_append, List.nil_append, if_true, if_false, e10, e01, Bool.false_eq_true, sh_195, sh_216, p_195_29 hp, hb, m2, cR, k1, z1, k5, z5, k11, z11, k14, z14, f, nb0, nb1, n10, Option.toList]
            rfl
          · rw [y] at f ⊢
            have f : m_gI h 216 R = 1 := f
            simp only [u199_0, u199_1, u199_4, u199_7, u199_10, u199_11, u199_14, u199_15, u199_18, u199_19, u199_20, u199_23, u199_24, u199_27, u199_28, u199_29, u199_30, u199_33, u199_36, u199_39, u199_40, u199_43, u199_44, u199_47, u199_48, u199_50, u199_53, u199_54, u199_57, u199_58, u199_59, u199_60, u199_63, u199_66, u199_69, u199_70, u199_73, u199_74, u199_77, u199_78, u199_79, u199_82, u199_83, u199_86, u199_87, u199_88, u199_89, u199_92, u199_95, u199_98, u199_99, u199_102, u199_103, u199_106z, u199_106b, u199_107, eq_self, q_nl0, q_nlI, q_nlR, not_false_eq_true, q_nz0, q_nz1, q_zv0, q_zv1, q_tl1, q_tl0, q_wif, q_swc, q_swn, List.cons_append, List.nil_append, if_true, if_false, e10, e01, Bool.false_eq_true, sh_195, sh_216, p_195_29 hp, hb, m2, cR, k1, z1, k5, z5, k11, z11, k14, z14, f, nb0, nb1, n10, decide_true, Option.toList]
        · rw [if_neg z14]
          by_cases z24 : isW V L s 24 = true
          · rw [if_pos z24]
            have f := D.2.2.2.2.2.2.1
            rcases b1 _ O.2.2.1.2.1 with y | y
            · rw [y] at f ⊢
              have f : m_gI h 217 R = 0 := f
              simp only [u199_0, u199_1, u199_4, u199_7, u199_10, u199_11, u199_14, u199_15, u199_18, u199_19, u199_20, u199_23, u199_24, u199_27, u199_28, u199_29, u199_30, u199_33, u199_36, u199_39, u199_40, u199_43, u199_44, u199_47, u199_48, u199_50, u199_53, u199_54, u199_57, u199_58, u199_59, u199_60, u199_63, u199_66, u199_69, u199_70, u199_73, u199_74, u199_77, u199_78, u199_79, u199_82, u199_83, u199_86, u199_87, u199_88, u199_89, u199_92, u199_95, u199_98, u199_99, u199_102, u199_103, u199_106z, u199_106b, u199_107, u199_108, u199_109, u199_112, u199_115, u199_118, u199_119, u199_122, u199_123, u199_126z, u199_126b, u199_127, eq_self, q_nl0, q_nlI, q_nlR, not_false_eq_true, q_nz0, q_nz1, q_zv0, q_zv1, q_tl1, q_tl0, q_wif, q_swc, q_swn, List.cons_append, List.nil_append, if_true, if_false, e10, e01, Bool.false_eq_true, sh_195, sh_217, p_195_30 hp, hb, m2, cR, k1, z1, k5, z5, k11, z11, k14, z14, k24, z24, f, nb0, nb1, n10, Option.toList]
              rfl
            · rw [y] at f ⊢
              have f : m_gI h 217 R = 1 := f
              simp only [u199_0, u199_1, u199_4, u199_7, u199_10, u199_11, u199_14, u199_15, u199_18, u199_19, u199_20, u199_23, u199_24, u199_27, u199_28, u199_29, u199_30, u199_33, u199_36, u199_39, u199_40, u199_43, u199_44, u199_47, u199_48, u199_50, u199_53, u199_54, u199_57, u199_58, u199_59, u199_60, u199_63, u199_66, u199_69, u199_70, u199_73, u199_74, u199_77, u199_78, u199_79, u199_82, u199_83, u199_86, u199_87, u199_88, u199_89, u199_92, u199_95, u199_98, u199_99, u199_102, u199_103, u199_106z, u199_106b, u199_107, u199_108, u199_109, u199_112, u199_115, u199_118, u199_119, u199_122, u199_123, u199_126z, u199_126b, u199_127, eq_self, q_nl0, q_nlI, q_nlR, not_false_eq_true, q_nz0, q_nz1, q_zv0, q_zv1, q_tl1, q_tl0, q_wif, q_swc, q_swn, List.cons_append, List.nil_append, if_true, if_false, e10, e01, Bool.false_eq_true, sh_195, sh_217, p_195_30 hp, hb, m2, cR, k1, z1, k5, z5, k11, z11, k14, z14, k24, z24, f, nb0, nb1, n10, decide_true, Option.toList]
          · rw [if_neg z24]
            by_cases z26 : isW V L s 26 = true
            · rw [if_pos z26]
              have f := D.2.2.2.2.2.2.2
              rcases b1 _ O.2.2.1.2.2 with y | y
              · rw [y] at f ⊢
                have f : m_gI h 218 R = 0 := f
                simp only [u199_0, u199_1, u199_4, u199_7, u199_10, u199_11, u199_14, u199_15, u199_18, u199_19, u199_20, u199_23, u199_24, u199_27, u199_28, u199_29, u199_30, u199_33, u199_36, u199_39, u199_40, u199_43, u199_44, u199_47, u199_48, u199_50, u199_53, u199_54, u199_57, u199_58, u199_59, u199_60, u199_63, u199_66, u199_69, u199_70, u199_73, u199_74, u199_77, u199_78, u199_79, u199_82, u199_83, u199_86, u199_87, u199_88, u199_89, u199_92, u199_95, u199_98, u199_99, u199_102, u199_103, u199_106z, u199_106b, u199_107, u199_108, u199_109, u199_112, u199_115, u199_118, u199_119, u199_122, u199_123, u199_126z, u199_126b, u199_127, u199_128, u199_129, u199_132, u199_135, u199_138, u199_139, u199_142, u199_143, u199_146z, u199_146b, u199_147, u199_150, u199_151, u199_154, u199_155, eq_self, q_nl0, q_nlI, q_nlR, not_false_eq_true, q_nz0, q_nz1, q_zv0, q_zv1, q_tl1, q_tl0, q_wif, q_swc, q_swn, List.cons_append, List.nil_append, if_true, if_false, e10, e01, Bool.false_eq_true, sh_195, sh_218, p_195_31 hp, hb, m2, cR, k1, z1, k5, z5, k11, z11, k14, z14, k24, z24, k26, z26, f, nb0, nb1, n10, Option.toList]
                rfl
              · rw [y] at f ⊢
                have f : m_gI h 218 R = 1 := f
                simp only [u199_0, u199_1, u199_4, u199_7, u199_10, u199_11, u199_14, u199_15, u199_18, u199_19, u199_20, u199_23, u199_24, u199_27, u199_28, u199_29, u199_30, u199_33, u199_36, u199_39, u199_40, u199_43, u199_44, u199_47, u199_48, u199_50, u199_53, u199_54, u199_57, u199_58, u199_59, u199_60, u199_63, u199_66, u199_69, u199_70, u199_73, u199_74, u199_77, u199_78, u199_79, u199_82, u199_83, u199_86, u199_87, u199_88, u199_89, u199_92, u199_95, u199_98, u199_99, u199_102, u199_103, u199_106z, u199_106b, u199_107, u199_108, u199_109, u199_112, u199_115, u199_118, u199_119, u199_122, u199_123, u199_126z, u199_126b, u199_127, u199_128, u199_129, u199_132, u199_135, u199_138, u199_139, u199_142, u199_143, u199_146z, u199_146b, u199_147, u199_150, u199_151, u199_154, u199_155, eq_self, q_nl0, q_nlI, q_nlR, not_false_eq_true, q_nz0, q_nz1, q_zv0, q_zv1, q_tl1, q_tl0, q_wif, q_swc, q_swn, List.cons_append, List.nil_append, if_true, if_false, e10, e01, Bool.false_eq_true, sh_195, sh_218, p_195_31 hp, hb, m2, cR, k1, z1, k5, z5, k11, z11, k14, z14, k24, z24, k26, z26, f, nb0, nb1, n10, decide_true, Option.toList]
            · rw [if_neg z26]
              simp only [u199_0, u199_1, u199_4, u199_7, u199_10, u199_11, u199_14, u199_15, u199_18, u199_19, u199_20, u199_23, u199_24, u199_27, u199_28, u199_29, u199_30, u199_33, u199_36, u199_39, u199_40, u199_43, u199_44, u199_47, u199_48, u199_50, u199_53, u199_54, u199_57, u199_58, u199_59, u199_60, u199_63, u199_66, u199_69, u199_70, u199_73, u199_74, u199_77, u199_78, u199_79, u199_82, u199_83, u199_86, u199_87, u199_88, u199_89, u199_92, u199_95, u199_98, u199_99, u199_102, u199_103, u199_106z, u199_106b, u199_107, u199_108, u199_109, u199_112, u199_115, u199_118, u199_119, u199_122, u199_123, u199_126z, u199_126b, u199_127, u199_128, u199_129, u199_132, u199_135, u199_138, u199_139, u199_142, u199_143, u199_146z, u199_146b, u199_147, u199_150, u199_151, u199_154, u199_155, eq_self, q_nl0, q_nlI, q_nlR, not_false_eq_true, q_nz0, q_nz1, q_zv0, q_zv1, q_tl1, q_tl0, q_wif, q_swc, q_swn, List.cons_append, List.nil_append, if_true, if_false, e10, e01, Bool.false_eq_true, sh_195, k1, z1, k5, z5, k11, z11, k14, z14, k24, z24, k26, z26, nb0, nb1, n10, Option.toList]
theorem k_backM (H : KP h L V (.inr (nx V L s))) (D : KD h R τ) (O : lOk τ) (y : τ 0 7 = 0) (hv : ∀ i, i < L → V i < 256) : ∃ g, FrL R h g ∧ KLr g R L V (liBm V L s τ) ∧ ∀ (Q : QT) (l1 l2 : Option Value), wq X (d + 7) 198 80 [some (.ref 195), l1, l2] [] h Q = wq X (d + 7) 198 95 [some (.ref 195), l1, l2] [] g Q := by
  have hp : Ptr h := H.1.1.1
  have hR := D.1.1
  have hb := D.1.2
  have m2 : m_in (nI R) 2 = true := q_in hR (by decide)
  have cR : (nI R).toNatClampNeg = R := q_cl (by omega)
  have vn1 : vp_nar .boolean 1 = 1 := by decide
  have u0 := O.2.2.2.1 y
  obtain ⟨h1, e1⟩ : ∃ h1, h1 = m_sI (m_sI (m_sI h 216 R 1) 195 45 0) 214 R (nI (560 * R)) := ⟨_, rfl⟩
  have b2 : ∀ c k, ¬ (c = 216 ∧ k = R) → ¬ (c = 195 ∧ k = 45) → ¬ (c = 214 ∧ k = R) → m_gI h1 c k = m_gI h c k := fun c k x1 x2 x3 => by
    rw [e1, gI_sI, if_neg x3, gI_sI, if_neg x2, gI_sI, if_neg x1]
  have b3 : m_gI h1 216 R = 1 ∧ m_gI h1 195 45 = 0 ∧ m_gI h1 214 R = nI (560 * R) := by
    rw [e1]
    refine ⟨?_, ?_, ?_⟩
    · rw [gI_sI, if_neg (by omega), gI_sI, if_neg (by omega), gI_sI, if_pos ⟨rfl, rfl⟩]
    · rw [gI_sI, if_neg (by omega), gI_sI, if_pos ⟨rfl, rfl⟩]
    · rw [gI_sI, if_pos ⟨rfl, rfl⟩]
  have f1 : FrL R h h1 := by
    rw [e1]
    exact FrL_tr (FrL_s (by unfold exK; omega)) (FrL_tr (FrL_s (by unfold exK; omega)) (FrL_s (by unfold exK; omega)))
  have hp1 : Ptr h1 := Ptr_of hp f1.1
  have g2 : ∀ c k, ¬ (c = 216 ∧ k = R) → ¬ (c = 195 ∧ (k = 45 ∨ k = 44 ∨ k = 43)) → ¬ (c = 214 ∧ k = R) → m_gI (m_sI (m_sI h1 195 44 0) 195 43 0) c k = m_gI h c k := fun c k x1 x2 x3 => by
    rw [gI_sI, if_neg (by omega), gI_sI, if_neg (by omega)]
    exact b2 c k x1 (by omega) x3
  have F : KF (m_sI (m_sI h1 195 44 0) 195 43 0) R L V (nx V L s, 0, 0, fun _ => (0, 0)) 0 (fun _ => (0, 0)) 0 := by
    refine ⟨TkK_eq (h := h) (fun c k => f1.1 c k) (fun c k x => g2 c k (by omega) (by omega) (by omega)) ?_ H.1, ⟨hR, (g2 _ _ (by omega) (by omega) (by omega)).trans hb⟩, ⟨(g2 _ _ (by omega) (by omega) (by omega)).trans H.2.1, (g2 _ _ (by omega) (by omega) (by omega)).trans H.2.2⟩, ⟨?_, ?_, Nat.zero_le _⟩, ⟨?_, Nat.zero_le _⟩, fun i hi => absurd hi (Nat.not_lt_zero _), ⟨?_, Nat.zero_le _⟩, fun i hi => absurd hi (Nat.not_lt_zero _), ?_⟩
    · rw [e1]
      rfl
    · rw [g2 _ _ (by omega) (by omega) (by omega), D.2.2.2.1.1, u0.1]
    · rw [gI_sI, if_neg (by decide), gI_sI, if_neg (by decide)]
      exact b3.2.1
    · rw [g2 _ _ (by omega) (by omega) (by omega), D.2.2.2.1.2.1, u0.2]
    · rw [gI_sI, if_neg (by decide), gI_sI, if_pos ⟨rfl, rfl⟩]
      rfl
    · rw [gI_sI, if_pos ⟨rfl, rfl⟩]
      rfl
  obtain ⟨g, c1, c2, c3⟩ := k_e (X := X) (d := d) hv F (Nat.zero_le _)
  have hpg : Ptr g := Ptr_of hp1 c1.1
  have bg : m_gI g 195 41 = nI R := by
    rw [c1.2.1 _ _ (by unfold exE; omega), b2 _ _ (by omega) (by omega) (by omega)]
    exact hb
  have tg : FrL R h (m_sI g 215 R (m_gI g 195 42)) := FrL_tr f1 (FrL_tr (FrL_E c1) (FrL_s (by unfold exK; omega)))
  refine ⟨m_sI g 215 R (m_gI g 195 42), tg, ?_, fun Q l1 l2 => ?_⟩
  · unfold liBm
    cases q : ruO V L (lev V L 48 0 0 (nx V L s, 0, 0, fun _ => (0, 0))) with
    | inl e =>
      rw [q] at c2
      exact KP_sI (r := .inl e) (L := L) (V := V) c2 (by decide)
    | inr S =>
      rw [q] at c2
      obtain ⟨P, w, K⟩ := c2
      have e3 : ∀ c k, (198 ≤ c ∧ c ≤ 200 ∨ 202 ≤ c ∧ c ≤ 213 ∨ 217 ≤ c ∧ c ≤ 218 ∨ c = 195 ∧ k = 41) → m_gI (m_sI g 215 R (m_gI g 195 42)) c k = m_gI h c k := fun c k x => by
        rw [gI_sI, if_neg (by omega), c1.2.1 c k (by unfold exE; omega)]
        exact b2 c k (by omega) (by omega) (by omega)
      have eL : ∀ c k, 219 ≤ c ∧ c ≤ 221 → m_gL (m_sI g 215 R (m_gI g 195 42)) c k = m_gL h c k := fun c k x => by
        rw [gL_sI, c1.2.2 c k (by omega), e1]
        rfl
      have eg : ∀ c k, ¬ (c = 215 ∧ k = R) → m_gI (m_sI g 215 R (m_gI g 195 42)) c k = m_gI g c k := fun c k x => by rw [gI_sI, if_neg x]
      refine ⟨KP_sI (r := .inr S.1) (L := L) (V := V) ⟨K.1, K.2.2.1⟩ (by decide), ⟨hR, (e3 _ _ (by omega)).trans hb⟩, ⟨?_, ?_, ?_, ?_, ?_, ?_, ?_⟩, ⟨?_, ?_, ?_, ?_, ?_, ?_, ?_, ?_⟩, ⟨?_, ?_, ?_, ?_⟩, ⟨?_, ?_, ?_⟩, ?_, ?_, ?_⟩
      · exact (e3 _ _ (by omega)).trans D.2.1.1
      · exact (e3 _ _ (by omega)).trans D.2.1.2.1
      · exact (e3 _ _ (by omega)).trans D.2.1.2.2.1
      · exact (e3 _ _ (by omega)).trans D.2.1.2.2.2.1
      · exact (e3 _ _ (by omega)).trans D.2.1.2.2.2.2.1
      · exact (e3 _ _ (by omega)).trans D.2.1.2.2.2.2.2.1
      · exact (e3 _ _ (by omega)).trans D.2.1.2.2.2.2.2.2
      · exact fun i hi => (e3 _ _ (by omega)).trans (D.2.2.1.1 i hi)
      · exact fun i hi => (e3 _ _ (by omega)).trans (D.2.2.1.2.1 i hi)
      · exact fun i hi => (e3 _ _ (by omega)).trans (D.2.2.1.2.2.1 i hi)
      · exact fun i hi => (e3 _ _ (by omega)).trans (D.2.2.1.2.2.2.1 i hi)
      · exact fun i hi => (e3 _ _ (by omega)).trans (D.2.2.1.2.2.2.2.1 i hi)
      · exact fun i hi => (e3 _ _ (by omega)).trans (D.2.2.1.2.2.2.2.2.1 i hi)
      · exact fun i hi => (e3 _ _ (by omega)).trans (D.2.2.1.2.2.2.2.2.2.1 i hi)
      · exact fun i hi => (e3 _ _ (by omega)).trans (D.2.2.1.2.2.2.2.2.2.2 i hi)
      · exact (eg _ _ (by omega)).trans K.2.2.2.1.1
      · exact (eg _ _ (by omega)).trans K.2.2.2.2.1.1
      · intro _
        refine ⟨?_, ?_⟩
        · rw [eg _ _ (by omega), c1.2.1 _ _ (by unfold exE; omega)]
          exact b3.2.2
        · rw [gI_sI, if_pos ⟨rfl, rfl⟩]
          exact K.2.2.2.2.1.1
      · exact fun i hi => ⟨(eg _ _ (by omega)).trans (K.2.2.2.2.2.1 i hi).1, (eg _ _ (by omega)).trans (K.2.2.2.2.2.1 i hi).2⟩
      · exact fun i hi => (eL _ _ (by omega)).trans (D.2.2.2.2.1.1 i hi)
      · exact fun i hi => (eL _ _ (by omega)).trans (D.2.2.2.2.1.2.1 i hi)
      · exact fun i hi => (eL _ _ (by omega)).trans (D.2.2.2.2.1.2.2 i hi)
      · show _ = nI 1
        rw [eg _ _ (by omega), c1.2.1 _ _ (by unfold exE; omega)]
        exact b3.1
      · exact (e3 _ _ (by omega)).trans D.2.2.2.2.2.2.1
      · exact (e3 _ _ (by omega)).trans D.2.2.2.2.2.2.2
  · have w1 : ∀ v, m_gI (m_sI (m_sI h 216 R v) 195 45 0) 195 41 = nI R := fun v => by
      rw [gI_sI, if_neg (by decide), gI_sI, if_neg (by omega)]
      exact hb
    have w2 : ∀ v, m_gI (m_sI (m_sI h 216 R v) 195 45 0) 195 42 = nI (560 * R) := fun v => by
      rw [gI_sI, if_neg (by decide), gI_sI, if_neg (by omega), D.2.2.2.1.2.1, u0.2]
      rfl
    simp only [u198_80, u198_81, u198_84, u198_85, u198_88, u198_89z, u198_89b, u198_90, u198_91, u198_92, u213_0, u213_1, u213_2, u213_5, u213_6, u213_9, u213_10, u213_13, u213_14, u213_15, u213_16, u213_19, u213_20, u213_21, eq_self, q_nl0, q_nlI, q_nlR, not_false_eq_true, q_nz0, q_nz1, q_zv0, q_zv1, q_tl1, q_tl0, q_wif, q_swc, q_swn, List.cons_append, List.nil_append, if_true, if_false, e10, e01, Bool.false_eq_true, sh_195, sh_214, sh_216, p_195_29 hp, p_195_27 hp, hb, m2, cR, vn1, gR_sI, w1, w2, Int32.add_zero]
    rw [← e1]
    refine (c3 _).trans ?_
    simp only [u213_24, u213_25, u213_28, u213_29, u213_32, u213_33, u213_34, u213_35, u213_38, u213_39, u198_95, eq_self, q_nl0, q_nlI, q_nlR, not_false_eq_true, q_nz0, q_nz1, q_zv0, q_zv1, q_tl1, q_tl0, q_wif, q_swc, q_swn, List.cons_append, List.nil_append, if_true, if_false, e10, e01, Bool.false_eq_true, sh_195, sh_215, p_195_28 hpg, bg, m2, cR, Int32.add_zero, Option.toList]
end MLINE
