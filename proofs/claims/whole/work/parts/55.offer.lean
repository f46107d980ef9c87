/-! offer -/
def smI (s : Nat) (r : Nat → Int32) (i : Nat) (t : Int32) : Int32 := if s.testBit i = true then t + r i else t
def smS (s : Nat) (r : Nat → Nat) (i t : Nat) : Nat := if s.testBit i = true then t + r i else t
/-- the sum of a row over a set -/
def smN (τ : CT) (j s : Nat) : Nat := fL (smS s (τ j)) 0 (τ 0 2)
theorem c_sumOf {X : XT} {d a s : Nat} {h : HT} {Q : QT} (ha : m_sh KS a = (20, 5)) (hs : s < 128) : wq X d 75 0 [some (.ref a), some (.int (nI s)), none, none] [] h Q = Q (some (.int (fL (smI s (m_gI h a)) 0 5))) h := by
  have ea : (Nat.ble 20 20 && Nat.blt 20 99) = true := by decide
  simp only [u75_0, u75_1, u75_2, u75_3, eq_self, q_nl0, q_nlI, q_nlR, not_false_eq_true, q_nz0, q_nz1, q_zv0, q_zv1, q_tl1, q_tl0, q_wif, q_swc, q_swn, List.cons_append, List.nil_append, if_true, if_false, e10, e01, Bool.false_eq_true]
  refine (q_loop (fun i => wq X d 75 4 [some (.ref a), some (.int (nI s)), some (.int (fL (smI s (m_gI h a)) 0 i)), some (.int (nI i))] [] h Q) 5 ?_).trans ?_
  · intro i hi
    have hb := bit01 hs (show i < 8 by omega)
    have e2 : (nI i < Int32.ofNat 5) = True := eq_true (nI_lt (b := 5) (by omega) (by omega))
    have e3 : m_in (nI i) 5 = true := q_in (by omega) (by decide)
    have e4 : (nI i).toNatClampNeg = i := q_cl (by omega)
    show wq X d 75 4 _ _ _ _ = _
    rw [u75_4, fL_s]
    unfold smI
    by_cases z : s.testBit i = true
    · simp only [u75_5, u75_6, u75_7, u75_10, u75_11, u75_12, u75_13, u75_14, u75_15, u75_16, u75_19, u75_20, u75_21, u75_22, u75_23, u75_24, u75_25, u75_28, eq_self, q_nl0, q_nlI, q_nlR, not_false_eq_true, q_nz0, q_nz1, q_zv0, q_zv1, q_tl1, q_tl0, q_wif, q_swc, q_swn, List.cons_append, List.nil_append, if_true, if_false, e10, e01, Bool.false_eq_true, ha, ea, e2, e3, e4, hb, z, nI_1]
    · simp only [u75_5, u75_6, u75_7, u75_10, u75_11, u75_12, u75_13, u75_14, u75_15, u75_16, u75_19, u75_20, u75_21, u75_22, u75_23, u75_24, u75_25, u75_28, eq_self, q_nl0, q_nlI, q_nlR, not_false_eq_true, q_nz0, q_nz1, q_zv0, q_zv1, q_tl1, q_tl0, q_wif, q_swc, q_swn, List.cons_append, List.nil_append, if_true, if_false, e10, e01, Bool.false_eq_true, ha, ea, e2, hb, z, nI_1]
  · rw [u75_4]
    simp only [u75_5, u75_6, u75_7, u75_10, u75_11, u75_12, u75_13, u75_14, u75_15, u75_16, u75_19, u75_20, u75_21, u75_22, u75_23, u75_24, u75_25, u75_28, u75_31, u75_32, eq_self, q_nl0, q_nlI, q_nlR, not_false_eq_true, q_nz0, q_nz1, q_zv0, q_zv1, q_tl1, q_tl0, q_wif, q_swc, q_swn, List.cons_append, List.nil_append, if_true, if_false, e10, e01, Bool.false_eq_true, ha, ea, eq_false (show ¬ nI 5 < Int32.ofNat 5 by decide)]
theorem sm_eq {τ : CT} {s j : Nat} {r : Nat → Int32} (h5 : τ 0 2 ≤ 5) (hs : s < 2 ^ τ 0 2) (hr : ∀ i, i < τ 0 2 → r i = nI (τ j i)) : fL (smI s r) 0 5 = nI (smN τ j s) := by
  rw [fL_to (s := smI s r) h5 (fun i o hi => if_neg (by rw [bit_ge hs hi]; decide))]
  unfold smN
  have : ∀ n, n ≤ τ 0 2 → fL (smI s r) 0 n = nI (fL (smS s (τ j)) 0 n) := by
    intro n
    induction n with
    | zero => exact fun _ => rfl
    | succ n ih =>
      intro hn
      rw [fL_s, fL_s, ih (by omega)]
      unfold smI smS
      split
      · rw [hr n (by omega), nI_add]
      · rfl
  exact this _ (Nat.le_refl _)
theorem smN_le {τ : CT} {j s : Nat} (hj : ∀ i, τ j i ≤ 999) (h5 : τ 0 2 ≤ 5) : smN τ j s ≤ 4995 := by
  have : ∀ n, fL (smS s (τ j)) 0 n ≤ 999 * n := by
    intro n
    induction n with
    | zero => exact Nat.le_refl _
    | succ n ih =>
      have := hj n
      rw [fL_s]
      unfold smS at ih ⊢
      split <;> omega
  have h1 := this (τ 0 2)
  unfold smN
  omega
theorem k_sumOf {X : XT} {d b s j a : Nat} {h : HT} {Q : QT} {τ : CT} (H : MTown h b τ) (ha : m_sh KS a = (20, 10)) (hs : s < 128) (hr : ∀ i, i < τ 0 2 → m_gI h a (5 * b + i) = nI (τ j i)) : wq X (d + 1) 292 0 [some (.ref 195), some (.ref a), some (.int (nI s)), none, none] [] h Q = Q (some (.int (nI (smN τ j s)))) h := by
  have h5 := o_dm (mt_ok H)
  have hb := mt_b H
  simp only [u292_0, u292_1, u292_2, u292_3, eq_self, q_nl0, q_nlI, q_nlR, not_false_eq_true, q_nz0, q_nz1, q_zv0, q_zv1, q_tl1, q_tl0, q_wif, q_swc, q_swn, List.cons_append, List.nil_append, if_true, if_false, e10, e01, Bool.false_eq_true]
  refine (q_loop (fun i => wq X (d + 1) 292 5 [some (.ref 195), some (.ref a), some (.int (nI s)), some (.int (nI (fL (smS s (τ j)) 0 i))), some (.int (nI i))] [] h Q) (τ 0 2) ?_).trans ?_
  · intro i hi
    have hbt := bit01 hs (show i < 8 by omega)
    have e2 : (nI i < nI (τ 0 2)) = True := eq_true (nI_lt hi (by omega))
    have e3 : m_in (nI (5 * b + i)) 10 = true := m_5b hb hi h5
    have e4 : (nI (5 * b + i)).toNatClampNeg = 5 * b + i := q_cl (by omega)
    show wq X (d + 1) 292 5 _ _ _ _ = _
    rw [u292_5, fL_s]
    unfold smS
    by_cases z : s.testBit i = true
    · simp only [u292_7, u292_8, u292_11, u292_12, u292_15, u292_16, u292_19, u292_20, u292_21, u292_23, u292_26, u292_29, u292_30, u292_31, u292_32, u292_35, u292_36, u292_38, u292_39, u292_40, u292_43, u292_44, u292_45, u292_46, u292_49, eq_self, q_nl0, q_nlI, q_nlR, not_false_eq_true, q_nz0, q_nz1, q_zv0, q_zv1, q_tl1, q_tl0, q_wif, q_swc, q_swn, List.cons_append, List.nil_append, if_true, if_false, e10, e01, Bool.false_eq_true, sh_195, sh_200, p_195_13 (mt_p H), mt_k H, bk_in H, bk_cl H, mt_dm H, e2, k_has, hbt, z, ha, nI_5b, e3, e4, hr i hi, nI_add, nI_1]
    · simp only [u292_7, u292_8, u292_11, u292_12, u292_15, u292_16, u292_19, u292_20, u292_21, u292_23, u292_26, u292_29, u292_30, u292_31, u292_32, u292_35, u292_36, u292_38, u292_39, u292_40, u292_43, u292_44, u292_45, u292_46, u292_49, eq_self, q_nl0, q_nlI, q_nlR, not_false_eq_true, q_nz0, q_nz1, q_zv0, q_zv1, q_tl1, q_tl0, q_wif, q_swc, q_swn, List.cons_append, List.nil_append, if_true, if_false, e10, e01, Bool.false_eq_true, sh_195, sh_200, p_195_13 (mt_p H), mt_k H, bk_in H, bk_cl H, mt_dm H, e2, k_has, hbt, z, Int32.add_zero, nI_1]
  · rw [u292_5]
    simp only [u292_7, u292_8, u292_11, u292_12, u292_15, u292_16, u292_19, u292_20, u292_21, u292_23, u292_26, u292_29, u292_30, u292_31, u292_32, u292_35, u292_36, u292_38, u292_39, u292_40, u292_43, u292_44, u292_45, u292_46, u292_49, u292_52, u292_53, eq_self, q_nl0, q_nlI, q_nlR, not_false_eq_true, q_nz0, q_nz1, q_zv0, q_zv1, q_tl1, q_tl0, q_wif, q_swc, q_swn, List.cons_append, List.nil_append, if_true, if_false, e10, e01, Bool.false_eq_true, sh_195, sh_200, p_195_13 (mt_p H), mt_k H, bk_in H, bk_cl H, mt_dm H, eq_false (nI_nlt (Nat.le_refl (τ 0 2)) (by omega))]
    rfl
/-- sets not granted -/
def sFree (τ : CT) (g : Nat) : Nat := (2 ^ τ 0 2 - 1) &&& (127 ^^^ g)
theorem free_sub {τ : CT} {g i : Nat} (h7 : τ 0 2 ≤ 7) (hi : i < 128) : (i &&& (127 ^^^ sFree τ g) = 0) = (i < 2 ^ τ 0 2 ∧ i &&& g = 0) := city_sub (τ := fun _ _ => τ 0 2) (n := g) h7 hi
def ofP (τ : CT) (g M i : Nat) : Bool := decide (i &&& (127 ^^^ sFree τ g) = 0) && decide (smN τ 7 i ≤ M)
def ofF (τ : CT) (g M : Nat) : Nat → Option Nat := fL (bvS (ofP τ g M) (smN τ 8) (smN τ 7)) none
theorem ofP_ge {τ : CT} {g M i : Nat} (h7 : τ 0 2 ≤ 7) (hi : i < 128) (h : 2 ^ τ 0 2 ≤ i) : ofP τ g M i = false := by
  unfold ofP
  simp only [free_sub h7 hi]
  rw [decide_eq_false (fun z => by omega), Bool.false_and]
theorem smN_0 {τ : CT} {j : Nat} : smN τ j 0 = 0 := by
  have : ∀ n, fL (smS 0 (τ j)) 0 n = 0 := by
    intro n
    induction n with
    | zero => rfl
    | succ n ih =>
      rw [fL_s, ih]
      unfold smS
      rw [Nat.zero_testBit, if_neg (by decide)]
  exact this _
theorem of_some {τ : CT} {g M : Nat} : ∀ n, 0 < n → ∃ q, ofF τ g M n = some q := by
  refine fO_some (s := bvS (ofP τ g M) (smN τ 8) (smN τ 7)) bvS_n (i0 := 0) ?_
  have : ofP τ g M 0 = true := by
    unfold ofP
    rw [Nat.zero_and, smN_0, decide_eq_true rfl, decide_eq_true (Nat.zero_le M)]
    rfl
  unfold bvS
  rw [if_pos this]
  exact Option.some_ne_none _
theorem c_pickOffer {X : XT} {d T N g M q : Nat} {h : HT} {Q : QT} {τ : CT} {A : Nat → Int32} (H : CQ h T τ N A) (hg : g < 32) (eg : A 15 = nI g) (hM : M < 2 ^ 31) (hq : ofF τ g M (2 ^ τ 0 2) = some q) : wq X (d + 2) 168 0 [some (.ref 1), some (.int (nI M)), none, none, none] [] h Q = Q none (hP h (bvP (smN τ 8) (smN τ 7) (some q))) := by
  have hp := cq_p H
  have hk := cq_k H
  have h5 := o_dm hk
  have hT := ct_T (cq_t H)
  have h32 : 2 ^ τ 0 2 ≤ 32 := Nat.pow_le_pow_right (n := 2) (j := 5) (by decide) h5
  have h01 : 0 < 2 ^ τ 0 2 := Nat.two_pow_pos _
  have ea : (1 : Int32) <<< (nI (τ 0 2) &&& 31) - 1 = nI (2 ^ τ 0 2 - 1) := nI_all _ (by omega)
  have ef : nI (2 ^ τ 0 2 - 1) &&& (nI g ^^^ (-1)) = nI (sFree τ g) := nI_not _ (by omega) _ (by omega)
  have hf : sFree τ g < 128 := and_128 (by omega)
  have hV : ∀ i, smN τ 8 i < 2 ^ 31 := fun i => by
    have := smN_le (τ := τ) (j := 8) (s := i) (fun k => by have := o_wo hk k; omega) h5
    omega
  have hC7 : ∀ i, smN τ 7 i < 2 ^ 31 := fun i => by
    have := smN_le (τ := τ) (j := 7) (s := i) (o_co hk) h5
    omega
  have hlt := fO_lt (bvS_o (p := ofP τ g M) (V := smN τ 8) (C := smN τ 7))
  have sh8 : m_sh KS (T + 8) = (20, 5) := shT_8 hT
  have sh9 : m_sh KS (T + 9) = (20, 5) := shT_9 hT
  simp only [u168_0, u168_1, u168_4, u168_7, u168_8, u168_9, u168_12, u168_15, u168_16, u168_17, u168_18, u168_19, u168_22, u168_25, u168_26, u168_27, u168_28, u168_29, u168_30, eq_self, q_nl0, q_nlI, q_nlR, not_false_eq_true, q_nz0, q_nz1, q_zv0, q_zv1, q_tl1, q_tl0, q_wif, q_swc, q_swn, List.cons_append, List.nil_append, if_true, if_false, e10, e01, Bool.false_eq_true, sh_1, sh_38, sh_178, shT_0 hT, p_1_9 hp, c_pClear, cq_T (CQ_same Same_hP H), ct_dm (cq_t (CQ_same Same_hP H)), ea, p_1_3 (cq_p (CQ_same Same_hP H)), cq_g (CQ_same Same_hP H), eg, ef]
  obtain ⟨l', e⟩ := q_loopL (fun i (l4 : Option Value) => wq X (d + 2) 168 31 [some (.ref 1), some (.int (nI M)), some (.int (nI (sFree τ g))), some (.int (nI i)), l4] [] (hP h (bvP (smN τ 8) (smN τ 7) (ofF τ g M i))) Q) 32 (by
    intro i hi l4
    refine ⟨some (.int (fL (smI i (m_gI h (T + 8))) 0 5)), ?_⟩
    have hl := hlt i
    show wq X (d + 2) 168 31 _ _ _ _ = _
    have es : ofF τ g M (i + 1) = bvS (ofP τ g M) (smN τ 8) (smN τ 7) i (ofF τ g M i) := fL_s
    have hl2 : ∀ b, ofF τ g M i = some b → b < i := hl
    rw [u168_31, es]
    generalize ofF τ g M i = o at hl2 ⊢
    have H' : ∀ p, CQ (hP h p) T τ N A := fun p => CQ_same Same_hP H
    have e1 : (nI i < 32) = True := eq_true (nI_lt (b := 32) hi (by decide))
    have hi8 : i < 128 := by omega
    have cs := fun (Q : QT) (p : PT3) => c_sumOf (X := X) (d := d + 1) (h := hP h p) (Q := Q) sh8 hi8
    have cw := fun (Q : QT) (p : PT3) => c_sumOf (X := X) (d := d + 1) (h := hP h p) (Q := Q) sh9 hi8
    have em : ∀ p c, c < 178 → m_gI (hP h p) c = m_gI h c := fun p c hc => funext fun k => gI_hP (by omega)
    have hT38 : T ≤ 23 := by rcases hT with t | t <;> omega
    simp only [em _ (T + 8) (by omega)] at cs
    simp only [em _ (T + 9) (by omega)] at cw
    by_cases z : i &&& (127 ^^^ sFree τ g) = 0
    · have z2 := z
      rw [free_sub (by omega) hi8] at z2
      have ec : fL (smI i (m_gI h (T + 8))) 0 5 = nI (smN τ 7 i) := sm_eq h5 z2.1 (ct_co (cq_t H))
      have ew : fL (smI i (m_gI h (T + 9))) 0 5 = nI (smN τ 8 i) := sm_eq h5 z2.1 (ct_wo (cq_t H))
      rw [ec] at cs ⊢
      rw [ew] at cw
      by_cases y : smN τ 7 i ≤ M
      · have eb : bvS (ofP τ g M) (smN τ 8) (smN τ 7) i o = bvM (smN τ 8) (smN τ 7) i o := by
          refine if_pos ?_
          unfold ofP
          rw [decide_eq_true z, decide_eq_true y]
          rfl
        rw [eb]
        simp only [u168_32, u168_34, u168_37, u168_38, u168_41, u168_44, u168_45, u168_48, u168_50, u168_51, u168_52, u168_53, u168_54, u168_55, u168_58, u168_60, u168_61, u168_64, u168_65, u168_68, u168_69, u168_70, u168_73, u168_76, u168_77, u168_80, u168_82, u168_85, u168_88, eq_self, q_nl0, q_nlI, q_nlR, not_false_eq_true, q_nz0, q_nz1, q_zv0, q_zv1, q_tl1, q_tl0, q_wif, q_swc, q_swn, List.cons_append, List.nil_append, if_true, if_false, e10, e01, Bool.false_eq_true, sh_1, sh_178, shT_0 hT, e1, cq_T (H' _), pT_11 hT (cq_p (H' _)), pT_12 hT (cq_p (H' _)), cs, cw, nI_not _ hi8 _ hf, nI_0eq (and_128 hi8), eq_true z, nI_ltB hM (hC7 i), eq_false (show ¬ M < smN τ 7 i by omega), p_1_9 (cq_p (H' _)), c_take, bvP_take hV (fun i _ => hC7 i) hi8 o (fun q hq => by have := hl2 q hq; omega), nI_1]
      · have eb : bvS (ofP τ g M) (smN τ 8) (smN τ 7) i o = o := by
          refine if_neg ?_
          unfold ofP
          rw [decide_eq_false y, Bool.and_false]
          decide
        rw [eb]
        simp only [u168_32, u168_34, u168_37, u168_38, u168_41, u168_44, u168_45, u168_48, u168_50, u168_51, u168_52, u168_53, u168_54, u168_55, u168_58, u168_60, u168_61, u168_85, u168_88, eq_self, q_nl0, q_nlI, q_nlR, not_false_eq_true, q_nz0, q_nz1, q_zv0, q_zv1, q_tl1, q_tl0, q_wif, q_swc, q_swn, List.cons_append, List.nil_append, if_true, if_false, e10, e01, Bool.false_eq_true, sh_1, shT_0 hT, e1, cq_T (H' _), pT_11 hT (cq_p (H' _)), cs, nI_not _ hi8 _ hf, nI_0eq (and_128 hi8), eq_true z, nI_ltB hM (hC7 i), eq_true (show M < smN τ 7 i by omega), nI_1]
    · have eb : bvS (ofP τ g M) (smN τ 8) (smN τ 7) i o = o := by
        refine if_neg ?_
        unfold ofP
        rw [decide_eq_false z, Bool.false_and]
        decide
      rw [eb]
      simp only [u168_32, u168_34, u168_37, u168_38, u168_41, u168_44, u168_45, u168_48, u168_50, u168_51, u168_52, u168_53, u168_54, u168_55, u168_85, u168_88, eq_self, q_nl0, q_nlI, q_nlR, not_false_eq_true, q_nz0, q_nz1, q_zv0, q_zv1, q_tl1, q_tl0, q_wif, q_swc, q_swn, List.cons_append, List.nil_append, if_true, if_false, e10, e01, Bool.false_eq_true, sh_1, shT_0 hT, e1, cq_T (H' _), pT_11 hT (cq_p (H' _)), cs, nI_not _ hi8 _ hf, nI_0eq (and_128 hi8), eq_false z, nI_1]) none
  refine Eq.trans e ?_
  have e32 : ofF τ g M 32 = some q := by
    rw [← hq]
    exact fL_to2 (s := bvS (ofP τ g M) (smN τ 8) (smN τ 7)) h32 (fun i o h1 h2 => if_neg (by rw [ofP_ge (by omega) (by omega) h1]; decide))
  show wq X (d + 2) 168 31 _ _ _ _ = _
  rw [u168_31, e32]
  simp only [u168_32, u168_34, u168_91, eq_self, q_nl0, q_nlI, q_nlR, not_false_eq_true, q_nz0, q_nz1, q_zv0, q_zv1, q_tl1, q_tl0, q_wif, q_swc, q_swn, List.cons_append, List.nil_append, if_true, if_false, e10, e01, Bool.false_eq_true, eq_false (show ¬ nI 32 < 32 by decide)]
/-- where what is lost from day n on ends -/
def ofE (τ : CT) (A : Nat → Int32) (n : Nat) : Nat := match fstN (lsP τ A) 60 with
  | none => 60
  | some L => if n ≤ L then L else n
def ofM (τ : CT) (A : Nat → Int32) (n : Nat) : Nat := aCs τ A (ofE τ A n) - aCs τ A n
theorem aCs_mono {τ : CT} {A : Nat → Int32} {p q : Nat} (h : p ≤ q) : aCs τ A p ≤ aCs τ A q := by
  induction q with
  | zero => rw [show p = 0 by omega]; exact Nat.le_refl _
  | succ q ih =>
    by_cases z : p = q + 1
    · rw [z]
      exact Nat.le_refl _
    · have := ih (by omega)
      rw [aCs_s]
      omega
theorem ofE_ge {τ : CT} {A : Nat → Int32} {n : Nat} (hn : n ≤ 60) : n ≤ ofE τ A n ∧ ofE τ A n ≤ 60 := by
  unfold ofE
  cases e : fstN (lsP τ A) 60 with
  | none => exact ⟨hn, Nat.le_refl _⟩
  | some L =>
    have := (fst_some 60 e).1
    dsimp only
    split <;> omega
theorem c_lostFrom {X : XT} {d N n : Nat} {g : HT} {Q : QT} {τ : CT} {A : Nat → Int32} (hp : Ptr g) (H : cOk τ) (K : aOk τ N A) (nt : Noted τ A 60 g) (hn : n ≤ 60) : wq X (d + 1) 167 0 [some (.ref 171), some (.int (nI n)), none] [] g Q = Q (some (.int (nI (ofM τ A n)))) g := by
  simp only [u167_0, u167_1, u167_4, eq_self, q_nl0, q_nlI, q_nlR, not_false_eq_true, q_nz0, q_nz1, q_zv0, q_zv1, q_tl1, q_tl0, q_wif, q_swc, q_swn, List.cons_append, List.nil_append, if_true, if_false, e10, e01, Bool.false_eq_true, sh_171, c_empty hp H K nt]
  unfold ofM ofE
  cases e : fstN (lsP τ A) 60 with
  | none =>
    have cl := fun (Q : QT) => c_lostB (X := X) (d := d) (Q := Q) hp nt (Nat.le_refl 60) hn (Nat.le_refl 60)
    have cl' : ∀ Q : QT, wq X d 158 0 [some (.ref 171), some (.int (nI n)), some (.int 60)] [] g Q = Q (some (.int (nI (aCs τ A 60) - nI (aCs τ A n)))) g := cl
    simp only [u167_5, u167_6, u167_7, u167_8, u167_9, u167_12, u167_14, u167_17, u167_18, u167_21, eq_self, q_nl0, q_nlI, q_nlR, not_false_eq_true, q_nz0, q_nz1, q_zv0, q_zv1, q_tl1, q_tl0, q_wif, q_swc, q_swn, List.cons_append, List.nil_append, if_true, if_false, e10, e01, Bool.false_eq_true, sh_171, oI, cl', pk_sub (aCs_mono hn)]
  | some L =>
    have hL := (fst_some 60 e).1
    have e1 : (nI L = -1) = False := eq_false (fun z => by
      have := oI_lt0 (b := L) (by omega)
      rw [z, m1_lt0] at this
      exact absurd this.symm (by simp))
    dsimp only
    by_cases z : n ≤ L
    · rw [if_pos z]
      simp only [u167_5, u167_6, u167_7, u167_8, u167_9, u167_12, u167_14, u167_17, u167_18, u167_21, eq_self, q_nl0, q_nlI, q_nlR, not_false_eq_true, q_nz0, q_nz1, q_zv0, q_zv1, q_tl1, q_tl0, q_wif, q_swc, q_swn, List.cons_append, List.nil_append, if_true, if_false, e10, e01, Bool.false_eq_true, sh_171, oI, e1, c_lostB hp nt (Nat.le_refl 60) z hL, pk_sub (aCs_mono z)]
    · rw [if_neg z, Nat.sub_self]
      have e2 : (nI n < 0) = False := oI_lt0 (by omega)
      have e3 : (nI L < nI n) = True := eq_true (nI_lt (by omega) (by omega))
      simp only [u167_5, u167_6, u167_7, u167_8, u167_9, u167_12, u167_14, u167_17, u167_18, u167_21, u158_0, u158_1, u158_4, u158_5, u158_6, u158_9, u158_10, u158_12, u158_15, u158_16, eq_self, q_nl0, q_nlI, q_nlR, not_false_eq_true, q_nz0, q_nz1, q_zv0, q_zv1, q_tl1, q_tl0, q_wif, q_swc, q_swn, List.cons_append, List.nil_append, if_true, if_false, e10, e01, Bool.false_eq_true, sh_171, oI, e1, e2, e3]
      rfl
/-! the model lays an offer -/
def hW (h : HT) (p q r : Int32) : HT := (fun c k => if c = 195 ∧ k = 53 then p else if c = 195 ∧ k = 54 then q else if c = 195 ∧ k = 55 then r else h.1 c k, h.2)
theorem gI_hW53 {h : HT} {p q r : Int32} : m_gI (hW h p q r) 195 53 = p := rfl
theorem gI_hW54 {h : HT} {p q r : Int32} : m_gI (hW h p q r) 195 54 = q := rfl
theorem gI_hW55 {h : HT} {p q r : Int32} : m_gI (hW h p q r) 195 55 = r := rfl
theorem Same_hW {h : HT} {p q r : Int32} : Same h (hW h p q r) := by
  refine ⟨rfl, fun c k z => ?_⟩
  show (if c = 195 ∧ k = 53 then p else if c = 195 ∧ k = 54 then q else if c = 195 ∧ k = 55 then r else h.1 c k) = h.1 c k
  by_cases y : c = 195 ∧ (k = 53 ∨ k = 54 ∨ k = 55)
  · have w : isJ c k = true := by
      unfold isJ
      simp only [Bool.or_eq_true, decide_eq_true_eq]
      omega
    rw [w] at z
    cases z
  · rw [if_neg (by omega), if_neg (by omega), if_neg (by omega)]
theorem sI_hW53 {h : HT} {p q r v : Int32} : m_sI (hW h p q r) 195 53 v = hW h v q r := by
  apply hx
  · intro c k
    show (if c = 195 ∧ k = 53 then v else if c = 195 ∧ k = 53 then p else _) = if c = 195 ∧ k = 53 then v else _
    by_cases z : c = 195 ∧ k = 53
    · rw [if_pos z, if_pos z]
    · rw [if_neg z, if_neg z, if_neg z]
  · rfl
theorem sI_hW54 {h : HT} {p q r v : Int32} : m_sI (hW h p q r) 195 54 v = hW h p v r := by
  apply hx
  · intro c k
    show (if c = 195 ∧ k = 54 then v else if c = 195 ∧ k = 53 then p else if c = 195 ∧ k = 54 then q else _) = if c = 195 ∧ k = 53 then p else if c = 195 ∧ k = 54 then v else _
    by_cases z : c = 195 ∧ k = 54
    · rw [if_pos z, if_neg (by omega), if_pos z]
    · rw [if_neg z, if_neg z, if_neg z]
  · rfl
theorem sI_hW55 {h : HT} {p q r v : Int32} : m_sI (hW h p q r) 195 55 v = hW h p q v := by
  apply hx
  · intro c k
    show (if c = 195 ∧ k = 55 then v else if c = 195 ∧ k = 53 then p else if c = 195 ∧ k = 54 then q else if c = 195 ∧ k = 55 then r else _) = if c = 195 ∧ k = 53 then p else if c = 195 ∧ k = 54 then q else if c = 195 ∧ k = 55 then v else _
    by_cases z : c = 195 ∧ k = 55
    · rw [if_pos z, if_neg (by omega), if_neg (by omega), if_pos z]
    · rw [if_neg z, if_neg z, if_neg z]
  · rfl
theorem hW_id {h : HT} : hW h (m_gI h 195 53) (m_gI h 195 54) (m_gI h 195 55) = h := by
  apply hx
  · intro c k
    show (if c = 195 ∧ k = 53 then h.1 195 53 else if c = 195 ∧ k = 54 then h.1 195 54 else if c = 195 ∧ k = 55 then h.1 195 55 else h.1 c k) = h.1 c k
    by_cases x : c = 195 ∧ k = 53
    · rw [if_pos x, x.1, x.2]
    · by_cases y : c = 195 ∧ k = 54
      · rw [if_neg x, if_pos y, y.1, y.2]
      · by_cases z : c = 195 ∧ k = 55
        · rw [if_neg x, if_neg y, if_pos z, z.1, z.2]
        · rw [if_neg x, if_neg y, if_neg z]
  · rfl
def oV (c : Int32) (v : Nat → Int32) : Option Nat → Int32
  | none => c
  | some b => v b
theorem nI_m1lt {a : Nat} (h : a < 2 ^ 31) : (nI a < -1) = False := by
  refine eq_false (fun z => ?_)
  have h1 := Int32.lt_iff_toInt_lt.mp z
  rw [nI_toInt h, show (-1 : Int32).toInt = -1 from rfl] at h1
  omega
theorem nI_m1eq {a : Nat} (h : a < 2 ^ 31) : (nI a = -1) = False := by
  refine eq_false (fun z => ?_)
  have h1 := congrArg Int32.toInt z
  rw [nI_toInt h, show (-1 : Int32).toInt = -1 from rfl] at h1
  omega
theorem sub_sub16 {a b c : Int32} : a + b - (a + c) = b - c := by
  rw [Int32.sub_eq_add_neg, Int32.neg_add, Int32.sub_eq_add_neg b c]
  have : a + b + (-a - c) = b + -c := by
    rw [Int32.sub_eq_add_neg, Int32.add_comm a b, Int32.add_assoc, ← Int32.add_assoc a, Int32.add_right_neg, Int32.zero_add]
  exact this
theorem k_layOffer {X : XT} {d b f N n g q : Nat} {h : HT} {τ : CT} {A : Nat → Int32} (K : KQ h b f τ N A) (hg : g < 32) (eg : A 15 = nI g) (hn : n ≤ 59) (hq : ofF τ g (ofM τ A n) (2 ^ τ 0 2) = some q) : ∃ h', Same h h' ∧ m_gI h' 195 53 = nI (smN τ 8 q) ∧ m_gI h' 195 54 = nI (smN τ 7 q) ∧ m_gI h' 195 55 = nI q ∧ ∀ Q : QT, wq X (d + 8) 291 0 [some (.ref 195), some (.int (nI n)), none, none, none, none, none] [] h Q = Q none h' := by
  have hk := mq_k K
  have h5 := o_dm hk
  have hp := mq_p K
  have h32 : 2 ^ τ 0 2 ≤ 32 := Nat.pow_le_pow_right (n := 2) (j := 5) (by decide) h5
  have hV : ∀ i, smN τ 8 i < 2 ^ 31 := fun i => by
    have := smN_le (τ := τ) (j := 8) (s := i) (fun k => by have := o_wo hk k; omega) h5
    omega
  have hC7 : ∀ i, smN τ 7 i < 2 ^ 31 := fun i => by
    have := smN_le (τ := τ) (j := 7) (s := i) (o_co hk) h5
    omega
  have hE := ofE_ge (τ := τ) (A := A) (show n ≤ 60 by omega)
  have hM : ofM τ A n < 2 ^ 31 := by
    have := aCs_le (A := A) hk (ofE τ A n)
    unfold ofM
    omega
  obtain ⟨g1, a1, a2, a3, a4⟩ := k_goDays (X := X) (d := d) K (show n ≤ 1000 by omega)
  have was := it_16 hk (mq_a K) n
  -- on till nobody is out
  have lz : ∀ i, n ≤ i → i < ofE τ A n → aN (aIt τ A i) ≠ 0 := by
    intro i h1 h2
    unfold ofE at h2
    cases e : fstN (lsP τ A) 60 with
    | none =>
      rw [e] at h2
      exact of_decide_eq_false (fst_none 60 e i (by dsimp only at h2; omega))
    | some L =>
      rw [e] at h2
      dsimp only at h2
      split at h2
      · exact of_decide_eq_false ((fst_some 60 e).2.2 i h2)
      · omega
  have lend : ofE τ A n = 60 ∨ aN (aIt τ A (ofE τ A n)) = 0 := by
    unfold ofE
    cases e : fstN (lsP τ A) 60 with
    | none => exact Or.inl rfl
    | some L =>
      have hL := fst_some 60 e
      dsimp only
      right
      split
      · exact of_decide_eq_true hL.2.1
      · next y =>
        have : ∀ j, aIt τ A (L + j) = aIt τ (aIt τ A L) j := by
          intro j
          induction j with
          | zero => rfl
          | succ j ih =>
            show aD τ (aIt τ A (L + j)) = _
            rw [ih]
            rfl
        have h2 := this (n - L)
        rw [show L + (n - L) = n by omega] at h2
        rw [h2]
        exact aIt_0 hk (it_ok hk (mq_a K) L) (of_decide_eq_true hL.2.1) _
  obtain ⟨g2, ⟨b1, b2, b3⟩, e2⟩ : ∃ g2, (Al h g2 ∧ Kept g2 A ∧ KQ g2 b f τ (N + ofE τ A n) (aIt τ A (ofE τ A n))) ∧ (fun Q : QT => wq X (d + 8) 291 15 [some (.ref 195), some (.int (nI n)), some (.int (aIt τ A n 16)), some (.int (nI n)), none, none, none] [] g1 Q) = fun Q => wq X (d + 8) 291 15 [some (.ref 195), some (.int (nI n)), some (.int (aIt τ A n 16)), some (.int (nI (ofE τ A n))), none, none, none] [] g2 Q := by
    have key := q_loopI (fun i (h' : HT) (Q : QT) => wq X (d + 8) 291 15 [some (.ref 195), some (.int (nI n)), some (.int (aIt τ A n 16)), some (.int (nI (n + i))), none, none, none] [] h' Q) (fun i h' => Al h h' ∧ Kept h' A ∧ KQ h' b f τ (N + (n + i)) (aIt τ A (n + i))) (ofE τ A n - n) (by
      intro i hi h1 hh
      obtain ⟨b1, b2, b3⟩ := hh
      obtain ⟨h', c1, c2, c3, _, c5⟩ := k_dayG (X := X) (d := d + 1) b3
      refine ⟨h', ⟨Al_tr b1 c1, fun k hk => (c3 k).trans (b2 k hk), c2⟩, funext fun Q => ?_⟩
      have e1 : (nI (n + i) < 60) = True := eq_true (nI_lt (b := 60) (by omega) (by omega))
      rw [u291_15]
      simp only [u291_16, u291_18, u291_21, u291_22, u291_25, u291_27, u291_28, u291_31, u291_32, u291_35, u291_38, eq_self, q_nl0, q_nlI, q_nlR, not_false_eq_true, q_nz0, q_nz1, q_zv0, q_zv1, q_tl1, q_tl0, q_wif, q_swc, q_swn, List.cons_append, List.nil_append, if_true, if_false, e10, e01, Bool.false_eq_true, sh_195, sh_227, e1, p_195_47 (mq_p b3), in14, cl14, mq_o b3, nI_0eq (mq_n b3), eq_false (lz (n + i) (by omega) (by omega)), c5, nI_1]
      rfl) g1 ⟨a1, a2, a3⟩
    rw [show n + (ofE τ A n - n) = ofE τ A n by omega] at key
    exact key
  have eM : aIt τ A (ofE τ A n) 16 - aIt τ A n 16 = nI (ofM τ A n) := by
    rw [it_16 hk (mq_a K), it_16 hk (mq_a K), sub_sub16, pk_sub (aCs_mono hE.1)]
    rfl
  obtain ⟨g3, f1, f2⟩ := k_bringG (X := X) (d := d + 7) K b1 b2 b3 (fun k hk2 => it_ge hk (Or.inl hk2) _)
  have K3 := KQ_same f1 K
  have hlt := fO_lt (bvS_o (p := ofP τ g (ofM τ A n)) (V := smN τ 8) (C := smN τ 7))
  refine ⟨hW g3 (nI (smN τ 8 q)) (nI (smN τ 7 q)) (nI q), Same_tr f1 Same_hW, rfl, rfl, rfl, fun Q => ?_⟩
  have stop : wq X (d + 8) 291 15 [some (.ref 195), some (.int (nI n)), some (.int (aIt τ A n 16)), some (.int (nI (ofE τ A n))), none, none, none] [] g2 Q = wq X (d + 8) 291 41 [some (.ref 195), some (.int (nI n)), some (.int (aIt τ A n 16)), some (.int (nI (ofE τ A n))), none, none, none] [] g2 Q := by
    rw [u291_15]
    rcases lend with z | z
    · simp only [u291_16, u291_18, eq_self, q_nl0, q_nlI, q_nlR, not_false_eq_true, q_nz0, q_nz1, q_zv0, q_zv1, q_tl1, q_tl0, q_wif, q_swc, q_swn, List.cons_append, List.nil_append, if_true, if_false, e10, e01, Bool.false_eq_true, eq_false (show ¬ nI (ofE τ A n) < 60 by rw [z]; decide)]
    · simp only [u291_16, u291_18, u291_21, u291_22, u291_25, u291_27, u291_28, eq_self, q_nl0, q_nlI, q_nlR, not_false_eq_true, q_nz0, q_nz1, q_zv0, q_zv1, q_tl1, q_tl0, q_wif, q_swc, q_swn, List.cons_append, List.nil_append, if_true, if_false, e10, e01, Bool.false_eq_true, sh_195, sh_227, p_195_47 (mq_p b3), in14, cl14, mq_o b3, nI_0eq (mq_n b3), eq_true z, ite_self]
  have s53 : ∀ v, m_sI g3 195 53 v = hW g3 v (m_gI g3 195 54) (m_gI g3 195 55) := fun v => by
    have := sI_hW53 (h := g3) (p := m_gI g3 195 53) (q := m_gI g3 195 54) (r := m_gI g3 195 55) (v := v)
    rw [hW_id] at this
    exact this
  simp only [u291_0, u291_1, u291_2, eq_self, q_nl0, q_nlI, q_nlR, not_false_eq_true, q_nz0, q_nz1, q_zv0, q_zv1, q_tl1, q_tl0, q_wif, q_swc, q_swn, List.cons_append, List.nil_append, if_true, if_false, e10, e01, Bool.false_eq_true, sh_195, a4]
  simp only [u291_5, u291_6, u291_9, u291_11, u291_12, u291_13, u291_14, eq_self, q_nl0, q_nlI, q_nlR, not_false_eq_true, q_nz0, q_nz1, q_zv0, q_zv1, q_tl1, q_tl0, q_wif, q_swc, q_swn, List.cons_append, List.nil_append, if_true, if_false, e10, e01, Bool.false_eq_true, sh_195, sh_227, p_195_47 (mq_p a3), in16, cl16, mq_A a3]
  refine (congrFun e2 Q).trans (stop.trans ?_)
  simp only [u291_41, u291_42, u291_45, u291_47, u291_48, u291_49, u291_50, u291_51, u291_52, eq_self, q_nl0, q_nlI, q_nlR, not_false_eq_true, q_nz0, q_nz1, q_zv0, q_zv1, q_tl1, q_tl0, q_wif, q_swc, q_swn, List.cons_append, List.nil_append, if_true, if_false, e10, e01, Bool.false_eq_true, sh_195, sh_227, p_195_47 (mq_p b3), in16, cl16, mq_A b3, eM, f2]
  simp only [u291_55, u291_56, u291_57, u291_60, u291_61, eq_self, q_nl0, q_nlI, q_nlR, not_false_eq_true, q_nz0, q_nz1, q_zv0, q_zv1, q_tl1, q_tl0, q_wif, q_swc, q_swn, List.cons_append, List.nil_append, if_true, if_false, e10, e01, Bool.false_eq_true, sh_195, s53]
  obtain ⟨l, e⟩ := q_loopL (fun i (l : Option Value × Option Value) => wq X (d + 8) 291 63 [some (.ref 195), some (.int (nI n)), some (.int (aIt τ A n 16)), some (.int (nI (ofM τ A n))), some (.int (nI i)), l.1, l.2] [] (hW g3 (oV (-1) (fun b => nI (smN τ 8 b)) (ofF τ g (ofM τ A n) i)) (oV (m_gI g3 195 54) (fun b => nI (smN τ 7 b)) (ofF τ g (ofM τ A n) i)) (oV (m_gI g3 195 55) (fun b => nI b) (ofF τ g (ofM τ A n) i))) Q) (2 ^ τ 0 2) (by
    intro i hi l
    refine ⟨(some (.int (nI (smN τ 7 i))), some (.int (nI (smN τ 8 i)))), ?_⟩
    have hl2 : ∀ b, ofF τ g (ofM τ A n) i = some b → b < i := hlt i
    have es : ofF τ g (ofM τ A n) (i + 1) = bvS (ofP τ g (ofM τ A n)) (smN τ 8) (smN τ 7) i (ofF τ g (ofM τ A n) i) := fL_s
    show wq X (d + 8) 291 63 _ _ _ _ = _
    rw [u291_63, es]
    generalize ofF τ g (ofM τ A n) i = o at hl2 ⊢
    have KW : ∀ p q r, KQ (hW g3 p q r) b f τ N A := fun p q r => KQ_same Same_hW K3
    have hi8 : i < 128 := by omega
    have e1 : (nI i < nI (2 ^ τ 0 2)) = True := eq_true (nI_lt hi (by omega))
    have kc := fun (Q : QT) (p q r : Int32) => k_sumOf (X := X) (d := d + 6) (Q := Q) (j := 7) (mq_t (KW p q r)) sh_212 hi8 (mt_co (mq_t (KW p q r)))
    have kw := fun (Q : QT) (p q r : Int32) => k_sumOf (X := X) (d := d + 6) (Q := Q) (j := 8) (mq_t (KW p q r)) sh_213 hi8 (mt_wo (mq_t (KW p q r)))
    by_cases z : i &&& g = 0
    · by_cases y : smN τ 7 i ≤ ofM τ A n
      · have eb : bvS (ofP τ g (ofM τ A n)) (smN τ 8) (smN τ 7) i o = bvM (smN τ 8) (smN τ 7) i o := by
          refine if_pos ?_
          unfold ofP
          simp only [free_sub (show τ 0 2 ≤ 7 by omega) hi8]
          rw [decide_eq_true ⟨hi, z⟩, decide_eq_true y]
          rfl
        rw [eb]
        cases o with
        | none =>
          simp only [u291_65, u291_66, u291_67, u291_70, u291_71, u291_74, u291_75, u291_76, u291_79, u291_80, u291_81, u291_84, u291_86, u291_89, u291_91, u291_92, u291_93, u291_96, u291_98, u291_101, u291_103, u291_105, u291_106, u291_109, u291_111, u291_112, u291_113, u291_116, u291_118, u291_119, u291_122, u291_124, u291_125, u291_128, u291_131, u291_133, u291_134, u291_137, u291_140, u291_142, u291_143, u291_146, u291_149, u291_152, u291_153, u291_155, u291_158, u291_159, u291_161, u291_164, u291_165, u291_167, u291_170, u291_173, eq_self, q_nl0, q_nlI, q_nlR, not_false_eq_true, q_nz0, q_nz1, q_zv0, q_zv1, q_tl1, q_tl0, q_wif, q_swc, q_swn, List.cons_append, List.nil_append, if_true, if_false, e10, e01, Bool.false_eq_true, sh_195, sh_200, sh_227, p_195_13 (mq_p (KW _ _ _)), mt_k (mq_t (KW _ _ _)), bk_in (mq_t K), bk_cl (mq_t K), mt_dm (mq_t (KW _ _ _)), nI_sh (τ 0 2) (show τ 0 2 < 8 by omega), e1, p_195_25 (mq_p (KW _ _ _)), p_195_26 (mq_p (KW _ _ _)), kc, kw, p_195_47 (mq_p (KW _ _ _)), in15, cl15, mq_A (KW _ _ _), eg, nI_and, nI_0eq (and_128 hi8), eq_true z, nI_ltB hM (hC7 i), eq_false (show ¬ ofM τ A n < smN τ 7 i by omega), gI_hW53, oV, nI_m1lt (hV i), nI_m1eq (hV i), sI_hW53, sI_hW54, sI_hW55, bvM, nI_1]
        | some p =>
          simp only [u291_65, u291_66, u291_67, u291_70, u291_71, u291_74, u291_75, u291_76, u291_79, u291_80, u291_81, u291_84, u291_86, u291_89, u291_91, u291_92, u291_93, u291_96, u291_98, u291_101, u291_103, u291_105, u291_106, u291_109, u291_111, u291_112, u291_113, u291_116, u291_118, u291_119, u291_122, u291_124, u291_125, u291_128, u291_131, u291_133, u291_134, u291_137, u291_140, u291_142, u291_143, u291_146, u291_149, u291_152, u291_153, u291_155, u291_158, u291_159, u291_161, u291_164, u291_165, u291_167, u291_170, u291_173, eq_self, q_nl0, q_nlI, q_nlR, not_false_eq_true, q_nz0, q_nz1, q_zv0, q_zv1, q_tl1, q_tl0, q_wif, q_swc, q_swn, List.cons_append, List.nil_append, if_true, if_false, e10, e01, Bool.false_eq_true, sh_195, sh_200, sh_227, p_195_13 (mq_p (KW _ _ _)), mt_k (mq_t (KW _ _ _)), bk_in (mq_t K), bk_cl (mq_t K), mt_dm (mq_t (KW _ _ _)), nI_sh (τ 0 2) (show τ 0 2 < 8 by omega), e1, p_195_25 (mq_p (KW _ _ _)), p_195_26 (mq_p (KW _ _ _)), kc, kw, p_195_47 (mq_p (KW _ _ _)), in15, cl15, mq_A (KW _ _ _), eg, nI_and, nI_0eq (and_128 hi8), eq_true z, nI_ltB hM (hC7 i), eq_false (show ¬ ofM τ A n < smN τ 7 i by omega), gI_hW53, gI_hW54, oV, nI_ltB (hV i) (hV p), nI_eqB (hV i) (hV p), nI_ltB (hC7 i) (hC7 p), sI_hW53, sI_hW54, sI_hW55, bvM, nI_1]
          by_cases v1 : smN τ 8 i < smN τ 8 p
          · simp only [eq_true v1, eq_false (show ¬ smN τ 8 p < smN τ 8 i by omega), eq_false (show ¬ smN τ 8 i = smN τ 8 p by omega), if_true, if_false]
          · by_cases v2 : smN τ 8 i = smN τ 8 p
            · by_cases v3 : smN τ 7 i < smN τ 7 p
              · simp only [eq_false v1, eq_true v2, eq_true v3, eq_false (show ¬ smN τ 8 p < smN τ 8 i by omega), if_true, if_false]
              · simp only [eq_false v1, eq_true v2, eq_false v3, eq_false (show ¬ smN τ 8 p < smN τ 8 i by omega), if_true, if_false]
            · simp only [eq_false v1, eq_false v2, eq_true (show smN τ 8 p < smN τ 8 i by omega), if_true, if_false]
      · have eb : bvS (ofP τ g (ofM τ A n)) (smN τ 8) (smN τ 7) i o = o := by
          refine if_neg ?_
          unfold ofP
          rw [decide_eq_false y, Bool.and_false]
          decide
        rw [eb]
        simp only [u291_65, u291_66, u291_67, u291_70, u291_71, u291_74, u291_75, u291_76, u291_79, u291_80, u291_81, u291_84, u291_86, u291_89, u291_91, u291_92, u291_93, u291_96, u291_98, u291_101, u291_103, u291_105, u291_106, u291_109, u291_111, u291_112, u291_113, u291_116, u291_118, u291_119, u291_170, u291_173, eq_self, q_nl0, q_nlI, q_nlR, not_false_eq_true, q_nz0, q_nz1, q_zv0, q_zv1, q_tl1, q_tl0, q_wif, q_swc, q_swn, List.cons_append, List.nil_append, if_true, if_false, e10, e01, Bool.false_eq_true, sh_195, sh_200, sh_227, p_195_13 (mq_p (KW _ _ _)), mt_k (mq_t (KW _ _ _)), bk_in (mq_t K), bk_cl (mq_t K), mt_dm (mq_t (KW _ _ _)), nI_sh (τ 0 2) (show τ 0 2 < 8 by omega), e1, p_195_25 (mq_p (KW _ _ _)), p_195_26 (mq_p (KW _ _ _)), kc, kw, p_195_47 (mq_p (KW _ _ _)), in15, cl15, mq_A (KW _ _ _), eg, nI_and, nI_0eq (and_128 hi8), eq_true z, nI_ltB hM (hC7 i), eq_true (show ofM τ A n < smN τ 7 i by omega), nI_1]
    · have eb : bvS (ofP τ g (ofM τ A n)) (smN τ 8) (smN τ 7) i o = o := by
        refine if_neg ?_
        unfold ofP
        simp only [free_sub (show τ 0 2 ≤ 7 by omega) hi8]
        rw [decide_eq_false (fun w => z w.2), Bool.false_and]
        decide
      rw [eb]
      simp only [u291_65, u291_66, u291_67, u291_70, u291_71, u291_74, u291_75, u291_76, u291_79, u291_80, u291_81, u291_84, u291_86, u291_89, u291_91, u291_92, u291_93, u291_96, u291_98, u291_101, u291_103, u291_105, u291_106, u291_109, u291_111, u291_112, u291_113, u291_116, u291_118, u291_119, u291_170, u291_173, eq_self, q_nl0, q_nlI, q_nlR, not_false_eq_true, q_nz0, q_nz1, q_zv0, q_zv1, q_tl1, q_tl0, q_wif, q_swc, q_swn, List.cons_append, List.nil_append, if_true, if_false, e10, e01, Bool.false_eq_true, sh_195, sh_200, sh_227, p_195_13 (mq_p (KW _ _ _)), mt_k (mq_t (KW _ _ _)), bk_in (mq_t K), bk_cl (mq_t K), mt_dm (mq_t (KW _ _ _)), nI_sh (τ 0 2) (show τ 0 2 < 8 by omega), e1, p_195_25 (mq_p (KW _ _ _)), p_195_26 (mq_p (KW _ _ _)), kc, kw, p_195_47 (mq_p (KW _ _ _)), in15, cl15, mq_A (KW _ _ _), eg, nI_and, nI_0eq (and_128 hi8), eq_false z, nI_1]) (none, none)
  refine Eq.trans e ?_
  have KW : ∀ p q r, KQ (hW g3 p q r) b f τ N A := fun p q r => KQ_same Same_hW K3
  show wq X (d + 8) 291 63 _ _ _ _ = _
  rw [u291_63, hq]
  simp only [u291_65, u291_66, u291_67, u291_70, u291_71, u291_74, u291_75, u291_76, u291_176, eq_self, q_nl0, q_nlI, q_nlR, not_false_eq_true, q_nz0, q_nz1, q_zv0, q_zv1, q_tl1, q_tl0, q_wif, q_swc, q_swn, List.cons_append, List.nil_append, if_true, if_false, e10, e01, Bool.false_eq_true, sh_195, sh_200, p_195_13 (mq_p (KW _ _ _)), mt_k (mq_t (KW _ _ _)), bk_in (mq_t K), bk_cl (mq_t K), mt_dm (mq_t (KW _ _ _)), nI_sh (τ 0 2) (show τ 0 2 < 8 by omega), eq_false (nI_nlt (Nat.le_refl (2 ^ τ 0 2)) (show 2 ^ τ 0 2 < 2 ^ 31 by omega)), oV]
theorem b_offer {X : XT} {d T b f N : Nat} {h : HT} {τ : CT} {A : Nat → Int32} (H : CQ h T τ N A) (K : KQ h b f τ N A) (x w : Int32) : Pr X (d + 10) 166 [some (.ref 1), some (.int x), some (.int w)] 290 [some (.ref 195), some (.int x), some (.int w)] h := by
  have hp := cq_p H
  have hk := cq_k H
  have h5 := o_dm hk
  obtain ⟨gr, hg', eg⟩ := (cq_a H).2.1
  have hg := aGr_128 hk hg'
  have h01 : 0 < 2 ^ τ 0 2 := Nat.two_pow_pos _
  have hx := ix_k1 (x := x) (k := 60) (by decide) (by decide)
  have hw := ix_k1 (x := w) (k := 3) (by decide) (by decide)
  rw [show nI (60 - 1) = 59 from rfl] at hx
  rw [show nI (3 - 1) = 2 from rfl] at hw
  have kx := fun (Q : QT) (h : HT) => k_isIn (X := X) (d := d + 9) (h := h) (Q := Q) (x := x) (a := 0) (b := 59)
  have kw := fun (Q : QT) (h : HT) => k_isIn (X := X) (d := d + 9) (h := h) (Q := Q) (x := w) (a := 0) (b := 2)
  rcases ix_cases x (k := 60) (by decide) with ⟨n, hn, ex, ix⟩ | ix
  · rw [ix, if_pos rfl] at hx
    simp only [hx] at kx
    rcases ix_cases w (k := 3) (by decide) with ⟨u, hu, ew, iw⟩ | iw
    · rw [iw, if_pos rfl] at hw
      simp only [hw] at kw
      subst ex
      have hx0 : (nI n < 0) = False := oI_lt0 (by omega)
      have hx1 : (nI n < 60) = True := eq_true (nI_lt (b := 60) hn (by decide))
      have hw0 : (w < 0) = False := by rw [ew]; exact oI_lt0 (by omega)
      have hw1 : (2 < w) = False := by rw [ew]; exact eq_false (nI_nlt (a := 2) (by omega) (by omega))
      obtain ⟨q, hq⟩ := of_some (τ := τ) (g := gr) (M := ofM τ A n) (2 ^ τ 0 2) h01
      have hM : ofM τ A n < 2 ^ 31 := by
        have hE := ofE_ge (τ := τ) (A := A) (show n ≤ 60 by omega)
        have := aCs_le (A := A) hk (ofE τ A n)
        unfold ofM
        omega
      have cl : ∃ g, Same h (hP g (bvP (smN τ 8) (smN τ 7) (some q))) ∧ ∀ Q : QT, wq X (d + 10) 166 0 [some (.ref 1), some (.int (nI n)), some (.int w)] [] h Q = wq X (d + 10) 166 50 [some (.ref 1), some (.int (nI n)), some (.int w)] [] (hP g (bvP (smN τ 8) (smN τ 7) (some q))) Q := by
        obtain ⟨g, a1, a2, a3⟩ := c_look (X := X) (d := d + 4) H (Nat.le_refl 60)
        have C := CQ_same a1 H
        have a3' : ∀ Q : QT, wq X (d + 9) 104 0 [some (.ref 171), some (.ref T), some (.ref 38), some (.int 60), none, none] [] h Q = Q none g := a3
        refine ⟨g, Same_tr a1 Same_hP, fun Q => ?_⟩
        simp only [u166_0, u166_1, u166_4, u166_5, u166_7, u166_10, u166_11, u166_14, u166_15, u166_16, u166_19, u166_20, u166_21, u166_22, u166_25, u166_26, u166_29, u166_30, u166_33, u166_35, eq_self, q_nl0, q_nlI, q_nlR, not_false_eq_true, q_nz0, q_nz1, q_zv0, q_zv1, q_tl1, q_tl0, q_wif, q_swc, q_swn, List.cons_append, List.nil_append, if_true, if_false, e10, e01, Bool.false_eq_true, sh_1, sh_171, hx0, hx1, hw0, hw1, p_1_8 hp, cq_T H, p_1_3 hp, a3']
        simp only [u166_38, u166_39, u166_40, u166_43, u166_44, u166_47, eq_self, q_nl0, q_nlI, q_nlR, not_false_eq_true, q_nz0, q_nz1, q_zv0, q_zv1, q_tl1, q_tl0, q_wif, q_swc, q_swn, List.cons_append, List.nil_append, if_true, if_false, e10, e01, Bool.false_eq_true, sh_1, sh_171, p_1_8 (cq_p C), c_lostFrom (cq_p C) hk (cq_a H) a2 (show n ≤ 60 by omega), c_pickOffer C hg eg hM hq]
      have ml : ∀ g, KQ g b f τ N A → ∃ g', Same g g' ∧ m_gI g' 195 53 = nI (smN τ 8 q) ∧ m_gI g' 195 54 = nI (smN τ 7 q) ∧ m_gI g' 195 55 = nI q ∧ ∀ Q : QT, wq X (d + 10) 290 0 [some (.ref 195), some (.int (nI n)), some (.int w)] [] g Q = wq X (d + 10) 290 26 [some (.ref 195), some (.int (nI n)), some (.int w)] [] g' Q := by
        intro g K0
        obtain ⟨g', b1, b2, b3, b4, b5⟩ := k_layOffer (X := X) (d := d + 1) K0 hg eg (show n ≤ 59 by omega) hq
        refine ⟨g', b1, b2, b3, b4, fun Q => ?_⟩
        simp only [u290_0, u290_1, u290_2, u290_4, u290_7, u290_10, u290_11, u290_12, u290_13, u290_16, u290_19, u290_20, u290_21, u290_22, u290_23, eq_self, q_nl0, q_nlI, q_nlR, not_false_eq_true, q_nz0, q_nz1, q_zv0, q_zv1, q_tl1, q_tl0, q_wif, q_swc, q_swn, List.cons_append, List.nil_append, if_true, if_false, e10, e01, Bool.false_eq_true, sh_195, kx, kw, b5]
      obtain ⟨gc, gc1, ec⟩ := cl
      have pg : m_gR gc 1 9 = 178 := by
        have := p_1_9 (Same_p gc1 hp)
        exact this
      by_cases w0 : w = 0
      · refine Pr_of (nI (smN τ 8 q)) ⟨_, gc1, fun Q => ?_⟩ (fun g a => ?_)
        · rw [ec]
          simp only [u166_50, u166_51, u166_76, u166_77, u166_80, u166_83, u166_84, u166_85, u166_88, u166_91, u166_92, u166_93, u166_96, u166_99, eq_self, q_nl0, q_nlI, q_nlR, not_false_eq_true, q_nz0, q_nz1, q_zv0, q_zv1, q_tl1, q_tl0, q_wif, q_swc, q_swn, List.cons_append, List.nil_append, if_true, if_false, e10, e01, Bool.false_eq_true, sh_1, sh_178, q_t0, eq_true w0, gR_hP, pg, gI_hP1, bvP]
        · obtain ⟨g', b1, b2, b3, b4, b5⟩ := ml g (KQ_same a K)
          refine ⟨g', b1, fun Q => ?_⟩
          rw [b5]
          simp only [u290_26, u290_27, u290_30, u290_31, u290_34, u290_37, u290_38, u290_39, u290_42, u290_43, u290_46, u290_49, u290_50, u290_53, eq_self, q_nl0, q_nlI, q_nlR, not_false_eq_true, q_nz0, q_nz1, q_zv0, q_zv1, q_tl1, q_tl0, q_wif, q_swc, q_swn, List.cons_append, List.nil_append, if_true, if_false, e10, e01, Bool.false_eq_true, sh_195, eq_true w0, b2]
      · by_cases w1 : w = 1
        · refine Pr_of (nI (smN τ 7 q)) ⟨_, gc1, fun Q => ?_⟩ (fun g a => ?_)
          · rw [ec]
            simp only [u166_50, u166_51, u166_76, u166_77, u166_80, u166_83, u166_84, u166_85, u166_88, u166_91, u166_92, u166_93, u166_96, u166_99, eq_self, q_nl0, q_nlI, q_nlR, not_false_eq_true, q_nz0, q_nz1, q_zv0, q_zv1, q_tl1, q_tl0, q_wif, q_swc, q_swn, List.cons_append, List.nil_append, if_true, if_false, e10, e01, Bool.false_eq_true, sh_1, sh_178, q_t0, q_t1, eq_false w0, eq_true w1, gR_hP, pg, gI_hP2, bvP]
          · obtain ⟨g', b1, b2, b3, b4, b5⟩ := ml g (KQ_same a K)
            refine ⟨g', b1, fun Q => ?_⟩
            rw [b5]
            simp only [u290_26, u290_27, u290_30, u290_31, u290_34, u290_37, u290_38, u290_39, u290_42, u290_43, u290_46, u290_49, u290_50, u290_53, eq_self, q_nl0, q_nlI, q_nlR, not_false_eq_true, q_nz0, q_nz1, q_zv0, q_zv1, q_tl1, q_tl0, q_wif, q_swc, q_swn, List.cons_append, List.nil_append, if_true, if_false, e10, e01, Bool.false_eq_true, sh_195, eq_false w0, eq_true w1, b3]
        · refine Pr_of (nI q) ⟨_, gc1, fun Q => ?_⟩ (fun g a => ?_)
          · rw [ec]
            simp only [u166_50, u166_51, u166_76, u166_77, u166_80, u166_83, u166_84, u166_85, u166_88, u166_91, u166_92, u166_93, u166_96, u166_99, eq_self, q_nl0, q_nlI, q_nlR, not_false_eq_true, q_nz0, q_nz1, q_zv0, q_zv1, q_tl1, q_tl0, q_wif, q_swc, q_swn, List.cons_append, List.nil_append, if_true, if_false, e10, e01, Bool.false_eq_true, sh_1, sh_178, q_t0, q_t1, eq_false w0, eq_false w1, gR_hP, pg, gI_hP3, bvP]
          · obtain ⟨g', b1, b2, b3, b4, b5⟩ := ml g (KQ_same a K)
            refine ⟨g', b1, fun Q => ?_⟩
            rw [b5]
            simp only [u290_26, u290_27, u290_30, u290_31, u290_34, u290_37, u290_38, u290_39, u290_42, u290_43, u290_46, u290_49, u290_50, u290_53, eq_self, q_nl0, q_nlI, q_nlR, not_false_eq_true, q_nz0, q_nz1, q_zv0, q_zv1, q_tl1, q_tl0, q_wif, q_swc, q_swn, List.cons_append, List.nil_append, if_true, if_false, e10, e01, Bool.false_eq_true, sh_195, eq_false w0, eq_false w1, b4]
    · rw [iw, if_neg Bool.false_ne_true] at hw
      simp only [hw] at kw
      subst ex
      have hx0 : (nI n < 0) = False := oI_lt0 (by omega)
      have hx1 : (nI n < 60) = True := eq_true (nI_lt (b := 60) hn (by decide))
      refine Pr_pure (-1) (fun Q => ?_) (fun Q => ?_)
      · by_cases x0 : w < 0
        · simp only [u166_0, u166_1, u166_4, u166_5, u166_7, u166_10, u166_11, u166_14, u166_15, u166_16, u166_19, u166_20, eq_self, q_nl0, q_nlI, q_nlR, not_false_eq_true, q_nz0, q_nz1, q_zv0, q_zv1, q_tl1, q_tl0, q_wif, q_swc, q_swn, List.cons_append, List.nil_append, if_true, if_false, e10, e01, Bool.false_eq_true, hx0, hx1, eq_true x0]
        · by_cases x1 : 2 < w
          · simp only [u166_0, u166_1, u166_4, u166_5, u166_7, u166_10, u166_11, u166_14, u166_15, u166_16, u166_19, u166_20, eq_self, q_nl0, q_nlI, q_nlR, not_false_eq_true, q_nz0, q_nz1, q_zv0, q_zv1, q_tl1, q_tl0, q_wif, q_swc, q_swn, List.cons_append, List.nil_append, if_true, if_false, e10, e01, Bool.false_eq_true, hx0, hx1, eq_false x0, eq_true x1]
          · rw [if_neg x0, if_neg x1] at hw
            exact absurd hw (by decide)
      · simp only [u290_0, u290_1, u290_2, u290_4, u290_7, u290_10, u290_11, u290_12, u290_13, u290_16, u290_19, u290_20, eq_self, q_nl0, q_nlI, q_nlR, not_false_eq_true, q_nz0, q_nz1, q_zv0, q_zv1, q_tl1, q_tl0, q_wif, q_swc, q_swn, List.cons_append, List.nil_append, if_true, if_false, e10, e01, Bool.false_eq_true, kx, kw]
  · rw [ix, if_neg Bool.false_ne_true] at hx
    simp only [hx] at kx
    refine Pr_pure (-1) (fun Q => ?_) (fun Q => ?_)
    · by_cases x0 : x < 0
      · simp only [u166_0, u166_1, u166_4, u166_5, u166_7, u166_10, u166_11, u166_14, u166_15, u166_16, u166_19, u166_20, eq_self, q_nl0, q_nlI, q_nlR, not_false_eq_true, q_nz0, q_nz1, q_zv0, q_zv1, q_tl1, q_tl0, q_wif, q_swc, q_swn, List.cons_append, List.nil_append, if_true, if_false, e10, e01, Bool.false_eq_true, eq_true x0]
      · by_cases x1 : x < 60
        · have h1 : ¬ x.toInt < 0 := fun z => x0 (Int32.lt_iff_toInt_lt.mpr z)
          have h2 := Int32.lt_iff_toInt_lt.mp x1
          have h3 : x.toInt < 60 := h2
          have : ixB x 60 = true := decide_eq_true ⟨by omega, by omega⟩
          rw [this] at ix
          cases ix
        · simp only [u166_0, u166_1, u166_4, u166_5, u166_7, u166_10, u166_11, u166_14, u166_15, u166_16, u166_19, u166_20, eq_self, q_nl0, q_nlI, q_nlR, not_false_eq_true, q_nz0, q_nz1, q_zv0, q_zv1, q_tl1, q_tl0, q_wif, q_swc, q_swn, List.cons_append, List.nil_append, if_true, if_false, e10, e01, Bool.false_eq_true, eq_false x0, eq_false x1]
    · simp only [u290_0, u290_1, u290_2, u290_4, u290_7, u290_10, u290_11, u290_12, u290_13, u290_16, u290_19, u290_20, eq_self, q_nl0, q_nlI, q_nlR, not_false_eq_true, q_nz0, q_nz1, q_zv0, q_zv1, q_tl1, q_tl0, q_wif, q_swc, q_swn, List.cons_append, List.nil_append, if_true, if_false, e10, e01, Bool.false_eq_true, kx]
/-- until: the last day, from day k - 1 down -/
def unW (τ : CT) (A : Nat → Int32) (g n : Nat) : Nat := match ofF τ g (ofM τ A n) (2 ^ τ 0 2) with
  | none => 0
  | some q => smN τ 8 q
def unO (τ : CT) (A : Nat → Int32) (g : Nat) (x : Int32) : Nat → Option Nat
  | 0 => none
  | k + 1 => if nI (unW τ A g k) < x then unO τ A g x k else some k
theorem b_until {X : XT} {d T b f N : Nat} {h : HT} {τ : CT} {A : Nat → Int32} (H : CQ h T τ N A) (K : KQ h b f τ N A) (x : Int32) : Pr X (d + 10) 169 [some (.ref 1), some (.int x), none] 293 [some (.ref 195), some (.int x), none] h := by
  have hp := cq_p H
  have hk := cq_k H
  have h5 := o_dm hk
  obtain ⟨gr, hg', eg⟩ := (cq_a H).2.1
  have hg := aGr_128 hk hg'
  have h01 : 0 < 2 ^ τ 0 2 := Nat.two_pow_pos _
  have hMM : ∀ n, n ≤ 60 → ofM τ A n < 2 ^ 31 := fun n hn => by
    have hE := ofE_ge (τ := τ) (A := A) hn
    have := aCs_le (A := A) hk (ofE τ A n)
    unfold ofM
    omega
  refine Pr_of (oI (unO τ A gr x 60)) ?_ ?_
  · obtain ⟨g, a1, a2, a3⟩ := c_look (X := X) (d := d + 4) H (Nat.le_refl 60)
    have a3' : ∀ Q : QT, wq X (d + 9) 104 0 [some (.ref 171), some (.ref T), some (.ref 38), some (.int 60), none, none] [] h Q = Q none g := a3
    have C := CQ_same a1 H
    have lp : ∀ k o, k ≤ 60 → ∃ o', ∀ Q : QT, wq X (d + 10) 169 20 [some (.ref 1), some (.int x), some (.int (nI k - 1))] [] (hP g o) Q = Q (some (.int (oI (unO τ A gr x k)))) (hP g o') := by
      intro k
      induction k with
      | zero =>
        intro o _
        refine ⟨o, fun Q => ?_⟩
        simp only [u169_20, u169_21, u169_55, u169_56, eq_self, q_nl0, q_nlI, q_nlR, not_false_eq_true, q_nz0, q_nz1, q_zv0, q_zv1, q_tl1, q_tl0, q_wif, q_swc, q_swn, List.cons_append, List.nil_append, if_true, if_false, e10, e01, Bool.false_eq_true, show nI 0 - 1 = (-1 : Int32) from rfl, m1_lt0]
        rfl
      | succ k ih =>
        intro o hk2
        obtain ⟨q, hq⟩ := of_some (τ := τ) (g := gr) (M := ofM τ A k) (2 ^ τ 0 2) h01
        have eW : unW τ A gr k = smN τ 8 q := by
          unfold unW
          rw [hq]
        have C2 := CQ_same (Same_hP (o := o)) C
        have nt : Noted τ A 60 (hP g o) := fun j hj => by
          rw [gI_hP (by omega), gI_hP (by omega), gI_hP (by omega)]
          exact a2 j hj
        have pg : ∀ p, m_gR (hP g p) 1 9 = 178 := fun p => p_1_9 (cq_p (CQ_same (Same_hP (o := p)) C))
        obtain ⟨o', e⟩ := ih (bvP (smN τ 8) (smN τ 7) (some q)) (by omega)
        have cp := fun (Q : QT) => c_pickOffer (X := X) (d := d + 7) (Q := Q) C2 hg eg (hMM k (by omega)) hq
        simp only [hP_hP] at cp
        by_cases y : nI (smN τ 8 q) < x
        · refine ⟨o', fun Q => ?_⟩
          have eu : unO τ A gr x (k + 1) = unO τ A gr x k := by
            show (if nI (unW τ A gr k) < x then _ else _) = _
            rw [eW, if_pos y]
          rw [eu, ← e Q, nI_dn, u169_20]
          simp only [u169_21, u169_24, u169_25, u169_26, u169_29, u169_30, u169_33, eq_self, q_nl0, q_nlI, q_nlR, not_false_eq_true, q_nz0, q_nz1, q_zv0, q_zv1, q_tl1, q_tl0, q_wif, q_swc, q_swn, List.cons_append, List.nil_append, if_true, if_false, e10, e01, Bool.false_eq_true, sh_1, sh_171, oI_lt0 (show k < 2 ^ 31 by omega), p_1_8 (cq_p C2), c_lostFrom (cq_p C2) hk (cq_a H) nt (show k ≤ 60 by omega), cp]
          simp only [u169_36, u169_37, u169_40, u169_43, u169_44, u169_47, u169_48, u169_49, u169_52, eq_self, q_nl0, q_nlI, q_nlR, not_false_eq_true, q_nz0, q_nz1, q_zv0, q_zv1, q_tl1, q_tl0, q_wif, q_swc, q_swn, List.cons_append, List.nil_append, if_true, if_false, e10, e01, Bool.false_eq_true, sh_1, sh_178, pg, gI_hP1, bvP, eq_true y]
          rw [Int32.sub_eq_add_neg]
        · refine ⟨bvP (smN τ 8) (smN τ 7) (some q), fun Q => ?_⟩
          have eu : unO τ A gr x (k + 1) = some k := by
            show (if nI (unW τ A gr k) < x then _ else _) = _
            rw [eW, if_neg y]
          rw [eu, nI_dn]
          simp only [u169_20, u169_21, u169_24, u169_25, u169_26, u169_29, u169_30, u169_33, eq_self, q_nl0, q_nlI, q_nlR, not_false_eq_true, q_nz0, q_nz1, q_zv0, q_zv1, q_tl1, q_tl0, q_wif, q_swc, q_swn, List.cons_append, List.nil_append, if_true, if_false, e10, e01, Bool.false_eq_true, sh_1, sh_171, oI_lt0 (show k < 2 ^ 31 by omega), p_1_8 (cq_p C2), c_lostFrom (cq_p C2) hk (cq_a H) nt (show k ≤ 60 by omega), cp]
          simp only [u169_36, u169_37, u169_40, u169_43, u169_44, u169_47, u169_48, u169_49, u169_52, eq_self, q_nl0, q_nlI, q_nlR, not_false_eq_true, q_nz0, q_nz1, q_zv0, q_zv1, q_tl1, q_tl0, q_wif, q_swc, q_swn, List.cons_append, List.nil_append, if_true, if_false, e10, e01, Bool.false_eq_true, sh_1, sh_178, pg, gI_hP1, bvP, eq_false y, oI]
    have hg0 : hP g (some (m_gI g 178 1, m_gI g 178 2, m_gI g 178 3)) = g ∨ True := Or.inr trivial
    -- the first day has no pick laid yet
    obtain ⟨q, hq⟩ := of_some (τ := τ) (g := gr) (M := ofM τ A 59) (2 ^ τ 0 2) h01
    have eW : unW τ A gr 59 = smN τ 8 q := by
      unfold unW
      rw [hq]
    have pg : ∀ p, m_gR (hP g p) 1 9 = 178 := fun p => p_1_9 (cq_p (CQ_same (Same_hP (o := p)) C))
    have cp := fun (Q : QT) => c_pickOffer (X := X) (d := d + 7) (Q := Q) C hg eg (hMM 59 (by omega)) hq
    obtain ⟨o', e⟩ := lp 59 (bvP (smN τ 8) (smN τ 7) (some q)) (by omega)
    have cf := fun (Q : QT) => c_lostFrom (X := X) (d := d + 8) (Q := Q) (n := 59) (cq_p C) hk (cq_a H) a2 (by omega)
    have cf' : ∀ Q : QT, wq X (d + 9) 167 0 [some (.ref 171), some (.int 59), none] [] g Q = Q (some (.int (nI (ofM τ A 59)))) g := cf
    by_cases y : nI (smN τ 8 q) < x
    · refine ⟨hP g o', Same_tr a1 Same_hP, fun Q => ?_⟩
      have eu : unO τ A gr x 60 = unO τ A gr x 59 := by
        show (if nI (unW τ A gr 59) < x then _ else _) = _
        rw [eW, if_pos y]
      rw [eu]
      refine Eq.trans ?_ (e Q)
      generalize hR : wq X (d + 10) 169 20 [some (.ref 1), some (.int x), some (.int (nI 59 - 1))] [] (hP g (bvP (smN τ 8) (smN τ 7) (some q))) Q = R
      simp only [u169_0, u169_1, u169_4, u169_5, u169_8, u169_9, u169_12, u169_14, eq_self, q_nl0, q_nlI, q_nlR, not_false_eq_true, q_nz0, q_nz1, q_zv0, q_zv1, q_tl1, q_tl0, q_wif, q_swc, q_swn, List.cons_append, List.nil_append, if_true, if_false, e10, e01, Bool.false_eq_true, sh_1, sh_171, p_1_8 hp, cq_T H, p_1_3 hp, a3']
      rw [u169_17]
      simp only [u169_19, u169_20, u169_21, u169_24, u169_25, u169_26, u169_29, u169_30, u169_33, eq_self, q_nl0, q_nlI, q_nlR, not_false_eq_true, q_nz0, q_nz1, q_zv0, q_zv1, q_tl1, q_tl0, q_wif, q_swc, q_swn, List.cons_append, List.nil_append, if_true, if_false, e10, e01, Bool.false_eq_true, sh_1, sh_171, eq_false (show ¬ (59 : Int32) < 0 by decide), p_1_8 (cq_p C), cf', cp]
      rw [← hR]
      simp only [u169_36, u169_37, u169_40, u169_43, u169_44, u169_47, u169_48, u169_49, u169_52, eq_self, q_nl0, q_nlI, q_nlR, not_false_eq_true, q_nz0, q_nz1, q_zv0, q_zv1, q_tl1, q_tl0, q_wif, q_swc, q_swn, List.cons_append, List.nil_append, if_true, if_false, e10, e01, Bool.false_eq_true, sh_1, sh_178, pg, gI_hP1, bvP, eq_true y]
      rfl
    · refine ⟨hP g (bvP (smN τ 8) (smN τ 7) (some q)), Same_tr a1 Same_hP, fun Q => ?_⟩
      have eu : unO τ A gr x 60 = some 59 := by
        show (if nI (unW τ A gr 59) < x then _ else _) = _
        rw [eW, if_neg y]
      rw [eu]
      simp only [u169_0, u169_1, u169_4, u169_5, u169_8, u169_9, u169_12, u169_14, eq_self, q_nl0, q_nlI, q_nlR, not_false_eq_true, q_nz0, q_nz1, q_zv0, q_zv1, q_tl1, q_tl0, q_wif, q_swc, q_swn, List.cons_append, List.nil_append, if_true, if_false, e10, e01, Bool.false_eq_true, sh_1, sh_171, p_1_8 hp, cq_T H, p_1_3 hp, a3']
      simp only [u169_17, u169_19, u169_20, u169_21, u169_24, u169_25, u169_26, u169_29, u169_30, u169_33, eq_self, q_nl0, q_nlI, q_nlR, not_false_eq_true, q_nz0, q_nz1, q_zv0, q_zv1, q_tl1, q_tl0, q_wif, q_swc, q_swn, List.cons_append, List.nil_append, if_true, if_false, e10, e01, Bool.false_eq_true, sh_1, sh_171, eq_false (show ¬ (59 : Int32) < 0 by decide), p_1_8 (cq_p C), cf', cp]
      simp only [u169_36, u169_37, u169_40, u169_43, u169_44, u169_47, u169_48, u169_49, u169_52, eq_self, q_nl0, q_nlI, q_nlR, not_false_eq_true, q_nz0, q_nz1, q_zv0, q_zv1, q_tl1, q_tl0, q_wif, q_swc, q_swn, List.cons_append, List.nil_append, if_true, if_false, e10, e01, Bool.false_eq_true, sh_1, sh_178, pg, gI_hP1, bvP, eq_false y, oI]
      rfl
  · intro g0 a0
    have K0 := KQ_same a0 K
    have lp : ∀ k g, k ≤ 60 → KQ g b f τ N A → ∃ g', Same g g' ∧ ∀ Q : QT, wq X (d + 10) 293 3 [some (.ref 195), some (.int x), some (.int (nI k - 1))] [] g Q = Q (some (.int (oI (unO τ A gr x k)))) g' := by
      intro k
      induction k with
      | zero =>
        intro g _ K'
        refine ⟨g, Same_rf, fun Q => ?_⟩
        simp only [u293_3, u293_4, u293_28, u293_29, eq_self, q_nl0, q_nlI, q_nlR, not_false_eq_true, q_nz0, q_nz1, q_zv0, q_zv1, q_tl1, q_tl0, q_wif, q_swc, q_swn, List.cons_append, List.nil_append, if_true, if_false, e10, e01, Bool.false_eq_true, show nI 0 - 1 = (-1 : Int32) from rfl, m1_lt0]
        rfl
      | succ k ih =>
        intro g hk2 K'
        obtain ⟨q, hq⟩ := of_some (τ := τ) (g := gr) (M := ofM τ A k) (2 ^ τ 0 2) h01
        have eW : unW τ A gr k = smN τ 8 q := by
          unfold unW
          rw [hq]
        obtain ⟨g1, b1, b2, b3, b4, b5⟩ := k_layOffer (X := X) (d := d + 1) K' hg eg (show k ≤ 59 by omega) hq
        by_cases y : nI (smN τ 8 q) < x
        · obtain ⟨g2, c1, c2⟩ := ih g1 (by omega) (KQ_same b1 K')
          refine ⟨g2, Same_tr b1 c1, fun Q => ?_⟩
          have eu : unO τ A gr x (k + 1) = unO τ A gr x k := by
            show (if nI (unW τ A gr k) < x then _ else _) = _
            rw [eW, if_pos y]
          rw [eu, ← c2 Q, nI_dn, u293_3]
          simp only [u293_4, u293_7, u293_8, u293_9, eq_self, q_nl0, q_nlI, q_nlR, not_false_eq_true, q_nz0, q_nz1, q_zv0, q_zv1, q_tl1, q_tl0, q_wif, q_swc, q_swn, List.cons_append, List.nil_append, if_true, if_false, e10, e01, Bool.false_eq_true, sh_195, oI_lt0 (show k < 2 ^ 31 by omega), b5]
          simp only [u293_12, u293_13, u293_16, u293_17, u293_20, u293_21, u293_22, u293_25, eq_self, q_nl0, q_nlI, q_nlR, not_false_eq_true, q_nz0, q_nz1, q_zv0, q_zv1, q_tl1, q_tl0, q_wif, q_swc, q_swn, List.cons_append, List.nil_append, if_true, if_false, e10, e01, Bool.false_eq_true, sh_195, b2, eq_true y]
          rw [Int32.sub_eq_add_neg]
        · refine ⟨g1, b1, fun Q => ?_⟩
          have eu : unO τ A gr x (k + 1) = some k := by
            show (if nI (unW τ A gr k) < x then _ else _) = _
            rw [eW, if_neg y]
          rw [eu, nI_dn]
          simp only [u293_3, u293_4, u293_7, u293_8, u293_9, eq_self, q_nl0, q_nlI, q_nlR, not_false_eq_true, q_nz0, q_nz1, q_zv0, q_zv1, q_tl1, q_tl0, q_wif, q_swc, q_swn, List.cons_append, List.nil_append, if_true, if_false, e10, e01, Bool.false_eq_true, sh_195, oI_lt0 (show k < 2 ^ 31 by omega), b5]
          simp only [u293_12, u293_13, u293_16, u293_17, u293_20, u293_21, u293_22, u293_25, eq_self, q_nl0, q_nlI, q_nlR, not_false_eq_true, q_nz0, q_nz1, q_zv0, q_zv1, q_tl1, q_tl0, q_wif, q_swc, q_swn, List.cons_append, List.nil_append, if_true, if_false, e10, e01, Bool.false_eq_true, sh_195, b2, eq_false y, oI]
    obtain ⟨g', q1, q2⟩ := lp 60 g0 (Nat.le_refl _) K0
    refine ⟨g', q1, fun Q => ?_⟩
    simp only [u293_0, u293_2, eq_self, q_nl0, q_nlI, q_nlR, not_false_eq_true, q_nz0, q_nz1, q_zv0, q_zv1, q_tl1, q_tl0, q_wif, q_swc, q_swn, List.cons_append, List.nil_append, if_true, if_false, e10, e01, Bool.false_eq_true]
    exact q2 Q
