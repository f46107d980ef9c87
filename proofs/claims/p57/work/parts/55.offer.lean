/-! offer -/
def smI (s : Nat) (r : Nat → Int32) (i : Nat) (t : Int32) : Int32 := if s.testBit i = true then t + r i else t
def smS (s : Nat) (r : Nat → Nat) (i t : Nat) : Nat := if s.testBit i = true then t + r i else t
/-- the sum of a row over a set -/
def smN (τ : CT) (j s : Nat) : Nat := fL (smS s (τ j)) 0 (τ 0 2)
theorem c_sumOf {X : XT} {d a s : Nat} {h : HT} {Q : QT} (ha : m_sh (KS X) a = (20, 5)) (hs : s < 128) : wq X d 75 0 [some (.ref a), some (.int (nI s)), none, none] [] h Q = Q (some (.int (fL (smI s (m_gI h a)) 0 5))) h := by
  have ea : (Nat.ble 20 20 && Nat.blt 20 99) = true := by decide
  simp only [u75_0, u75_1, u75_2, u75_3, eq_self, q_nl0, q_nlI, q_nlR, not_false_eq_true, q_nz0, q_nz1, q_zv0, q_zv1, q_tl1, q_tl0, q_wif, q_swc, q_swn, List.cons_append, List.nil_append, if_true, if_false, e10, e01, Bool.false_eq_true]
  refine (q_loop (fun i => wq X d 75 4 [some (.ref a), some (.int (nI s)), some (.int (fL (smI s (m_gI h a)) 0 i)), some (.int (nI i))] [] h Q) 5 ?_).trans ?_
  · intro i hi
    have hb := bit01 hs (show i < 8 by omega)
    have e2 : (nI i < Int32.ofNat 5) = True := eq_true (nI_lt (b := 5) (by omega) (by omega))
    have e3 : m_in (nI i) 5 = true := q_in (by omega) (by decide)
    have e4 : (nI i).toNatClampNeg = i := q_cl (by omega)
    show wq X d 75 4 _ _ _ _ = _
    rw [u75_4, fL_s]
    unfold smI
    by_cases z : s.testBit i = true
    · simp only [u75_5, u75_6, u75_7, u75_10, u75_11, u75_12, u75_13, u75_14, u75_15, u75_16, u75_19, u75_20, u75_21, u75_22, u75_23, u75_24, u75_25, u75_28, eq_self, q_nl0, q_nlI, q_nlR, not_false_eq_true, q_nz0, q_nz1, q_zv0, q_zv1, q_tl1, q_tl0, q_wif, q_swc, q_swn, List.cons_append, List.nil_append, if_true, if_false, e10, e01, Bool.false_eq_true, ha, ea, e2, e3, e4, hb, z, nI_1]
    · simp only [u75_5, u75_6, u75_7, u75_10, u75_11, u75_12, u75_13, u75_14, u75_15, u75_16, u75_19, u75_20, u75_21, u75_22, u75_23, u75_24, u75_25, u75_28, eq_self, q_nl0, q_nlI, q_nlR, not_false_eq_true, q_nz0, q_nz1, q_zv0, q_zv1, q_tl1, q_tl0, q_wif, q_swc, q_swn, List.cons_append, List.nil_append, if_true, if_false, e10, e01, Bool.false_eq_true, ha, ea, e2, hb, z, nI_1]
  · rw [u75_4]
    simp only [u75_5, u75_6, u75_7, u75_10, u75_11, u75_12, u75_13, u75_14, u75_15, u75_16, u75_19, u75_20, u75_21, u75_22, u75_23, u75_24, u75_25, u75_28, u75_31, u75_32, eq_self, q_nl0, q_nlI, q_nlR, not_false_eq_true, q_nz0, q_nz1, q_zv0, q_zv1, q_tl1, q_tl0, q_wif, q_swc, q_swn, List.cons_append, List.nil_append, if_true, if_false, e10, e01, Bool.false_eq_true, ha, ea, eq_false (show ¬ nI 5 < Int32.ofNat 5 by decide)]
theorem sm_eq {τ : CT} {s j : Nat} {r : Nat → Int32} (h5 : τ 0 2 ≤ 5) (hs : s < 2 ^ τ 0 2) (hr : ∀ i, i < τ 0 2 → r i = nI (τ j i)) : fL (smI s r) 0 5 = nI (smN τ j s) := by
  rw [fL_to (s := smI s r) h5 (fun i o hi => if_neg (by rw [bit_ge hs hi]; decide))]
  unfold smN
  have : ∀ n, n ≤ τ 0 2 → fL (smI s r) 0 n = nI (fL (smS s (τ j)) 0 n) := by
    intro n
    induction n with
    | zero => exact fun _ => rfl
    | succ n ih =>
      intro hn
      rw [fL_s, fL_s, ih (by omega)]
      unfold smI smS
      split
      · rw [hr n (by omega), nI_add]
      · rfl
  exact this _ (Nat.le_refl _)
theorem smN_le {τ : CT} {j s : Nat} (hj : ∀ i, τ j i ≤ 999) (h5 : τ 0 2 ≤ 5) : smN τ j s ≤ 4995 := by
  have : ∀ n, fL (smS s (τ j)) 0 n ≤ 999 * n := by
    intro n
    induction n with
    | zero => exact Nat.le_refl _
    | succ n ih =>
      have := hj n
      rw [fL_s]
      unfold smS at ih ⊢
      split <;> omega
  have h1 := this (τ 0 2)
  unfold smN
  omega
/-- sets not granted -/
def sFree (τ : CT) (g : Nat) : Nat := (2 ^ τ 0 2 - 1) &&& (127 ^^^ g)
theorem free_sub {τ : CT} {g i : Nat} (h7 : τ 0 2 ≤ 7) (hi : i < 128) : (i &&& (127 ^^^ sFree τ g) = 0) = (i < 2 ^ τ 0 2 ∧ i &&& g = 0) := city_sub (τ := fun _ _ => τ 0 2) (n := g) h7 hi
def ofP (τ : CT) (g M i : Nat) : Bool := decide (i &&& (127 ^^^ sFree τ g) = 0) && decide (smN τ 7 i ≤ M)
def ofF (τ : CT) (g M : Nat) : Nat → Option Nat := fL (bvS (ofP τ g M) (smN τ 8) (smN τ 7)) none
theorem ofP_ge {τ : CT} {g M i : Nat} (h7 : τ 0 2 ≤ 7) (hi : i < 128) (h : 2 ^ τ 0 2 ≤ i) : ofP τ g M i = false := by
  unfold ofP
  simp only [free_sub h7 hi]
  rw [decide_eq_false (fun z => by omega), Bool.false_and]
theorem smN_0 {τ : CT} {j : Nat} : smN τ j 0 = 0 := by
  have : ∀ n, fL (smS 0 (τ j)) 0 n = 0 := by
    intro n
    induction n with
    | zero => rfl
    | succ n ih =>
      rw [fL_s, ih]
      unfold smS
      rw [Nat.zero_testBit, if_neg (by decide)]
  exact this _
theorem of_some {τ : CT} {g M : Nat} : ∀ n, 0 < n → ∃ q, ofF τ g M n = some q := by
  refine fO_some (s := bvS (ofP τ g M) (smN τ 8) (smN τ 7)) bvS_n (i0 := 0) ?_
  have : ofP τ g M 0 = true := by
    unfold ofP
    rw [Nat.zero_and, smN_0, decide_eq_true rfl, decide_eq_true (Nat.zero_le M)]
    rfl
  unfold bvS
  rw [if_pos this]
  exact Option.some_ne_none _
theorem c_pickOffer {X : XT} {d T N g M q : Nat} {h : HT} {Q : QT} {τ : CT} {A : Nat → Int32} (H : CQ h T τ N A) (hg : g < 32) (eg : A 15 = nI g) (hM : M < 2 ^ 31) (hq : ofF τ g M (2 ^ τ 0 2) = some q) : wq X (d + 2) 168 0 [some (.ref 1), some (.int (nI M)), none, none, none] [] h Q = Q none (hP h (bvP (smN τ 8) (smN τ 7) (some q))) := by
  have hp := cq_p H
  have hk := cq_k H
  have h5 := o_dm hk
  have hT := ct_T (cq_t H)
  have h32 : 2 ^ τ 0 2 ≤ 32 := Nat.pow_le_pow_right (n := 2) (j := 5) (by decide) h5
  have h01 : 0 < 2 ^ τ 0 2 := Nat.two_pow_pos _
  have ea : (1 : Int32) <<< (nI (τ 0 2) &&& 31) - 1 = nI (2 ^ τ 0 2 - 1) := nI_all _ (by omega)
  have ef : nI (2 ^ τ 0 2 - 1) &&& (nI g ^^^ (-1)) = nI (sFree τ g) := nI_not _ (by omega) _ (by omega)
  have hf : sFree τ g < 128 := and_128 (by omega)
  have hV : ∀ i, smN τ 8 i < 2 ^ 31 := fun i => by
    have := smN_le (τ := τ) (j := 8) (s := i) (fun k => by have := o_wo hk k; omega) h5
    omega
  have hC7 : ∀ i, smN τ 7 i < 2 ^ 31 := fun i => by
    have := smN_le (τ := τ) (j := 7) (s := i) (o_co hk) h5
    omega
  have hlt := fO_lt (bvS_o (p := ofP τ g M) (V := smN τ 8) (C := smN τ 7))
  have sh8 : m_sh (KS X) (T + 8) = (20, 5) := shT_8 hT
  have sh9 : m_sh (KS X) (T + 9) = (20, 5) := shT_9 hT
  simp only [u168_0, u168_1, u168_4, u168_7, u168_8, u168_9, u168_12, u168_15, u168_16, u168_17, u168_18, u168_19, u168_22, u168_25, u168_26, u168_27, u168_28, u168_29, u168_30, eq_self, q_nl0, q_nlI, q_nlR, not_false_eq_true, q_nz0, q_nz1, q_zv0, q_zv1, q_tl1, q_tl0, q_wif, q_swc, q_swn, List.cons_append, List.nil_append, if_true, if_false, e10, e01, Bool.false_eq_true, sh_1, sh_38, sh_178, shT_0 hT, p_1_9 hp, c_pClear, cq_T (CQ_same Same_hP H), ct_dm (cq_t (CQ_same Same_hP H)), ea, p_1_3 (cq_p (CQ_same Same_hP H)), cq_g (CQ_same Same_hP H), eg, ef]
  obtain ⟨l', e⟩ := q_loopL (fun i (l4 : Option Value) => wq X (d + 2) 168 31 [some (.ref 1), some (.int (nI M)), some (.int (nI (sFree τ g))), some (.int (nI i)), l4] [] (hP h (bvP (smN τ 8) (smN τ 7) (ofF τ g M i))) Q) 32 (by
    intro i hi l4
    refine ⟨some (.int (fL (smI i (m_gI h (T + 8))) 0 5)), ?_⟩
    have hl := hlt i
    show wq X (d + 2) 168 31 _ _ _ _ = _
    have es : ofF τ g M (i + 1) = bvS (ofP τ g M) (smN τ 8) (smN τ 7) i (ofF τ g M i) := fL_s
    have hl2 : ∀ b, ofF τ g M i = some b → b < i := hl
    rw [u168_31, es]
    generalize ofF τ g M i = o at hl2 ⊢
    have H' : ∀ p, CQ (hP h p) T τ N A := fun p => CQ_same Same_hP H
    have e1 : (nI i < 32) = True := eq_true (nI_lt (b := 32) hi (by decide))
    have hi8 : i < 128 := by omega
    have cs := fun (Q : QT) (p : PT3) => c_sumOf (X := X) (d := d + 1) (h := hP h p) (Q := Q) sh8 hi8
    have cw := fun (Q : QT) (p : PT3) => c_sumOf (X := X) (d := d + 1) (h := hP h p) (Q := Q) sh9 hi8
    have em : ∀ p c, c < 178 → m_gI (hP h p) c = m_gI h c := fun p c hc => funext fun k => gI_hP (by omega)
    have hT38 : T ≤ 23 := by rcases hT with t | t <;> omega
    simp only [em _ (T + 8) (by omega)] at cs
    simp only [em _ (T + 9) (by omega)] at cw
    by_cases z : i &&& (127 ^^^ sFree τ g) = 0
    · have z2 := z
      rw [free_sub (by omega) hi8] at z2
      have ec : fL (smI i (m_gI h (T + 8))) 0 5 = nI (smN τ 7 i) := sm_eq h5 z2.1 (ct_co (cq_t H))
      have ew : fL (smI i (m_gI h (T + 9))) 0 5 = nI (smN τ 8 i) := sm_eq h5 z2.1 (ct_wo (cq_t H))
      rw [ec] at cs ⊢
      rw [ew] at cw
      by_cases y : smN τ 7 i ≤ M
      · have eb : bvS (ofP τ g M) (smN τ 8) (smN τ 7) i o = bvM (smN τ 8) (smN τ 7) i o := by
          refine if_pos ?_
          unfold ofP
          rw [decide_eq_true z, decide_eq_true y]
          rfl
        rw [eb]
        simp only [u168_32, u168_34, u168_37, u168_38, u168_41, u168_44, u168_45, u168_48, u168_50, u168_51, u168_52, u168_53, u168_54, u168_55, u168_58, u168_60, u168_61, u168_64, u168_65, u168_68, u168_69, u168_70, u168_73, u168_76, u168_77, u168_80, u168_82, u168_85, u168_88, eq_self, q_nl0, q_nlI, q_nlR, not_false_eq_true, q_nz0, q_nz1, q_zv0, q_zv1, q_tl1, q_tl0, q_wif, q_swc, q_swn, List.cons_append, List.nil_append, if_true, if_false, e10, e01, Bool.false_eq_true, sh_1, sh_178, shT_0 hT, e1, cq_T (H' _), pT_11 hT (cq_p (H' _)), pT_12 hT (cq_p (H' _)), cs, cw, nI_not _ hi8 _ hf, nI_0eq (and_128 hi8), eq_true z, nI_ltB hM (hC7 i), eq_false (show ¬ M < smN τ 7 i by omega), p_1_9 (cq_p (H' _)), c_take, bvP_take hV (fun i _ => hC7 i) hi8 o (fun q hq => by have := hl2 q hq; omega), nI_1]
      · have eb : bvS (ofP τ g M) (smN τ 8) (smN τ 7) i o = o := by
          refine if_neg ?_
          unfold ofP
          rw [decide_eq_false y, Bool.and_false]
          decide
        rw [eb]
        simp only [u168_32, u168_34, u168_37, u168_38, u168_41, u168_44, u168_45, u168_48, u168_50, u168_51, u168_52, u168_53, u168_54, u168_55, u168_58, u168_60, u168_61, u168_85, u168_88, eq_self, q_nl0, q_nlI, q_nlR, not_false_eq_true, q_nz0, q_nz1, q_zv0, q_zv1, q_tl1, q_tl0, q_wif, q_swc, q_swn, List.cons_append, List.nil_append, if_true, if_false, e10, e01, Bool.false_eq_true, sh_1, shT_0 hT, e1, cq_T (H' _), pT_11 hT (cq_p (H' _)), cs, nI_not _ hi8 _ hf, nI_0eq (and_128 hi8), eq_true z, nI_ltB hM (hC7 i), eq_true (show M < smN τ 7 i by omega), nI_1]
    · have eb : bvS (ofP τ g M) (smN τ 8) (smN τ 7) i o = o := by
        refine if_neg ?_
        unfold ofP
        rw [decide_eq_false z, Bool.false_and]
        decide
      rw [eb]
      simp only [u168_32, u168_34, u168_37, u168_38, u168_41, u168_44, u168_45, u168_48, u168_50, u168_51, u168_52, u168_53, u168_54, u168_55, u168_85, u168_88, eq_self, q_nl0, q_nlI, q_nlR, not_false_eq_true, q_nz0, q_nz1, q_zv0, q_zv1, q_tl1, q_tl0, q_wif, q_swc, q_swn, List.cons_append, List.nil_append, if_true, if_false, e10, e01, Bool.false_eq_true, sh_1, shT_0 hT, e1, cq_T (H' _), pT_11 hT (cq_p (H' _)), cs, nI_not _ hi8 _ hf, nI_0eq (and_128 hi8), eq_false z, nI_1]) none
  refine Eq.trans e ?_
  have e32 : ofF τ g M 32 = some q := by
    rw [← hq]
    exact fL_to2 (s := bvS (ofP τ g M) (smN τ 8) (smN τ 7)) h32 (fun i o h1 h2 => if_neg (by rw [ofP_ge (by omega) (by omega) h1]; decide))
  show wq X (d + 2) 168 31 _ _ _ _ = _
  rw [u168_31, e32]
  simp only [u168_32, u168_34, u168_91, eq_self, q_nl0, q_nlI, q_nlR, not_false_eq_true, q_nz0, q_nz1, q_zv0, q_zv1, q_tl1, q_tl0, q_wif, q_swc, q_swn, List.cons_append, List.nil_append, if_true, if_false, e10, e01, Bool.false_eq_true, eq_false (show ¬ nI 32 < 32 by decide)]
/-- where what is lost from day n on ends -/
def ofE (τ : CT) (A : Nat → Int32) (n : Nat) : Nat := match fstN (lsP τ A) 60 with
  | none => 60
  | some L => if n ≤ L then L else n
def ofM (τ : CT) (A : Nat → Int32) (n : Nat) : Nat := aCs τ A (ofE τ A n) - aCs τ A n
theorem aCs_mono {τ : CT} {A : Nat → Int32} {p q : Nat} (h : p ≤ q) : aCs τ A p ≤ aCs τ A q := by
  induction q with
  | zero => rw [show p = 0 by omega]; exact Nat.le_refl _
  | succ q ih =>
    by_cases z : p = q + 1
    · rw [z]
      exact Nat.le_refl _
    · have := ih (by omega)
      rw [aCs_s]
      omega
theorem ofE_ge {τ : CT} {A : Nat → Int32} {n : Nat} (hn : n ≤ 60) : n ≤ ofE τ A n ∧ ofE τ A n ≤ 60 := by
  unfold ofE
  cases e : fstN (lsP τ A) 60 with
  | none => exact ⟨hn, Nat.le_refl _⟩
  | some L =>
    have := (fst_some 60 e).1
    dsimp only
    split <;> omega
theorem c_lostFrom {X : XT} {d N n : Nat} {g : HT} {Q : QT} {τ : CT} {A : Nat → Int32} (hp : Ptr g) (H : cOk τ) (K : aOk τ N A) (nt : Noted τ A 60 g) (hn : n ≤ 60) : wq X (d + 1) 167 0 [some (.ref 171), some (.int (nI n)), none] [] g Q = Q (some (.int (nI (ofM τ A n)))) g := by
  simp only [u167_0, u167_1, u167_4, eq_self, q_nl0, q_nlI, q_nlR, not_false_eq_true, q_nz0, q_nz1, q_zv0, q_zv1, q_tl1, q_tl0, q_wif, q_swc, q_swn, List.cons_append, List.nil_append, if_true, if_false, e10, e01, Bool.false_eq_true, sh_171, c_empty hp H K nt]
  unfold ofM ofE
  cases e : fstN (lsP τ A) 60 with
  | none =>
    have cl := fun (Q : QT) => c_lostB (X := X) (d := d) (Q := Q) hp nt (Nat.le_refl 60) hn (Nat.le_refl 60)
    have cl' : ∀ Q : QT, wq X d 158 0 [some (.ref 171), some (.int (nI n)), some (.int 60)] [] g Q = Q (some (.int (nI (aCs τ A 60) - nI (aCs τ A n)))) g := cl
    simp only [u167_5, u167_6, u167_7, u167_8, u167_9, u167_12, u167_14, u167_17, u167_18, u167_21, eq_self, q_nl0, q_nlI, q_nlR, not_false_eq_true, q_nz0, q_nz1, q_zv0, q_zv1, q_tl1, q_tl0, q_wif, q_swc, q_swn, List.cons_append, List.nil_append, if_true, if_false, e10, e01, Bool.false_eq_true, sh_171, oI, cl', pk_sub (aCs_mono hn)]
  | some L =>
    have hL := (fst_some 60 e).1
    have e1 : (nI L = -1) = False := eq_false (fun z => by
      have := oI_lt0 (b := L) (by omega)
      rw [z, m1_lt0] at this
      exact absurd this.symm (by simp))
    dsimp only
    by_cases z : n ≤ L
    · rw [if_pos z]
      simp only [u167_5, u167_6, u167_7, u167_8, u167_9, u167_12, u167_14, u167_17, u167_18, u167_21, eq_self, q_nl0, q_nlI, q_nlR, not_false_eq_true, q_nz0, q_nz1, q_zv0, q_zv1, q_tl1, q_tl0, q_wif, q_swc, q_swn, List.cons_append, List.nil_append, if_true, if_false, e10, e01, Bool.false_eq_true, sh_171, oI, e1, c_lostB hp nt (Nat.le_refl 60) z hL, pk_sub (aCs_mono z)]
    · rw [if_neg z, Nat.sub_self]
      have e2 : (nI n < 0) = False := oI_lt0 (by omega)
      have e3 : (nI L < nI n) = True := eq_true (nI_lt (by omega) (by omega))
      simp only [u167_5, u167_6, u167_7, u167_8, u167_9, u167_12, u167_14, u167_17, u167_18, u167_21, u158_0, u158_1, u158_4, u158_5, u158_6, u158_9, u158_10, u158_12, u158_15, u158_16, eq_self, q_nl0, q_nlI, q_nlR, not_false_eq_true, q_nz0, q_nz1, q_zv0, q_zv1, q_tl1, q_tl0, q_wif, q_swc, q_swn, List.cons_append, List.nil_append, if_true, if_false, e10, e01, Bool.false_eq_true, sh_171, oI, e1, e2, e3]
      rfl
/-! the model lays an offer -/
def oV (c : Int32) (v : Nat → Int32) : Option Nat → Int32
  | none => c
  | some b => v b
theorem nI_m1lt {a : Nat} (h : a < 2 ^ 31) : (nI a < -1) = False := by
  refine eq_false (fun z => ?_)
  have h1 := Int32.lt_iff_toInt_lt.mp z
  rw [nI_toInt h, show (-1 : Int32).toInt = -1 from rfl] at h1
  omega
theorem nI_m1eq {a : Nat} (h : a < 2 ^ 31) : (nI a = -1) = False := by
  refine eq_false (fun z => ?_)
  have h1 := congrArg Int32.toInt z
  rw [nI_toInt h, show (-1 : Int32).toInt = -1 from rfl] at h1
  omega
theorem sub_sub16 {a b c : Int32} : a + b - (a + c) = b - c := by
  rw [Int32.sub_eq_add_neg, Int32.neg_add, Int32.sub_eq_add_neg b c]
  have : a + b + (-a - c) = b + -c := by
    rw [Int32.sub_eq_add_neg, Int32.add_comm a b, Int32.add_assoc, ← Int32.add_assoc a, Int32.add_right_neg, Int32.zero_add]
  exact this
/-- until: the last day, from day k - 1 down -/
def unW (τ : CT) (A : Nat → Int32) (g n : Nat) : Nat := match ofF τ g (ofM τ A n) (2 ^ τ 0 2) with
  | none => 0
  | some q => smN τ 8 q
def unO (τ : CT) (A : Nat → Int32) (g : Nat) (x : Int32) : Nat → Option Nat
  | 0 => none
  | k + 1 => if nI (unW τ A g k) < x then unO τ A g x k else some k
