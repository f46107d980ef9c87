/-! the greatest common divisor -/
theorem c_comL {X : XT} {d : Nat} {h : HT} {Q : QT} {p0 p1 : Int32} : ∀ k x y s l5, y < 2 ^ k → k ≤ 31 → s + 2 * k ≤ 64 → x < 2 ^ 31 → wq X d 147 7 [some (.int p0), some (.int p1), some (.int (nI x)), some (.int (nI y)), some (.int (nI s)), l5] [] h Q = Q (some (.int (nI (Nat.gcd x y)))) h
  | 0, x, y, s, l5, hy, _, hs, hx => by
    have hy0 : y = 0 := by simpa using hy
    subst hy0
    have e0 : (nI 0 = 0) = True := eq_true rfl
    by_cases z : s < 64
    · simp only [u147_7, u147_9, u147_11, u147_14, u147_15, u147_34, u147_35, eq_self, q_nl0, q_nlI, q_nlR, not_false_eq_true, q_nz0, q_nz1, q_zv0, q_zv1, q_tl1, q_tl0, q_wif, q_swc, q_swn, List.cons_append, List.nil_append, if_true, if_false, e10, e01, Bool.false_eq_true, eq_true (show nI s < 64 from nI_lt (b := 64) z (by decide)), e0, Nat.gcd_zero_right]
    · simp only [u147_7, u147_9, u147_11, u147_14, u147_15, u147_34, u147_35, eq_self, q_nl0, q_nlI, q_nlR, not_false_eq_true, q_nz0, q_nz1, q_zv0, q_zv1, q_tl1, q_tl0, q_wif, q_swc, q_swn, List.cons_append, List.nil_append, if_true, if_false, e10, e01, Bool.false_eq_true, eq_false (show ¬ nI s < 64 from nI_nlt (a := s) (b := 64) (by omega) (by omega)), Nat.gcd_zero_right]
  | k + 1, x, y, s, l5, hy, hk, hs, hx => by
    have hk31 : (2 : Nat) ^ (k + 1) ≤ 2 ^ 31 := Nat.pow_le_pow_right (by decide) hk
    have es : (nI s < 64) = True := eq_true (nI_lt (b := 64) (by omega) (by omega))
    have es1 : (nI (s + 1) < 64) = True := eq_true (nI_lt (b := 64) (by omega) (by omega))
    have ey : (nI y = 0) = (y = 0) := nI_eqB (b := 0) (by omega) (by omega)
    by_cases z : y = 0
    · simp only [u147_7, u147_9, u147_11, u147_14, u147_15, u147_34, u147_35, eq_self, q_nl0, q_nlI, q_nlR, not_false_eq_true, q_nz0, q_nz1, q_zv0, q_zv1, q_tl1, q_tl0, q_wif, q_swc, q_swn, List.cons_append, List.nil_append, if_true, if_false, e10, e01, Bool.false_eq_true, es, ey, eq_true z]
      rw [z, Nat.gcd_zero_right]
    · have e2 : ¬ nI y = 0 := nI_ne0 (by omega) (by omega)
      have e3 : nI x - nI x / nI y * nI y = nI (x % y) := pk_rem hx (by omega) (by omega)
      have e4 : x % y < y := Nat.mod_lt _ (by omega)
      have g1 : Nat.gcd x y = Nat.gcd y (x % y) := by rw [Nat.gcd_comm x y, Nat.gcd_rec y x, Nat.gcd_comm]
      have er : (nI (x % y) = 0) = (x % y = 0) := nI_eqB (b := 0) (by omega) (by omega)
      rw [u147_7]
      simp only [u147_9, u147_11, u147_14, u147_15, u147_18, u147_19, u147_20, u147_21, u147_23, u147_24, u147_25, u147_27, u147_28, u147_31, eq_self, q_nl0, q_nlI, q_nlR, not_false_eq_true, q_nz0, q_nz1, q_zv0, q_zv1, q_tl1, q_tl0, q_wif, q_swc, q_swn, List.cons_append, List.nil_append, if_true, if_false, e10, e01, Bool.false_eq_true, es, ey, eq_false z, e2, not_false_eq_true, e3, nI_1]
      rw [u147_7, g1]
      by_cases w : x % y = 0
      · simp only [u147_9, u147_11, u147_14, u147_15, u147_34, u147_35, eq_self, q_nl0, q_nlI, q_nlR, not_false_eq_true, q_nz0, q_nz1, q_zv0, q_zv1, q_tl1, q_tl0, q_wif, q_swc, q_swn, List.cons_append, List.nil_append, if_true, if_false, e10, e01, Bool.false_eq_true, es1, er, eq_true w]
        rw [w, Nat.gcd_zero_right]
      · have f2 : ¬ nI (x % y) = 0 := nI_ne0 (by omega) (by omega)
        have f3 : nI y - nI y / nI (x % y) * nI (x % y) = nI (y % (x % y)) := pk_rem (by omega) (by omega) (by omega)
        have f4 : y % (x % y) < x % y := Nat.mod_lt _ (by omega)
        have f5 : y % (x % y) ≤ y - x % y := by
          rw [Nat.mod_eq_sub_mod (by omega)]
          exact Nat.mod_le _ _
        have g2 : Nat.gcd y (x % y) = Nat.gcd (x % y) (y % (x % y)) := by rw [Nat.gcd_comm y, Nat.gcd_rec (x % y) y, Nat.gcd_comm]
        have hp : 2 ^ (k + 1) = 2 * 2 ^ k := by rw [Nat.pow_succ, Nat.mul_comm]
        simp only [u147_9, u147_11, u147_14, u147_15, u147_18, u147_19, u147_20, u147_21, u147_23, u147_24, u147_25, u147_27, u147_28, u147_31, eq_self, q_nl0, q_nlI, q_nlR, not_false_eq_true, q_nz0, q_nz1, q_zv0, q_zv1, q_tl1, q_tl0, q_wif, q_swc, q_swn, List.cons_append, List.nil_append, if_true, if_false, e10, e01, Bool.false_eq_true, es1, er, eq_false w, f2, not_false_eq_true, f3, nI_1]
        rw [c_comL k (x % y) (y % (x % y)) (s + 1 + 1) _ (by omega) (by omega) (by omega) (by omega), g2]
theorem c_common {X : XT} {d x y : Nat} {h : HT} {Q : QT} (hx : x < 2 ^ 31) (hy : y < 2 ^ 31) : wq X d 147 0 [some (.int (nI x)), some (.int (nI y)), none, none, none, none] [] h Q = Q (some (.int (nI (Nat.gcd x y)))) h := by
  simp only [u147_0, u147_1, u147_2, u147_3, u147_4, u147_5, eq_self, q_nl0, q_nlI, q_nlR, not_false_eq_true, q_nz0, q_nz1, q_zv0, q_zv1, q_tl1, q_tl0, q_wif, q_swc, q_swn, List.cons_append, List.nil_append, if_true, if_false, e10, e01, Bool.false_eq_true]
  exact c_comL 31 x y 0 none hy (by omega) (by omega) hx
theorem c_lowest {X : XT} {d x y : Nat} {h : HT} {Q : QT} {w : Int32} (hx : x < 2 ^ 31) (hy : y < 2 ^ 31) (h0 : 0 < y) : wq X (d + 1) 146 0 [some (.int (nI x)), some (.int (nI y)), some (.int w), none] [] h Q = Q (some (.int (if w = 0 then nI x / nI (Nat.gcd x y) else nI y / nI (Nat.gcd x y)))) h := by
  have hg : Nat.gcd x y ≤ y := Nat.le_of_dvd h0 (Nat.gcd_dvd_right x y)
  have hg0 : 0 < Nat.gcd x y := Nat.gcd_pos_of_pos_right x h0
  have e : (nI (Nat.gcd x y) = 0) = False := eq_false (nI_ne0 hg0 (by omega))
  simp only [u146_0, u146_1, u146_2, u146_5, u146_6, u146_7, u146_10, u146_11, u146_12, u146_13, u146_16, u146_17, u146_20, u146_21, u146_22, u146_23, eq_self, q_nl0, q_nlI, q_nlR, not_false_eq_true, q_nz0, q_nz1, q_zv0, q_zv1, q_tl1, q_tl0, q_wif, q_swc, q_swn, List.cons_append, List.nil_append, if_true, if_false, e10, e01, Bool.false_eq_true, c_common hx hy, e, not_false_eq_true]
  by_cases z : w = 0
  · simp only [eq_true z, if_true]
  · simp only [eq_false z, if_false]
/-! orders -/
def fct : Nat → Nat
  | 0 => 1
  | n + 1 => fct n * (n + 1)
theorem ord_f : ∀ n, n < 8 → m_ord.getD n 0 = nI (fct n) := by decide +kernel
theorem fct_pos : ∀ n, 0 < fct n
  | 0 => Nat.one_pos
  | n + 1 => Nat.mul_pos (fct_pos n) (Nat.succ_pos n)
theorem fct_7 : ∀ n, n < 8 → fct n ≤ 5040 := by decide +kernel
theorem fct_2 : ∀ a, a < 7 → ∀ b, b < 7 → a + b ≤ 6 → fct a * fct b ≤ 720 := by decide +kernel
/-! more out, more lost -/
theorem sShortL_bit {τ : CT} {n : Nat} : ∀ k c, (sShortL τ n k).testBit c = (decide (c < k) && decide (pcN (sMen τ c &&& (127 ^^^ n)) < τ 1 c))
  | 0, c => by
    show (0 : Nat).testBit c = _
    rw [Nat.zero_testBit, decide_eq_false (Nat.not_lt_zero c), Bool.false_and]
  | k + 1, c => by
    have ih := sShortL_bit (τ := τ) (n := n) k c
    unfold sShortL
    by_cases e : c = k
    · subst e
      have h0 : (sShortL τ n c).testBit c = false := bit_ge (sShortL_lt c) (Nat.le_refl _)
      split
      · next z => rw [Nat.testBit_or, Nat.testBit_two_pow_self, Bool.or_true, decide_eq_true (Nat.lt_succ_self c), decide_eq_true z]; rfl
      · next z => rw [h0, decide_eq_false z, Bool.and_false]
    · have e2 : decide (c < k + 1) = decide (c < k) := decide_eq_decide.mpr (by omega)
      rw [e2, ← ih]
      split
      · rw [Nat.testBit_or, Nat.testBit_two_pow, decide_eq_false (fun w => e w.symm), Bool.or_false]
      · rfl
theorem pc_mono : ∀ a, a < 128 → ∀ b, b < 128 → a &&& b = a → pcN a ≤ pcN b := by decide +kernel
theorem sShort_mono {τ : CT} (H : cOk τ) {n x c : Nat} (h : (sShort τ n).testBit c = true) : (sShort τ (n ||| x)).testBit c = true := by
  unfold sShort at h ⊢
  rw [sShortL_bit] at h ⊢
  have h1 := Bool.and_eq_true_iff.mp h
  have h2 := of_decide_eq_true h1.2
  have hm := sMen_lt H c
  have h3 : pcN (sMen τ c &&& (127 ^^^ (n ||| x))) ≤ pcN (sMen τ c &&& (127 ^^^ n)) := by
    refine pc_mono _ (and_128 hm) _ (and_128 hm) ?_
    apply Nat.eq_of_testBit_eq
    intro j
    by_cases w : j < 7
    · rw [Nat.testBit_and, and_bit w, and_bit w, Nat.testBit_or]
      cases (sMen τ c).testBit j <;> cases n.testBit j <;> cases x.testBit j <;> rfl
    · rw [Nat.testBit_and, bit_ge (k := 7) (and_128 hm) (by omega), Bool.false_and]
  rw [h1.1, decide_eq_true (show pcN (sMen τ c &&& (127 ^^^ (n ||| x))) < τ 1 c by omega)]
  rfl
theorem sLossL_mono {τ : CT} {s t : Nat} (h : ∀ c, s.testBit c = true → t.testBit c = true) : ∀ k, sLossL τ s k ≤ sLossL τ t k
  | 0 => Nat.le_refl _
  | k + 1 => by
    have ih := sLossL_mono (τ := τ) h k
    unfold sLossL
    split
    · next z =>
      rw [if_pos (h k z)]
      omega
    · split <;> omega
theorem sLoss_mono {τ : CT} (H : cOk τ) (n x : Nat) : sLoss τ n ≤ sLoss τ (n ||| x) := sLossL_mono (fun _ hc => sShort_mono H hc) _
/-! weight -/
theorem u144_31O {X : XT} {d : Nat} {h : HT} {Q : QT} {l0 : Option Value} {a0 : Int32} {l1 l2 l3 : Option Value} : wq X d 144 31 [l0, l1, l2, l3] [.ref 10001, .int a0] h Q = wq X d 144 32 [l0, l1, l2, l3] [.int (Int32.ofNat 8), .int a0] h Q := q_next (q_dec D144_0 17 rfl) rfl
theorem u145_59O {X : XT} {d : Nat} {h : HT} {Q : QT} {l0 : Option Value} {a0 : Int32} {l1 l2 l3 l4 l5 l6 l7 : Option Value} : wq X d 145 59 [l0, l1, l2, l3, l4, l5, l6, l7] [.ref 10001, .int a0] h Q = wq X d 145 60 [l0, l1, l2, l3, l4, l5, l6, l7] [.int (Int32.ofNat 8), .int a0] h Q := q_next (q_dec D145_1 8 rfl) rfl
theorem u145_73O {X : XT} {d : Nat} {h : HT} {Q : QT} {l0 : Option Value} {a0 : Int32} {l1 l2 l3 l4 l5 l6 l7 : Option Value} : wq X d 145 73 [l0, l1, l2, l3, l4, l5, l6, l7] [.ref 10001, .int a0] h Q = wq X d 145 74 [l0, l1, l2, l3, l4, l5, l6, l7] [.int (Int32.ofNat 8), .int a0] h Q := q_next (q_dec D145_1 14 rfl) rfl
theorem pc_one : ∀ i, i < 128 → ∀ m, m < 7 → i.testBit m = false → pcN (i ||| 2 ^ m) = pcN i + 1 := by decide +kernel
theorem pc_k : ∀ k, k < 8 → ∀ i, i < 2 ^ k → pcN i ≤ k := by decide +kernel
theorem p2m_iff : ∀ k, k < 8 → ∀ i, i < 128 → (i &&& (127 ^^^ (2 ^ k - 1)) = 0) = (i < 2 ^ k) := by decide +kernel
def wT (τ : CT) (m i : Nat) : Nat := fct (pcN i) * fct (τ 0 1 - 1 - pcN i) * (sLoss τ (i ||| 2 ^ m) - sLoss τ i)
def wS (τ : CT) (m i s : Nat) : Nat := if i < 2 ^ τ 0 1 ∧ i.testBit m = false then s + wT τ m i else s
theorem pc_men {τ : CT} {m i : Nat} (h7 : τ 0 1 ≤ 7) (hm : m < τ 0 1) (hi : i < 2 ^ τ 0 1) (hb : i.testBit m = false) : pcN i + 1 ≤ τ 0 1 := by
  have h8 := p2_7 h7
  rw [← pc_one i (by omega) m (by omega) hb]
  exact pc_k _ (by omega) _ (orb hi hm)
theorem wT_le {τ : CT} {m i : Nat} (H : cOk τ) (hm : m < τ 0 1) (hi : i < 2 ^ τ 0 1) (hb : i.testBit m = false) : wT τ m i ≤ 285120 := by
  have h7 := o_mn H
  have h1 := pc_men h7 hm hi hb
  have h2 := fct_2 (pcN i) (by omega) (τ 0 1 - 1 - pcN i) (by omega) (by omega)
  have h3 := sLoss_le H (i ||| 2 ^ m)
  exact Nat.le_trans (Nat.mul_le_mul h2 (show sLoss τ (i ||| 2 ^ m) - sLoss τ i ≤ 396 by omega)) (by decide)
theorem wS_le {τ : CT} {m : Nat} (H : cOk τ) (hm : m < τ 0 1) : ∀ n, fL (wS τ m) 0 n ≤ 285120 * n
  | 0 => Nat.le_refl _
  | n + 1 => by
    have ih := wS_le H hm n
    rw [fL_s]
    unfold wS at ih ⊢
    split
    · next z =>
      have := wT_le H hm z.1 z.2
      omega
    · omega
