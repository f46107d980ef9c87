/-! the greatest common divisor -/
theorem k_divL {X : XT} {d : Nat} {h : HT} {Q : QT} {p0 p1 : Int32} : ∀ f y, y < f → ∀ x l4, y < 2 ^ 31 → x < 2 ^ 31 → wq X d 296 4 [some (.int p0), some (.int p1), some (.int (nI x)), some (.int (nI y)), l4] [] h Q = Q (some (.int (nI (Nat.gcd x y)))) h
  | 0, _, hf, _, _, _, _ => absurd hf (Nat.not_lt_zero _)
  | f + 1, y, hf, x, l4, hy, hx => by
    have e1 : (0 < nI y) = (0 < y) := nI_ltB (a := 0) (by omega) hy
    by_cases z : y = 0
    · subst z
      simp only [u296_4, u296_5, u296_21, u296_22, eq_self, q_nl0, q_nlI, q_nlR, not_false_eq_true, q_nz0, q_nz1, q_zv0, q_zv1, q_tl1, q_tl0, q_wif, q_swc, q_swn, List.cons_append, List.nil_append, if_true, if_false, e10, e01, Bool.false_eq_true, show ((0 : Int32) < nI 0) = False from eq_false (by decide), Nat.gcd_zero_right]
    · have e2 : ¬ nI y = 0 := nI_ne0 (by omega) hy
      have e3 : nI x - nI x / nI y * nI y = nI (x % y) := pk_rem hx (by omega) hy
      have e4 : x % y < y := Nat.mod_lt _ (by omega)
      rw [u296_4]
      simp only [u296_5, u296_8, u296_9, u296_10, u296_11, u296_13, u296_14, u296_15, u296_17, u296_18, eq_self, q_nl0, q_nlI, q_nlR, not_false_eq_true, q_nz0, q_nz1, q_zv0, q_zv1, q_tl1, q_tl0, q_wif, q_swc, q_swn, List.cons_append, List.nil_append, if_true, if_false, e10, e01, Bool.false_eq_true, e1, eq_true (show 0 < y by omega), e2, not_false_eq_true, e3]
      rw [k_divL f (x % y) (by omega) y _ (by omega) hy, Nat.gcd_comm x y, Nat.gcd_rec y x, Nat.gcd_comm]
theorem k_divisor {X : XT} {d x y : Nat} {h : HT} {Q : QT} (hx : x < 2 ^ 31) (hy : y < 2 ^ 31) : wq X d 296 0 [some (.int (nI x)), some (.int (nI y)), none, none, none] [] h Q = Q (some (.int (nI (Nat.gcd x y)))) h := by
  simp only [u296_0, u296_1, u296_2, u296_3, eq_self, q_nl0, q_nlI, q_nlR, not_false_eq_true, q_nz0, q_nz1, q_zv0, q_zv1, q_tl1, q_tl0, q_wif, q_swc, q_swn, List.cons_append, List.nil_append, if_true, if_false, e10, e01, Bool.false_eq_true]
  exact k_divL (y + 1) y (Nat.lt_succ_self _) x none hy hx
theorem c_comL {X : XT} {d : Nat} {h : HT} {Q : QT} {p0 p1 : Int32} : ∀ k x y s l5, y < 2 ^ k → k ≤ 31 → s + 2 * k ≤ 64 → x < 2 ^ 31 → wq X d 147 7 [some (.int p0), some (.int p1), some (.int (nI x)), some (.int (nI y)), some (.int (nI s)), l5] [] h Q = Q (some (.int (nI (Nat.gcd x y)))) h
  | 0, x, y, s, l5, hy, _, hs, hx => by
    have hy0 : y = 0 := by simpa using hy
    subst hy0
    have e0 : (nI 0 = 0) = True := eq_true rfl
    by_cases z : s < 64
    · simp only [u147_7, u147_9, u147_11, u147_14, u147_15, u147_34, u147_35, eq_self, q_nl0, q_nlI, q_nlR, not_false_eq_true, q_nz0, q_nz1, q_zv0, q_zv1, q_tl1, q_tl0, q_wif, q_swc, q_swn, List.cons_append, List.nil_append, if_true, if_false, e10, e01, Bool.false_eq_true, eq_true (show nI s < 64 from nI_lt (b := 64) z (by decide)), e0, Nat.gcd_zero_right]
    · simp only [u147_7, u147_9, u147_11, u147_14, u147_15, u147_34, u147_35, eq_self, q_nl0, q_nlI, q_nlR, not_false_eq_true, q_nz0, q_nz1, q_zv0, q_zv1, q_tl1, q_tl0, q_wif, q_swc, q_swn, List.cons_append, List.nil_append, if_true, if_false, e10, e01, Bool.false_eq_true, eq_false (show ¬ nI s < 64 from nI_nlt (a := s) (b := 64) (by omega) (by omega)), Nat.gcd_zero_right]
  | k + 1, x, y, s, l5, hy, hk, hs, hx => by
    have hk31 : (2 : Nat) ^ (k + 1) ≤ 2 ^ 31 := Nat.pow_le_pow_right (by decide) hk
    have es : (nI s < 64) = True := eq_true (nI_lt (b := 64) (by omega) (by omega))
    have es1 : (nI (s + 1) < 64) = True := eq_true (nI_lt (b := 64) (by omega) (by omega))
    have ey : (nI y = 0) = (y = 0) := nI_eqB (b := 0) (by omega) (by omega)
    by_cases z : y = 0
    · simp only [u147_7, u147_9, u147_11, u147_14, u147_15, u147_34, u147_35, eq_self, q_nl0, q_nlI, q_nlR, not_false_eq_true, q_nz0, q_nz1, q_zv0, q_zv1, q_tl1, q_tl0, q_wif, q_swc, q_swn, List.cons_append, List.nil_append, if_true, if_false, e10, e01, Bool.false_eq_true, es, ey, eq_true z]
      rw [z, Nat.gcd_zero_right]
    · have e2 : ¬ nI y = 0 := nI_ne0 (by omega) (by omega)
      have e3 : nI x - nI x / nI y * nI y = nI (x % y) := pk_rem hx (by omega) (by omega)
      have e4 : x % y < y := Nat.mod_lt _ (by omega)
      have g1 : Nat.gcd x y = Nat.gcd y (x % y) := by rw [Nat.gcd_comm x y, Nat.gcd_rec y x, Nat.gcd_comm]
      have er : (nI (x % y) = 0) = (x % y = 0) := nI_eqB (b := 0) (by omega) (by omega)
      rw [u147_7]
      simp only [u147_9, u147_11, u147_14, u147_15, u147_18, u147_19, u147_20, u147_21, u147_23, u147_24, u147_25, u147_27, u147_28, u147_31, eq_self, q_nl0, q_nlI, q_nlR, not_false_eq_true, q_nz0, q_nz1, q_zv0, q_zv1, q_tl1, q_tl0, q_wif, q_swc, q_swn, List.cons_append, List.nil_append, if_true, if_false, e10, e01, Bool.false_eq_true, es, ey, eq_false z, e2, not_false_eq_true, e3, nI_1]
      rw [u147_7, g1]
      by_cases w : x % y = 0
      · simp only [u147_9, u147_11, u147_14, u147_15, u147_34, u147_35, eq_self, q_nl0, q_nlI, q_nlR, not_false_eq_true, q_nz0, q_nz1, q_zv0, q_zv1, q_tl1, q_tl0, q_wif, q_swc, q_swn, List.cons_append, List.nil_append, if_true, if_false, e10, e01, Bool.false_eq_true, es1, er, eq_true w]
        rw [w, Nat.gcd_zero_right]
      · have f2 : ¬ nI (x % y) = 0 := nI_ne0 (by omega) (by omega)
        have f3 : nI y - nI y / nI (x % y) * nI (x % y) = nI (y % (x % y)) := pk_rem (by omega) (by omega) (by omega)
        have f4 : y % (x % y) < x % y := Nat.mod_lt _ (by omega)
        have f5 : y % (x % y) ≤ y - x % y := by
          rw [Nat.mod_eq_sub_mod (by omega)]
          exact Nat.mod_le _ _
        have g2 : Nat.gcd y (x % y) = Nat.gcd (x % y) (y % (x % y)) := by rw [Nat.gcd_comm y, Nat.gcd_rec (x % y) y, Nat.gcd_comm]
        have hp : 2 ^ (k + 1) = 2 * 2 ^ k := by rw [Nat.pow_succ, Nat.mul_comm]
        simp only [u147_9, u147_11, u147_14, u147_15, u147_18, u147_19, u147_20, u147_21, u147_23, u147_24, u147_25, u147_27, u147_28, u147_31, eq_self, q_nl0, q_nlI, q_nlR, not_false_eq_true, q_nz0, q_nz1, q_zv0, q_zv1, q_tl1, q_tl0, q_wif, q_swc, q_swn, List.cons_append, List.nil_append, if_true, if_false, e10, e01, Bool.false_eq_true, es1, er, eq_false w, f2, not_false_eq_true, f3, nI_1]
        rw [c_comL k (x % y) (y % (x % y)) (s + 1 + 1) _ (by omega) (by omega) (by omega) (by omega), g2]
theorem c_common {X : XT} {d x y : Nat} {h : HT} {Q : QT} (hx : x < 2 ^ 31) (hy : y < 2 ^ 31) : wq X d 147 0 [some (.int (nI x)), some (.int (nI y)), none, none, none, none] [] h Q = Q (some (.int (nI (Nat.gcd x y)))) h := by
  simp only [u147_0, u147_1, u147_2, u147_3, u147_4, u147_5, eq_self, q_nl0, q_nlI, q_nlR, not_false_eq_true, q_nz0, q_nz1, q_zv0, q_zv1, q_tl1, q_tl0, q_wif, q_swc, q_swn, List.cons_append, List.nil_append, if_true, if_false, e10, e01, Bool.false_eq_true]
  exact c_comL 31 x y 0 none hy (by omega) (by omega) hx
theorem c_lowest {X : XT} {d x y : Nat} {h : HT} {Q : QT} {w : Int32} (hx : x < 2 ^ 31) (hy : y < 2 ^ 31) (h0 : 0 < y) : wq X (d + 1) 146 0 [some (.int (nI x)), some (.int (nI y)), some (.int w), none] [] h Q = Q (some (.int (if w = 0 then nI x / nI (Nat.gcd x y) else nI y / nI (Nat.gcd x y)))) h := by
  have hg : Nat.gcd x y ≤ y := Nat.le_of_dvd h0 (Nat.gcd_dvd_right x y)
  have hg0 : 0 < Nat.gcd x y := Nat.gcd_pos_of_pos_right x h0
  have e : (nI (Nat.gcd x y) = 0) = False := eq_false (nI_ne0 hg0 (by omega))
  simp only [u146_0, u146_1, u146_2, u146_5, u146_6, u146_7, u146_10, u146_11, u146_12, u146_13, u146_16, u146_17, u146_20, u146_21, u146_22, u146_23, eq_self, q_nl0, q_nlI, q_nlR, not_false_eq_true, q_nz0, q_nz1, q_zv0, q_zv1, q_tl1, q_tl0, q_wif, q_swc, q_swn, List.cons_append, List.nil_append, if_true, if_false, e10, e01, Bool.false_eq_true, c_common hx hy, e, not_false_eq_true]
  by_cases z : w = 0
  · simp only [eq_true z, if_true]
  · simp only [eq_false z, if_false]
/-! orders -/
def fct : Nat → Nat
  | 0 => 1
  | n + 1 => fct n * (n + 1)
theorem ord_f : ∀ n, n < 8 → m_ord.getD n 0 = nI (fct n) := by decide +kernel
theorem fct_pos : ∀ n, 0 < fct n
  | 0 => Nat.one_pos
  | n + 1 => Nat.mul_pos (fct_pos n) (Nat.succ_pos n)
theorem fct_7 : ∀ n, n < 8 → fct n ≤ 5040 := by decide +kernel
theorem fct_2 : ∀ a, a < 7 → ∀ b, b < 7 → a + b ≤ 6 → fct a * fct b ≤ 720 := by decide +kernel
theorem k_fact {X : XT} {d n : Nat} {h : HT} {Q : QT} (hn : n < 8) : wq X d 295 0 [some (.int (nI n)), none, none] [] h Q = Q (some (.int (nI (fct n)))) h := by
  simp only [u295_0, u295_1, u295_2, u295_3, eq_self, q_nl0, q_nlI, q_nlR, not_false_eq_true, q_nz0, q_nz1, q_zv0, q_zv1, q_tl1, q_tl0, q_wif, q_swc, q_swn, List.cons_append, List.nil_append, if_true, if_false, e10, e01, Bool.false_eq_true]
  by_cases z : n < 2
  · have e1 : (nI n < 2) = True := eq_true (nI_lt (b := 2) z (by decide))
    have : n = 0 ∨ n = 1 := by omega
    rw [u295_4]
    simp only [u295_5, u295_6, u295_19, u295_20, eq_self, q_nl0, q_nlI, q_nlR, not_false_eq_true, q_nz0, q_nz1, q_zv0, q_zv1, q_tl1, q_tl0, q_wif, q_swc, q_swn, List.cons_append, List.nil_append, if_true, if_false, e10, e01, Bool.false_eq_true, e1]
    rcases this with e | e <;> subst e <;> rfl
  · have := q_loopFrom (fun i => wq X d 295 4 [some (.int (nI n)), some (.int (nI (fct (i - 1)))), some (.int (nI i))] [] h Q) 2 (n + 1) (by omega) (by
      intro i h1 h2
      have e1 : (nI n < nI i) = False := eq_false (nI_nlt (by omega) (by omega))
      show wq X d 295 4 _ _ _ _ = _
      rw [u295_4]
      obtain ⟨j, rfl⟩ : ∃ j, i = j + 1 := ⟨i - 1, by omega⟩
      simp only [u295_5, u295_6, u295_9, u295_10, u295_11, u295_12, u295_13, u295_16, eq_self, q_nl0, q_nlI, q_nlR, not_false_eq_true, q_nz0, q_nz1, q_zv0, q_zv1, q_tl1, q_tl0, q_wif, q_swc, q_swn, List.cons_append, List.nil_append, if_true, if_false, e10, e01, Bool.false_eq_true, e1, pk_mul, nI_1, Nat.add_sub_cancel]
      rfl)
    refine Eq.trans this ?_
    show wq X d 295 4 _ _ _ _ = _
    rw [u295_4]
    simp only [u295_5, u295_6, u295_9, u295_10, u295_11, u295_12, u295_13, u295_16, u295_19, u295_20, eq_self, q_nl0, q_nlI, q_nlR, not_false_eq_true, q_nz0, q_nz1, q_zv0, q_zv1, q_tl1, q_tl0, q_wif, q_swc, q_swn, List.cons_append, List.nil_append, if_true, if_false, e10, e01, Bool.false_eq_true, eq_true (show nI n < nI (n + 1) from nI_lt (by omega) (by omega)), Nat.add_sub_cancel]
/-! more out, more lost -/
theorem sShortL_bit {τ : CT} {n : Nat} : ∀ k c, (sShortL τ n k).testBit c = (decide (c < k) && decide (pcN (sMen τ c &&& (127 ^^^ n)) < τ 1 c))
  | 0, c => by
    show (0 : Nat).testBit c = _
    rw [Nat.zero_testBit, decide_eq_false (Nat.not_lt_zero c), Bool.false_and]
  | k + 1, c => by
    have ih := sShortL_bit (τ := τ) (n := n) k c
    unfold sShortL
    by_cases e : c = k
    · subst e
      have h0 : (sShortL τ n c).testBit c = false := bit_ge (sShortL_lt c) (Nat.le_refl _)
      split
      · next z => rw [Nat.testBit_or, Nat.testBit_two_pow_self, Bool.or_true, decide_eq_true (Nat.lt_succ_self c), decide_eq_true z]; rfl
      · next z => rw [h0, decide_eq_false z, Bool.and_false]
    · have e2 : decide (c < k + 1) = decide (c < k) := decide_eq_decide.mpr (by omega)
      rw [e2, ← ih]
      split
      · rw [Nat.testBit_or, Nat.testBit_two_pow, decide_eq_false (fun w => e w.symm), Bool.or_false]
      · rfl
theorem pc_mono : ∀ a, a < 128 → ∀ b, b < 128 → a &&& b = a → pcN a ≤ pcN b := by decide +kernel
theorem sShort_mono {τ : CT} (H : cOk τ) {n x c : Nat} (h : (sShort τ n).testBit c = true) : (sShort τ (n ||| x)).testBit c = true := by
  unfold sShort at h ⊢
  rw [sShortL_bit] at h ⊢
  have h1 := Bool.and_eq_true_iff.mp h
  have h2 := of_decide_eq_true h1.2
  have hm := sMen_lt H c
  have h3 : pcN (sMen τ c &&& (127 ^^^ (n ||| x))) ≤ pcN (sMen τ c &&& (127 ^^^ n)) := by
    refine pc_mono _ (and_128 hm) _ (and_128 hm) ?_
    apply Nat.eq_of_testBit_eq
    intro j
    by_cases w : j < 7
    · rw [Nat.testBit_and, and_bit w, and_bit w, Nat.testBit_or]
      cases (sMen τ c).testBit j <;> cases n.testBit j <;> cases x.testBit j <;> rfl
    · rw [Nat.testBit_and, bit_ge (k := 7) (and_128 hm) (by omega), Bool.false_and]
  rw [h1.1, decide_eq_true (show pcN (sMen τ c &&& (127 ^^^ (n ||| x))) < τ 1 c by omega)]
  rfl
theorem sLossL_mono {τ : CT} {s t : Nat} (h : ∀ c, s.testBit c = true → t.testBit c = true) : ∀ k, sLossL τ s k ≤ sLossL τ t k
  | 0 => Nat.le_refl _
  | k + 1 => by
    have ih := sLossL_mono (τ := τ) h k
    unfold sLossL
    split
    · next z =>
      rw [if_pos (h k z)]
      omega
    · split <;> omega
theorem sLoss_mono {τ : CT} (H : cOk τ) (n x : Nat) : sLoss τ n ≤ sLoss τ (n ||| x) := sLossL_mono (fun _ hc => sShort_mono H hc) _
/-! weight -/
theorem u144_31O {X : XT} {d : Nat} {h : HT} {Q : QT} {l0 : Option Value} {a0 : Int32} {l1 l2 l3 : Option Value} : wq X d 144 31 [l0, l1, l2, l3] [.ref 10001, .int a0] h Q = wq X d 144 32 [l0, l1, l2, l3] [.int (Int32.ofNat 8), .int a0] h Q := q_next (q_dec D144_0 17 rfl) rfl
theorem u145_59O {X : XT} {d : Nat} {h : HT} {Q : QT} {l0 : Option Value} {a0 : Int32} {l1 l2 l3 l4 l5 l6 l7 : Option Value} : wq X d 145 59 [l0, l1, l2, l3, l4, l5, l6, l7] [.ref 10001, .int a0] h Q = wq X d 145 60 [l0, l1, l2, l3, l4, l5, l6, l7] [.int (Int32.ofNat 8), .int a0] h Q := q_next (q_dec D145_1 8 rfl) rfl
theorem u145_73O {X : XT} {d : Nat} {h : HT} {Q : QT} {l0 : Option Value} {a0 : Int32} {l1 l2 l3 l4 l5 l6 l7 : Option Value} : wq X d 145 73 [l0, l1, l2, l3, l4, l5, l6, l7] [.ref 10001, .int a0] h Q = wq X d 145 74 [l0, l1, l2, l3, l4, l5, l6, l7] [.int (Int32.ofNat 8), .int a0] h Q := q_next (q_dec D145_1 14 rfl) rfl
theorem pc_one : ∀ i, i < 128 → ∀ m, m < 7 → i.testBit m = false → pcN (i ||| 2 ^ m) = pcN i + 1 := by decide +kernel
theorem pc_k : ∀ k, k < 8 → ∀ i, i < 2 ^ k → pcN i ≤ k := by decide +kernel
theorem p2m_iff : ∀ k, k < 8 → ∀ i, i < 128 → (i &&& (127 ^^^ (2 ^ k - 1)) = 0) = (i < 2 ^ k) := by decide +kernel
def wT (τ : CT) (m i : Nat) : Nat := fct (pcN i) * fct (τ 0 1 - 1 - pcN i) * (sLoss τ (i ||| 2 ^ m) - sLoss τ i)
def wS (τ : CT) (m i s : Nat) : Nat := if i < 2 ^ τ 0 1 ∧ i.testBit m = false then s + wT τ m i else s
theorem pc_men {τ : CT} {m i : Nat} (h7 : τ 0 1 ≤ 7) (hm : m < τ 0 1) (hi : i < 2 ^ τ 0 1) (hb : i.testBit m = false) : pcN i + 1 ≤ τ 0 1 := by
  have h8 := p2_7 h7
  rw [← pc_one i (by omega) m (by omega) hb]
  exact pc_k _ (by omega) _ (orb hi hm)
theorem wT_le {τ : CT} {m i : Nat} (H : cOk τ) (hm : m < τ 0 1) (hi : i < 2 ^ τ 0 1) (hb : i.testBit m = false) : wT τ m i ≤ 285120 := by
  have h7 := o_mn H
  have h1 := pc_men h7 hm hi hb
  have h2 := fct_2 (pcN i) (by omega) (τ 0 1 - 1 - pcN i) (by omega) (by omega)
  have h3 := sLoss_le H (i ||| 2 ^ m)
  exact Nat.le_trans (Nat.mul_le_mul h2 (show sLoss τ (i ||| 2 ^ m) - sLoss τ i ≤ 396 by omega)) (by decide)
theorem wS_le {τ : CT} {m : Nat} (H : cOk τ) (hm : m < τ 0 1) : ∀ n, fL (wS τ m) 0 n ≤ 285120 * n
  | 0 => Nat.le_refl _
  | n + 1 => by
    have ih := wS_le H hm n
    rw [fL_s]
    unfold wS at ih ⊢
    split
    · next z =>
      have := wT_le H hm z.1 z.2
      omega
    · omega
theorem b_weight {X : XT} {d T b f N : Nat} {h : HT} {τ : CT} {A : Nat → Int32} (H : CQ h T τ N A) (K : KQ h b f τ N A) (x w : Int32) : Pr X (d + 10) 144 [some (.ref 1), some (.int x), some (.int w), none] 294 [some (.ref 195), some (.int x), some (.int w), none, none, none] h := by
  have h7 := o_mn (cq_k H)
  have hp := cq_p H
  have hT := ct_T (cq_t H)
  have h8 := p2_7 h7
  have hal := sAll_lt (cq_k H)
  rcases ix_cases x (k := τ 0 1) (by omega) with ⟨m, hm, rfl, ix⟩ | ix
  · have hs2 := wS_le (cq_k H) hm 128
    have he : fL (wS τ m) 0 128 = fL (wS τ m) 0 (2 ^ τ 0 1) := fL_to (s := wS τ m) h8 (fun i o hi => if_neg (fun z => by omega))
    have hf := fct_7 (τ 0 1) (by omega)
    have hf0 := fct_pos (τ 0 1)
    have e1 : nI (τ 0 1) - 1 = nI (τ 0 1 - 1) := by rw [show (1 : Int32) = nI 1 from rfl, pk_sub (by omega)]
    have hp2 := p2_lt (show m < 7 by omega)
    have cs : ∀ (Q : QT), wq X (d + 9) 145 0 [some (.ref 1), some (.int (nI m)), none, none, none, none, none, none] [] h Q = Q (some (.int (nI (fL (wS τ m) 0 128)))) h := by
      intro Q
      simp only [u145_0, u145_1, u145_2, u145_3, u145_4, u145_5, u145_6, u145_7, eq_self, q_nl0, q_nlI, q_nlR, not_false_eq_true, q_nz0, q_nz1, q_zv0, q_zv1, q_tl1, q_tl0, q_wif, q_swc, q_swn, List.cons_append, List.nil_append, if_true, if_false, e10, e01, Bool.false_eq_true, nI_sh m (by omega)]
      obtain ⟨l', e⟩ := q_loopL (fun i (l : Option Value × Option Value × Option Value) => wq X (d + 9) 145 9 [some (.ref 1), some (.int (nI m)), some (.int (nI (fL (wS τ m) 0 i))), some (.int (nI (2 ^ m))), some (.int (nI i)), l.1, l.2.1, l.2.2] [] h Q) 128 (by
        intro i hi l
        have f1 : (nI i < 128) = True := eq_true (nI_lt (b := 128) hi (by decide))
        have f2 : (nI i &&& (nI (sAll τ) ^^^ (-1)) = 0) = (i < 2 ^ τ 0 1) := by
          rw [nI_not _ hi _ hal, nI_0eq (and_128 hi)]
          exact p2m_iff _ (by omega) i hi
        by_cases z : i < 2 ^ τ 0 1 ∧ i.testBit m = false
        · refine ⟨(some (.int (nI (pcN i))), some (.int (nI (τ 0 1 - 1 - pcN i))), some (.int (nI (sLoss τ (i ||| 2 ^ m) - sLoss τ i)))), ?_⟩
          have g1 := pc_men h7 hm z.1 z.2
          have g2 : nI (τ 0 1 - 1) - nI (pcN i) = nI (τ 0 1 - 1 - pcN i) := pk_sub (by omega)
          have g3 : (nI (pcN i) < Int32.ofNat 8) = True := eq_true (nI_lt (b := 8) (by omega) (by omega))
          have g4 : (nI (τ 0 1 - 1 - pcN i) < Int32.ofNat 8) = True := eq_true (nI_lt (b := 8) (by omega) (by omega))
          have g5 : (nI (τ 0 1 - 1 - pcN i) < 0) = False := oI_lt0 (by omega)
          have g6 : m_in (nI (pcN i)) 8 = true := q_in (by omega) (by decide)
          have g7 : m_in (nI (τ 0 1 - 1 - pcN i)) 8 = true := q_in (by omega) (by decide)
          have g8 : nI (sLoss τ (i ||| 2 ^ m)) - nI (sLoss τ i) = nI (sLoss τ (i ||| 2 ^ m) - sLoss τ i) := pk_sub (sLoss_mono (cq_k H) i (2 ^ m))
          have es : wS τ m i (fL (wS τ m) 0 i) = fL (wS τ m) 0 i + wT τ m i := if_pos z
          show wq X (d + 9) 145 9 _ _ _ _ = _
          rw [u145_9, fL_s, es]
          simp only [u145_11, u145_14, u145_17, u145_18, u145_20, u145_23, u145_26, u145_28, u145_29, u145_30, u145_33, u145_35, u145_38, u145_40, u145_41, u145_44, u145_47, u145_48, u145_49, u145_51, u145_52, u145_54, u145_56, u145_59, u145_60, u145_63, u145_65, u145_68, u145_70, u145_73, u145_74, u145_77, u145_78, u145_81, u145_83, u145_84, u145_85, u145_88, u145_89, u145_92, u145_94, u145_97, u145_98, u145_100, u145_101, u145_104, u145_106O, u145_107, u145_110, u145_112O, u145_113, u145_114, u145_116, u145_117, u145_118, u145_119, u145_122, u145_59O, u145_73O, eq_self, q_nl0, q_nlI, q_nlR, not_false_eq_true, q_nz0, q_nz1, q_zv0, q_zv1, q_tl1, q_tl0, q_wif, q_swc, q_swn, List.cons_append, List.nil_append, if_true, if_false, e10, e01, Bool.false_eq_true, sh_1, shT_0 hT, f1, c_isSet (cq_t H) (cq_T H), f2, eq_true z.1, nI_and, and_b0 _ hi m (by omega), z.2, c_bitCount hi, cq_T H, ct_mn (cq_t H), e1, g2, g3, g4, g5, g6, g7, nI_or, c_lossBy (cq_t H) (or_128 hi hp2), c_lossBy (cq_t H) hi, g8, q_cl (show pcN i < 2 ^ 31 by omega), q_cl (show τ 0 1 - 1 - pcN i < 2 ^ 31 by omega), ord_f _ (show pcN i < 8 by omega), ord_f _ (show τ 0 1 - 1 - pcN i < 8 by omega), pk_mul, nI_add, nI_1]
          rfl
        · refine ⟨l, ?_⟩
          have es : wS τ m i (fL (wS τ m) 0 i) = fL (wS τ m) 0 i := if_neg z
          show wq X (d + 9) 145 9 _ _ _ _ = _
          rw [u145_9, fL_s, es]
          by_cases y : i < 2 ^ τ 0 1
          · have y2 : i.testBit m = true := by simpa using fun q => z ⟨y, q⟩
            simp only [u145_11, u145_14, u145_17, u145_18, u145_20, u145_23, u145_26, u145_28, u145_29, u145_30, u145_119, u145_122, eq_self, q_nl0, q_nlI, q_nlR, not_false_eq_true, q_nz0, q_nz1, q_zv0, q_zv1, q_tl1, q_tl0, q_wif, q_swc, q_swn, List.cons_append, List.nil_append, if_true, if_false, e10, e01, Bool.false_eq_true, sh_1, shT_0 hT, f1, c_isSet (cq_t H) (cq_T H), f2, eq_true y, nI_and, and_b0 _ hi m (by omega), y2, Bool.true_eq_false, nI_1]
          · simp only [u145_11, u145_14, u145_17, u145_18, u145_20, u145_23, u145_26, u145_28, u145_29, u145_30, u145_119, u145_122, eq_self, q_nl0, q_nlI, q_nlR, not_false_eq_true, q_nz0, q_nz1, q_zv0, q_zv1, q_tl1, q_tl0, q_wif, q_swc, q_swn, List.cons_append, List.nil_append, if_true, if_false, e10, e01, Bool.false_eq_true, sh_1, shT_0 hT, f1, c_isSet (cq_t H) (cq_T H), f2, eq_false y, nI_1]) (none, none, none)
      refine Eq.trans e ?_
      show wq X (d + 9) 145 9 _ _ _ _ = _
      rw [u145_9]
      simp only [u145_11, u145_14, u145_125, u145_126, eq_self, q_nl0, q_nlI, q_nlR, not_false_eq_true, q_nz0, q_nz1, q_zv0, q_zv1, q_tl1, q_tl0, q_wif, q_swc, q_swn, List.cons_append, List.nil_append, if_true, if_false, e10, e01, Bool.false_eq_true, eq_false (show ¬ nI 128 < 128 by decide)]
    have ks : ∀ (Q : QT), ∃ l5, wq X (d + 10) 294 19 [some (.ref 195), some (.int (nI m)), some (.int w), none, none, none] [] h Q = wq X (d + 10) 294 100 [some (.ref 195), some (.int (nI m)), some (.int w), some (.int (nI (fL (wS τ m) 0 (2 ^ τ 0 1)))), some (.int (nI (2 ^ τ 0 1))), l5] [] h Q := by
      intro Q
      simp only [u294_19, u294_20, u294_21, u294_22, eq_self, q_nl0, q_nlI, q_nlR, not_false_eq_true, q_nz0, q_nz1, q_zv0, q_zv1, q_tl1, q_tl0, q_wif, q_swc, q_swn, List.cons_append, List.nil_append, if_true, if_false, e10, e01, Bool.false_eq_true]
      obtain ⟨l', e⟩ := q_loopL (fun i (l : Option Value) => wq X (d + 10) 294 24 [some (.ref 195), some (.int (nI m)), some (.int w), some (.int (nI (fL (wS τ m) 0 i))), some (.int (nI i)), l] [] h Q) (2 ^ τ 0 1) (by
        intro i hi l
        have hi' : i < 128 := by omega
        have hb := bit01 hi' (show m < 8 by omega)
        by_cases z : i.testBit m = false
        · refine ⟨some (.int (nI (fct (pcN i) * fct (τ 0 1 - 1 - pcN i)))), ?_⟩
          have g1 := pc_men h7 hm hi z
          have g2 : nI (τ 0 1 - 1) - nI (pcN i) = nI (τ 0 1 - 1 - pcN i) := pk_sub (by omega)
          have g8 : nI (sLoss τ (i ||| 2 ^ m)) - nI (sLoss τ i) = nI (sLoss τ (i ||| 2 ^ m) - sLoss τ i) := pk_sub (sLoss_mono (cq_k H) i (2 ^ m))
          have es : wS τ m i (fL (wS τ m) 0 i) = fL (wS τ m) 0 i + wT τ m i := if_pos ⟨hi, z⟩
          show wq X (d + 10) 294 24 _ _ _ _ = _
          rw [u294_24, fL_s, es]
          simp only [u294_26, u294_27, u294_30, u294_33, u294_35, u294_36, u294_39, u294_42, u294_45, u294_47, u294_50, u294_53, u294_54, u294_57, u294_58, u294_59, u294_61, u294_64, u294_65, u294_68, u294_69, u294_71, u294_72, u294_74, u294_75, u294_77, u294_78, u294_79, u294_80, u294_81, u294_84, u294_85, u294_87, u294_90, u294_91, u294_92, u294_93, u294_94, u294_97, eq_self, q_nl0, q_nlI, q_nlR, not_false_eq_true, q_nz0, q_nz1, q_zv0, q_zv1, q_tl1, q_tl0, q_wif, q_swc, q_swn, List.cons_append, List.nil_append, if_true, if_false, e10, e01, Bool.false_eq_true, sh_195, k_everybody (mq_t K), le_all h7 hi, k_has, hb, z, k_bitsOf hi', k_fact (show pcN i < 8 by omega), k_many (mq_t K), e1, g2, k_fact (show τ 0 1 - 1 - pcN i < 8 by omega), nI_sh m (by omega), nI_or, k_lossBy (mq_t K) (or_128 hi' hp2), k_lossBy (mq_t K) hi', g8, pk_mul, nI_add, nI_1]
          rfl
        · refine ⟨l, ?_⟩
          have es : wS τ m i (fL (wS τ m) 0 i) = fL (wS τ m) 0 i := if_neg (fun q => z q.2)
          have z' : i.testBit m = true := by simpa using z
          show wq X (d + 10) 294 24 _ _ _ _ = _
          rw [u294_24, fL_s, es]
          simp only [u294_26, u294_27, u294_30, u294_33, u294_35, u294_36, u294_39, u294_42, u294_45, u294_47, u294_50, u294_53, u294_54, u294_57, u294_58, u294_59, u294_61, u294_64, u294_65, u294_68, u294_69, u294_71, u294_72, u294_74, u294_75, u294_77, u294_78, u294_79, u294_80, u294_81, u294_84, u294_85, u294_87, u294_90, u294_91, u294_92, u294_93, u294_94, u294_97, eq_self, q_nl0, q_nlI, q_nlR, not_false_eq_true, q_nz0, q_nz1, q_zv0, q_zv1, q_tl1, q_tl0, q_wif, q_swc, q_swn, List.cons_append, List.nil_append, if_true, if_false, e10, e01, Bool.false_eq_true, sh_195, k_everybody (mq_t K), le_all h7 hi, k_has, hb, z', nI_1]) none
      refine ⟨l', e.trans ?_⟩
      show wq X (d + 10) 294 24 _ _ _ _ = _
      rw [u294_24]
      simp only [u294_26, u294_27, u294_30, eq_self, q_nl0, q_nlI, q_nlR, not_false_eq_true, q_nz0, q_nz1, q_zv0, q_zv1, q_tl1, q_tl0, q_wif, q_swc, q_swn, List.cons_append, List.nil_append, if_true, if_false, e10, e01, Bool.false_eq_true, sh_195, k_everybody (mq_t K), gt_all h7]
    rw [he] at cs hs2
    have e8 : m_in (nI (τ 0 1)) 8 = true := q_in (by omega) (by decide)
    have e9 : (nI (τ 0 1)).toNatClampNeg = τ 0 1 := q_cl (by omega)
    have e7 : (nI (τ 0 1) < Int32.ofNat 8) = True := eq_true (nI_lt (b := 8) (by omega) (by omega))
    have hs3 : fL (wS τ m) 0 (2 ^ τ 0 1) < 2 ^ 31 := by omega
    have hf3 : fct (τ 0 1) < 2 ^ 31 := by omega
    have hg : Nat.gcd (fL (wS τ m) 0 (2 ^ τ 0 1)) (fct (τ 0 1)) ≤ fct (τ 0 1) := Nat.le_of_dvd hf0 (Nat.gcd_dvd_right _ _)
    have hg0 := Nat.gcd_pos_of_pos_right (fL (wS τ m) 0 (2 ^ τ 0 1)) hf0
    have eg : (nI (Nat.gcd (fL (wS τ m) 0 (2 ^ τ 0 1)) (fct (τ 0 1))) = 0) = False := eq_false (nI_ne0 hg0 (by omega))
    rcases w01 w with ⟨w0, wi⟩ | ⟨w0, w1, wi⟩ | ⟨w0, w1, wi⟩
    · refine Pr_pure (if w = 0 then nI (fL (wS τ m) 0 (2 ^ τ 0 1)) / nI (Nat.gcd (fL (wS τ m) 0 (2 ^ τ 0 1)) (fct (τ 0 1))) else nI (fct (τ 0 1)) / nI (Nat.gcd (fL (wS τ m) 0 (2 ^ τ 0 1)) (fct (τ 0 1)))) (fun Q => ?_) (fun Q => ?_)
      · simp only [u144_0, u144_1, u144_2, u144_5, u144_8, u144_9, u144_12, u144_13, u144_14, u144_17, u144_18, u144_19, u144_20, u144_23, u144_26, u144_27, u144_28, u144_31, u144_32, u144_35, u144_36, u144_37, u144_38, u144_39, u144_42, u144_45, u144_46O, u144_47, u144_48, u144_51, u144_31O, eq_self, q_nl0, q_nlI, q_nlR, not_false_eq_true, q_nz0, q_nz1, q_zv0, q_zv1, q_tl1, q_tl0, q_wif, q_swc, q_swn, List.cons_append, List.nil_append, if_true, if_false, e10, e01, Bool.false_eq_true, sh_1, shT_0 hT, c_isIx (cq_t H) (cq_T H), ix, eq_true w0, cq_T H, ct_mn (cq_t H), e7, cs, e8, e9, ord_f _ (show τ 0 1 < 8 by omega), c_lowest hs3 hf3 hf0]
      · obtain ⟨l5, e⟩ := ks Q
        simp only [u294_0, u294_1, u294_2, u294_5, u294_8, u294_9, u294_10, u294_11, u294_14, u294_17, u294_18, eq_self, q_nl0, q_nlI, q_nlR, not_false_eq_true, q_nz0, q_nz1, q_zv0, q_zv1, q_tl1, q_tl0, q_wif, q_swc, q_swn, List.cons_append, List.nil_append, if_true, if_false, e10, e01, Bool.false_eq_true, sh_195, k_isMan (mq_t K), ix, k_isIn, wi, e]
        simp only [u294_100, u294_101, u294_104, u294_107, u294_109, u294_110, u294_113, u294_114, u294_117, u294_119, u294_121, u294_122, u294_125, u294_126, eq_self, q_nl0, q_nlI, q_nlR, not_false_eq_true, q_nz0, q_nz1, q_zv0, q_zv1, q_tl1, q_tl0, q_wif, q_swc, q_swn, List.cons_append, List.nil_append, if_true, if_false, e10, e01, Bool.false_eq_true, sh_195, k_many (mq_t K), k_fact (show τ 0 1 < 8 by omega), eq_true w0, k_divisor hf3 hs3, Nat.gcd_comm (fct (τ 0 1)), eg, not_false_eq_true]
    · refine Pr_pure (if w = 0 then nI (fL (wS τ m) 0 (2 ^ τ 0 1)) / nI (Nat.gcd (fL (wS τ m) 0 (2 ^ τ 0 1)) (fct (τ 0 1))) else nI (fct (τ 0 1)) / nI (Nat.gcd (fL (wS τ m) 0 (2 ^ τ 0 1)) (fct (τ 0 1)))) (fun Q => ?_) (fun Q => ?_)
      · simp only [u144_0, u144_1, u144_2, u144_5, u144_8, u144_9, u144_12, u144_13, u144_14, u144_17, u144_18, u144_19, u144_20, u144_23, u144_26, u144_27, u144_28, u144_31, u144_32, u144_35, u144_36, u144_37, u144_38, u144_39, u144_42, u144_45, u144_46O, u144_47, u144_48, u144_51, u144_31O, eq_self, q_nl0, q_nlI, q_nlR, not_false_eq_true, q_nz0, q_nz1, q_zv0, q_zv1, q_tl1, q_tl0, q_wif, q_swc, q_swn, List.cons_append, List.nil_append, if_true, if_false, e10, e01, Bool.false_eq_true, sh_1, shT_0 hT, c_isIx (cq_t H) (cq_T H), ix, eq_false w0, eq_true w1, cq_T H, ct_mn (cq_t H), e7, cs, e8, e9, ord_f _ (show τ 0 1 < 8 by omega), c_lowest hs3 hf3 hf0]
      · obtain ⟨l5, e⟩ := ks Q
        simp only [u294_0, u294_1, u294_2, u294_5, u294_8, u294_9, u294_10, u294_11, u294_14, u294_17, u294_18, eq_self, q_nl0, q_nlI, q_nlR, not_false_eq_true, q_nz0, q_nz1, q_zv0, q_zv1, q_tl1, q_tl0, q_wif, q_swc, q_swn, List.cons_append, List.nil_append, if_true, if_false, e10, e01, Bool.false_eq_true, sh_195, k_isMan (mq_t K), ix, k_isIn, wi, e]
        simp only [u294_100, u294_101, u294_104, u294_107, u294_109, u294_110, u294_113, u294_114, u294_117, u294_119, u294_121, u294_122, u294_125, u294_126, eq_self, q_nl0, q_nlI, q_nlR, not_false_eq_true, q_nz0, q_nz1, q_zv0, q_zv1, q_tl1, q_tl0, q_wif, q_swc, q_swn, List.cons_append, List.nil_append, if_true, if_false, e10, e01, Bool.false_eq_true, sh_195, k_many (mq_t K), k_fact (show τ 0 1 < 8 by omega), eq_false w0, k_divisor hf3 hs3, Nat.gcd_comm (fct (τ 0 1)), eg, not_false_eq_true]
    · refine Pr_pure (-1) (fun Q => ?_) (fun Q => ?_)
      · simp only [u144_0, u144_1, u144_2, u144_5, u144_8, u144_9, u144_12, u144_13, u144_14, u144_17, u144_18, eq_self, q_nl0, q_nlI, q_nlR, not_false_eq_true, q_nz0, q_nz1, q_zv0, q_zv1, q_tl1, q_tl0, q_wif, q_swc, q_swn, List.cons_append, List.nil_append, if_true, if_false, e10, e01, Bool.false_eq_true, sh_1, c_isIx (cq_t H) (cq_T H), ix, eq_false w0, eq_false w1]
      · simp only [u294_0, u294_1, u294_2, u294_5, u294_8, u294_9, u294_10, u294_11, u294_14, u294_17, u294_18, eq_self, q_nl0, q_nlI, q_nlR, not_false_eq_true, q_nz0, q_nz1, q_zv0, q_zv1, q_tl1, q_tl0, q_wif, q_swc, q_swn, List.cons_append, List.nil_append, if_true, if_false, e10, e01, Bool.false_eq_true, sh_195, k_isMan (mq_t K), ix, k_isIn, wi]
  · refine Pr_pure (-1) (fun Q => ?_) (fun Q => ?_)
    · simp only [u144_0, u144_1, u144_2, u144_5, u144_8, u144_9, u144_12, u144_13, u144_14, u144_17, u144_18, eq_self, q_nl0, q_nlI, q_nlR, not_false_eq_true, q_nz0, q_nz1, q_zv0, q_zv1, q_tl1, q_tl0, q_wif, q_swc, q_swn, List.cons_append, List.nil_append, if_true, if_false, e10, e01, Bool.false_eq_true, sh_1, c_isIx (cq_t H) (cq_T H), ix]
    · simp only [u294_0, u294_1, u294_2, u294_5, u294_8, u294_9, u294_10, u294_11, u294_14, u294_17, u294_18, eq_self, q_nl0, q_nlI, q_nlR, not_false_eq_true, q_nz0, q_nz1, q_zv0, q_zv1, q_tl1, q_tl0, q_wif, q_swc, q_swn, List.cons_append, List.nil_append, if_true, if_false, e10, e01, Bool.false_eq_true, sh_195, k_isMan (mq_t K), ix]
