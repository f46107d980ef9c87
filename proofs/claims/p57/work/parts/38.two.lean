/-! TWO STATES TOGETHER: the model's row A is the state itself, the class's r says the same -/
def aN (A : Nat → Int32) : Nat := (A 14).toNatClampNeg
def Rep (τ : CT) (r : RS) (A : Nat → Int32) : Prop := (r.1 0 = A 14 ∧ r.1 3 = A 16 ∧ r.1 4 = A 17 ∧ r.1 5 = A 15 ∧ r.1 6 = A 18 ∧ r.1 7 = A 19) ∧ (∀ m, m < τ 0 1 → r.2.2 m = A m) ∧ ∀ m, m < τ 0 1 → (aN A).testBit m = true → r.2.1 m = A (7 + m)
def aOk (τ : CT) (N : Nat) (A : Nat → Int32) : Prop := (A 14 = nI (aN A) ∧ aN A < 2 ^ τ 0 1) ∧ (∃ g, g < 2 ^ τ 0 2 ∧ A 15 = nI g) ∧ (∃ s, s < 1000 ∧ A 19 = nI s) ∧ ∃ y, y ≤ N ∧ A 18 = nI y ∧ ∀ m, m < τ 0 1 → ∃ z, z ≤ y ∧ A (7 + m) = nI z ∧ ((aN A).testBit m = false → z = 0)
/-- who is out as the day begins to cost -/
def aG (τ : CT) (A : Nat → Int32) : Nat := aN A ||| sFol τ (aN A)
def aB (τ : CT) (A : Nat → Int32) : Nat := sBackM τ (aAge τ A (aG τ A)) (aG τ A) (τ 0 1)
def aD (τ : CT) (A : Nat → Int32) : Nat → Int32 := aDay τ A (aN A)
def nSeed (s : Nat) : Nat := (137 * s + 71) % 1000
def aF (τ : CT) (A : Nat → Int32) : Bool := decide (nSeed (A 19).toNatClampNeg % 100 < τ 0 3 * pcN (sShort τ (aG τ A)))
/-- what the day costs -/
def aC (τ : CT) (A : Nat → Int32) : Nat := if aF τ A = true then sLoss τ (aG τ A) + τ 0 4 else sLoss τ (aG τ A)
theorem aN_lt {τ : CT} {N : Nat} {A : Nat → Int32} (H : cOk τ) (K : aOk τ N A) : aN A < 128 := Nat.lt_of_lt_of_le K.1.2 (p2_7 (o_mn H))
theorem aG_lt {τ : CT} {N : Nat} {A : Nat → Int32} (K : aOk τ N A) : aG τ A < 2 ^ τ 0 1 := Nat.or_lt_two_pow K.1.2 (sFol_all _)
theorem aG_128 {τ : CT} {N : Nat} {A : Nat → Int32} (H : cOk τ) (K : aOk τ N A) : aG τ A < 128 := Nat.lt_of_lt_of_le (aG_lt K) (p2_7 (o_mn H))
theorem aB_lt {τ : CT} {A : Nat → Int32} : aB τ A < 2 ^ τ 0 1 := sBackM_lt _
theorem nSeed_lt {s : Nat} : nSeed s < 1000 := Nat.mod_lt _ (by decide)
theorem aSeed_n {A : Nat → Int32} {s : Nat} (h : A 19 = nI s) (hs : s < 1000) : aSeed A = nI (nSeed s) := by
  unfold aSeed nSeed
  rw [h, show (137 : Int32) = nI 137 from rfl, pk_mul, show (71 : Int32) = nI 71 from rfl, nI_add, show (1000 : Int32) = nI 1000 from rfl, pk_rem (by omega) (by decide) (by decide)]
theorem sSeed_n {r : RS} {s : Nat} (h : r.1 7 = nI s) (hs : s < 1000) : sSeed r = nI (nSeed s) := by
  unfold sSeed nSeed
  rw [h, show (137 : Int32) = nI 137 from rfl, pk_mul, show (71 : Int32) = nI 71 from rfl, nI_add, show (1000 : Int32) = nI 1000 from rfl, pk_rem (by omega) (by decide) (by decide), Nat.mul_comm]
theorem r100 {s : Nat} (hs : s < 1000) : nI s - nI s / 100 * 100 = nI (s % 100) := by
  rw [show (100 : Int32) = nI 100 from rfl, pk_rem (by omega) (by decide) (by decide)]
theorem foe_le {τ : CT} (H : cOk τ) (g : Nat) : τ 0 3 * pcN (sShort τ g) ≤ 700 := by
  have h1 := o_fo H
  have h2 := pcN_le _ (show sShort τ g < 128 by have := sShort_16 H g; omega)
  exact Nat.le_trans (Nat.mul_le_mul h1 h2) (by decide)
theorem odd_lt {τ : CT} (H : cOk τ) {s : Nat} (g : Nat) : (nI (s % 100) < sOdd τ g) = (s % 100 < τ 0 3 * pcN (sShort τ g)) := by
  have h1 := foe_le H g
  have h2 : s % 100 < 100 := Nat.mod_lt _ (by decide)
  unfold sOdd
  rw [show (100 : Int32) = nI 100 from rfl]
  by_cases z : 100 < τ 0 3 * pcN (sShort τ g)
  · rw [if_pos (nI_lt z (by omega)), eq_true (nI_lt h2 (by decide)), eq_true (show s % 100 < τ 0 3 * pcN (sShort τ g) by omega)]
  · rw [if_neg (nI_nlt (by omega) (by omega))]
    exact propext (nI_ltI (by omega) (by omega))
theorem aFoe_v {τ : CT} {A : Nat → Int32} {g k : Nat} (z : k ≠ 16) (y : k ≠ 17) : aFoe τ A g k = aMid τ A g k := by
  unfold aFoe
  split
  · show (if k = 17 then _ else if k = 16 then _ else _) = _
    rw [if_neg y, if_neg z]
  · rfl
theorem aMid_v {τ : CT} {A : Nat → Int32} {g k : Nat} (z : k ≠ 16) (y : k ≠ 19) : aMid τ A g k = aEatL (aWalk A g) g (τ 0 1) k := by
  show (if k = 19 then _ else if k = 16 then _ else _) = _
  rw [if_neg y, if_neg z]
theorem aWalk_v {A : Nat → Int32} {g k : Nat} (z : k ≠ 14) : aWalk A g k = A k := if_neg z
theorem aAge_loaf {τ : CT} {A : Nat → Int32} {g k : Nat} (h : k < 7) : aAge τ A g k = if k < τ 0 1 ∧ g.testBit k = true ∧ 0 < A k then A k - 1 else A k := by
  unfold aAge
  rw [aAgeL_o (Or.inl h), aFoe_v (by omega) (by omega), aMid_v (by omega) (by omega)]
  unfold aEatL
  rw [aWalk_v (by omega)]
theorem aAge_day {τ : CT} {A : Nat → Int32} {g m : Nat} (H : cOk τ) (h : m < τ 0 1) : aAge τ A g (7 + m) = if g.testBit m = true then A (7 + m) + 1 else A (7 + m) := by
  have h7 := o_mn H
  have e : aFoe τ A g (7 + m) = A (7 + m) := by
    rw [aFoe_v (by omega) (by omega), aMid_v (by omega) (by omega), aEatL_ge (by omega), aWalk_v (by omega)]
  show (if 7 ≤ 7 + m ∧ 7 + m < 7 + τ 0 1 ∧ g.testBit (7 + m - 7) = true then aFoe τ A g (7 + m) + 1 else aFoe τ A g (7 + m)) = _
  rw [e, show 7 + m - 7 = m by omega]
  by_cases z : g.testBit m = true
  · rw [if_pos z, if_pos ⟨by omega, by omega, z⟩]
  · rw [if_neg z, if_neg (fun y => z y.2.2)]
theorem aAge_ge {τ : CT} {A : Nat → Int32} {g k : Nat} (H : cOk τ) (h : 14 ≤ k) : aAge τ A g k = aFoe τ A g k := by
  have h7 := o_mn H
  exact aAgeL_o (Or.inr (by omega))
theorem aHome_ge {τ : CT} {A : Nat → Int32} {n g k : Nat} (H : cOk τ) (h : 14 < k ∨ k < 7) : aHome τ A n g k = A k := by
  have h7 := o_mn H
  show (if k = 14 then _ else if 7 ≤ k ∧ k < 7 + τ 0 1 ∧ g.testBit (k - 7) = true then 0 else A k) = A k
  rw [if_neg (by omega), if_neg (by omega)]
theorem aHome_14 {τ : CT} {A : Nat → Int32} {n g : Nat} : aHome τ A n g 14 = nI (n &&& (127 ^^^ g)) := by
  unfold aHome aHomeL
  exact if_pos rfl
theorem aHome_day {τ : CT} {A : Nat → Int32} {n g m : Nat} (H : cOk τ) (h : m < τ 0 1) : aHome τ A n g (7 + m) = if g.testBit m = true then 0 else A (7 + m) := by
  have h7 := o_mn H
  show (if 7 + m = 14 then _ else if 7 ≤ 7 + m ∧ 7 + m < 7 + τ 0 1 ∧ g.testBit (7 + m - 7) = true then 0 else A (7 + m)) = _
  rw [if_neg (by omega), show 7 + m - 7 = m by omega]
  by_cases z : g.testBit m = true
  · rw [if_pos z, if_pos ⟨by omega, by omega, z⟩]
  · rw [if_neg z, if_neg (fun y => z y.2.2)]
theorem aD_v {τ : CT} {A : Nat → Int32} {k : Nat} (z : k ≠ 18) : aD τ A k = aHome τ (aAge τ A (aG τ A)) (aG τ A) (aB τ A) k := if_neg z
theorem aD_18 {τ : CT} {A : Nat → Int32} (H : cOk τ) : aD τ A 18 = A 18 + 1 := by
  show aHome τ (aAge τ A (aG τ A)) (aG τ A) (aB τ A) 18 + 1 = _
  rw [aHome_ge H (by omega), aAge_ge H (by omega), aFoe_v (by omega) (by omega), aMid_v (by omega) (by omega), aEatL_ge (by have := o_mn H; omega)]
  rfl
theorem aD_ge {τ : CT} {A : Nat → Int32} {k : Nat} (H : cOk τ) (h : 20 ≤ k ∨ k = 15) : aD τ A k = A k := by
  rw [aD_v (by omega), aHome_ge H (by omega), aAge_ge H (by omega), aFoe_v (by omega) (by omega), aMid_v (by omega) (by omega), aEatL_ge (by have := o_mn H; omega), aWalk_v (by omega)]
theorem aD_19 {τ : CT} {A : Nat → Int32} (H : cOk τ) : aD τ A 19 = aSeed A := by
  rw [aD_v (by omega), aHome_ge H (by omega), aAge_ge H (by omega), aFoe_v (by omega) (by omega)]
  rfl
theorem aD_14 {τ : CT} {A : Nat → Int32} : aD τ A 14 = nI (aG τ A &&& (127 ^^^ aB τ A)) := by
  rw [aD_v (by omega), aHome_14]
theorem aD_n {τ : CT} {N : Nat} {A : Nat → Int32} (H : cOk τ) (K : aOk τ N A) : aN (aD τ A) = aG τ A &&& (127 ^^^ aB τ A) := by
  have h1 := aG_128 H K
  have h2 : aG τ A &&& (127 ^^^ aB τ A) ≤ aG τ A := Nat.and_le_left
  unfold aN
  rw [aD_14]
  exact q_cl (by omega)
theorem aF_i {τ : CT} {N : Nat} {A : Nat → Int32} (H : cOk τ) (K : aOk τ N A) : (aSeed A - aSeed A / 100 * 100 < sOdd τ (aG τ A)) = (aF τ A = true) := by
  obtain ⟨s, hs, e⟩ := K.2.2.1
  rw [aSeed_n e hs, r100 nSeed_lt, odd_lt H]
  unfold aF
  rw [e, q_cl (by omega)]
  exact propext ⟨fun z => decide_eq_true z, fun z => of_decide_eq_true z⟩
theorem aF_r {τ : CT} {N : Nat} {A : Nat → Int32} {r : RS} (H : cOk τ) (K : aOk τ N A) (R : Rep τ r A) : sFoeIn τ r (aN A) = aF τ A := by
  obtain ⟨s, hs, e⟩ := K.2.2.1
  have hf := foe_le H (aG τ A)
  have h2 : nSeed s % 100 < 100 := Nat.mod_lt _ (by decide)
  unfold sFoeIn aF
  rw [sSeed_n (R.1.2.2.2.2.2.trans e) hs, r100 nSeed_lt, e, q_cl (show s < 2 ^ 31 by omega)]
  exact decide_eq_decide.mpr (nI_ltI (by omega) (by have : aG τ A = aN A ||| sFol τ (aN A) := rfl; rw [← this]; omega))
theorem aC_le {τ : CT} {A : Nat → Int32} (H : cOk τ) : aC τ A ≤ 1395 := by
  have h1 := sLoss_le H (aG τ A)
  have h2 : τ 0 4 ≤ 999 := H.2.2.2.2.1
  unfold aC
  split <;> omega
theorem aC_r {τ : CT} {N : Nat} {A : Nat → Int32} {r : RS} (H : cOk τ) (K : aOk τ N A) (R : Rep τ r A) : sCost τ r (aN A) = nI (aC τ A) := by
  unfold sCost aC
  rw [aF_r H K R]
  split
  · rw [nI_add]
    rfl
  · rfl
theorem aD_16 {τ : CT} {N : Nat} {A : Nat → Int32} (H : cOk τ) (K : aOk τ N A) : aD τ A 16 = A 16 + nI (aC τ A) := by
  rw [aD_v (by omega), aHome_ge H (by omega), aAge_ge H (by omega)]
  unfold aFoe aC
  simp only [aF_i H K]
  split
  · show A 16 + nI (sLoss τ (aG τ A)) + nI (τ 0 4) = _
    rw [Int32.add_assoc, nI_add]
  · rfl
theorem aD_17 {τ : CT} {N : Nat} {A : Nat → Int32} (H : cOk τ) (K : aOk τ N A) : aD τ A 17 = if aF τ A = true then A 17 + 1 else A 17 := by
  have h7 := o_mn H
  rw [aD_v (by omega), aHome_ge H (by omega), aAge_ge H (by omega)]
  unfold aFoe
  simp only [aF_i H K]
  split
  · rfl
  · rw [aMid_v (by omega) (by omega), aEatL_ge (by omega), aWalk_v (by omega)]
/-! the class's evening is the model's -/
theorem nt_or {a b i : Nat} (h : (a ||| b).testBit i = true) (hb : b.testBit i = false) : a.testBit i = true := by
  rw [Nat.testBit_or, hb, Bool.or_false] at h
  exact h
theorem rDays {τ : CT} {N : Nat} {A : Nat → Int32} {r : RS} (H : cOk τ) (K : aOk τ N A) (R : Rep τ r A) {m : Nat} (hm : m < τ 0 1) (hb : (aG τ A).testBit m = true) : (rPre τ r (aN A)).2.1 m + 1 = aAge τ A (aG τ A) (7 + m) := by
  have h7 := o_mn H
  rw [aAge_day H hm, if_pos hb]
  show (if m < 7 ∧ (sFol τ (aN A)).testBit m = true then 0 else r.2.1 m) + 1 = _
  by_cases z : (sFol τ (aN A)).testBit m = true
  · rw [if_pos ⟨by omega, z⟩]
    obtain ⟨_, _, _, y, _, _, hd⟩ := K
    obtain ⟨v, _, e, f⟩ := hd m hm
    rw [e, f (sFolL_bit _ _ z)]
    rfl
  · rw [if_neg (fun w => z w.2), R.2.2 m hm (nt_or hb (by simpa using z))]
theorem rLoaf {τ : CT} {A : Nat → Int32} {r : RS} (H : cOk τ) (R : Rep τ r A) {m : Nat} (hm : m < τ 0 1) : (rPre τ r (aN A)).2.2 m = aAge τ A (aG τ A) m := by
  have h7 := o_mn H
  rw [aAge_loaf (by omega)]
  show (if m < 7 ∧ (aG τ A).testBit m = true ∧ 0 < r.2.2 m then r.2.2 m - 1 else r.2.2 m) = _
  rw [R.2.1 m hm]
  by_cases z : (aG τ A).testBit m = true ∧ 0 < A m
  · rw [if_pos ⟨by omega, z⟩, if_pos ⟨hm, z⟩]
  · rw [if_neg (fun w => z w.2), if_neg (fun w => z w.2)]
theorem sBack_i {τ : CT} {N : Nat} {A : Nat → Int32} {r : RS} (H : cOk τ) (K : aOk τ N A) (R : Rep τ r A) : ∀ i, i ≤ τ 0 1 → sBackL τ (rPre τ r (aN A)) (aG τ A) i = sBackM τ (aAge τ A (aG τ A)) (aG τ A) i
  | 0, _ => rfl
  | i + 1, hi => by
    have ih := sBack_i H K R i (by omega)
    unfold sBackL sBackM
    rw [ih, rLoaf H R (by omega)]
    by_cases z : (aG τ A).testBit i = true
    · rw [rDays H K R (by omega) z]
    · rw [if_neg (fun w => z w.1), if_neg (fun w => z w.1)]
theorem sBackL_more {τ : CT} {r : RS} {n k : Nat} (hn : n < 2 ^ k) : ∀ j, sBackL τ r n (k + j) = sBackL τ r n k
  | 0 => rfl
  | j + 1 => by
    refine (if_neg ?_).trans (sBackL_more hn j)
    rintro ⟨w, _⟩
    have : k + j < k := bit_lt hn w
    omega
theorem sBack_e {τ : CT} {N : Nat} {A : Nat → Int32} {r : RS} (H : cOk τ) (K : aOk τ N A) (R : Rep τ r A) : sBack τ (rPre τ r (aN A)) (aG τ A) = aB τ A := by
  have h7 := o_mn H
  have := sBackL_more (τ := τ) (r := rPre τ r (aN A)) (aG_lt K) (7 - τ 0 1)
  rw [show τ 0 1 + (7 - τ 0 1) = 7 by omega] at this
  unfold sBack
  rw [this]
  exact sBack_i H K R _ (Nat.le_refl _)
theorem and_bit {a b i : Nat} (hi : i < 7) : (a &&& (127 ^^^ b)).testBit i = (a.testBit i && !b.testBit i) := by
  rw [Nat.testBit_and, Nat.testBit_xor]
  have : Nat.testBit 127 i = true := by
    have h : ∀ i, i < 7 → Nat.testBit 127 i = true := by decide
    exact h i hi
  rw [this, Bool.true_xor]
theorem aD_day {τ : CT} {A : Nat → Int32} {m : Nat} (H : cOk τ) (hm : m < τ 0 1) : aD τ A (7 + m) = if (aB τ A).testBit m = true then 0 else if (aG τ A).testBit m = true then A (7 + m) + 1 else A (7 + m) := by
  have h7 := o_mn H
  rw [aD_v (by omega), aHome_day H hm, aAge_day H hm]
theorem aD_loaf {τ : CT} {A : Nat → Int32} {m : Nat} (H : cOk τ) (hm : m < 7) : aD τ A m = aAge τ A (aG τ A) m := by
  rw [aD_v (by omega), aHome_ge H (by omega)]
/-- a day keeps all this -/
theorem d_ok {τ : CT} {N : Nat} {A : Nat → Int32} (H : cOk τ) (K : aOk τ N A) : aOk τ (N + 1) (aD τ A) := by
  have h7 := o_mn H
  have hg := aG_lt K
  have hg8 := aG_128 H K
  have hle : aG τ A &&& (127 ^^^ aB τ A) ≤ aG τ A := Nat.and_le_left
  have hn := aD_n H K
  refine ⟨⟨by rw [hn]; exact aD_14, by rw [hn]; omega⟩, ?_, ?_, ?_⟩
  · obtain ⟨g, g1, g2⟩ := K.2.1
    exact ⟨g, g1, by rw [aD_ge H (Or.inr rfl)]; exact g2⟩
  · obtain ⟨s, s1, s2⟩ := K.2.2.1
    exact ⟨nSeed s, nSeed_lt, by rw [aD_19 H]; exact aSeed_n s2 s1⟩
  · obtain ⟨y, y1, y2, hd⟩ := K.2.2.2
    refine ⟨y + 1, by omega, by rw [aD_18 H, y2, nI_1], fun m hm => ?_⟩
    obtain ⟨z, z1, z2, z3⟩ := hd m hm
    rw [aD_day H hm, hn]
    by_cases b : (aB τ A).testBit m = true
    · rw [if_pos b]
      exact ⟨0, Nat.zero_le _, rfl, fun _ => rfl⟩
    · rw [if_neg b, z2]
      by_cases g : (aG τ A).testBit m = true
      · rw [if_pos g, nI_1]
        refine ⟨z + 1, by omega, rfl, fun w => ?_⟩
        rw [and_bit (by omega), g] at w
        simp at w
        exact absurd w b
      · rw [if_neg g]
        refine ⟨z, by omega, rfl, fun _ => z3 ?_⟩
        have g' : (aN A ||| sFol τ (aN A)).testBit m = false := Bool.eq_false_iff.mpr g
        rw [Nat.testBit_or] at g'
        exact (Bool.or_eq_false_iff.mp g').1
theorem d_rep {τ : CT} {N : Nat} {A : Nat → Int32} {r : RS} (H : cOk τ) (K : aOk τ N A) (R : Rep τ r A) : Rep τ (rDay τ r (aN A)) (aD τ A) := by
  have h7 := o_mn H
  have hg8 := aG_128 H K
  have hb : aB τ A < 128 := Nat.lt_of_lt_of_le aB_lt (p2_7 h7)
  have hn := aD_n H K
  have e0 : (rPre τ r (aN A)).1 0 = nI (aG τ A) := by
    have : r.1 0 ||| nI (sFol τ (aN A)) = nI (aG τ A) := by rw [R.1.1, K.1.1, nI_or]; rfl
    unfold rPre
    split <;> exact this
  have ep : ∀ k, k ≠ 3 → k ≠ 4 → k ≠ 7 → (rPre τ r (aN A)).1 k = (rMid τ r (aN A)).1 k := by
    intro k a b c
    unfold rPre
    show (if k = 3 then _ else _) = _
    rw [if_neg a]
    split
    · show (if k = 4 then _ else if k = 7 then _ else _) = _
      rw [if_neg b, if_neg c]
    · show (if k = 7 then _ else _) = _
      rw [if_neg c]
  have em : ∀ k, k ≠ 0 → (rMid τ r (aN A)).1 k = r.1 k := fun k z => if_neg z
  refine ⟨⟨?_, ?_, ?_, ?_, ?_, ?_⟩, ?_, ?_⟩
  · show (rPre τ r (aN A)).1 0 &&& (nI (sBack τ (rPre τ r (aN A)) (aG τ A)) ^^^ (-1)) = _
    rw [e0, sBack_e H K R, nI_not _ hg8 _ hb, aD_14]
  · show (rPre τ r (aN A)).1 3 = _
    show r.1 3 + sCost τ r (aN A) = _
    rw [aC_r H K R, aD_16 H K, R.1.2.1]
  · show (rPre τ r (aN A)).1 4 = _
    rw [aD_17 H K]
    unfold rPre
    rw [aF_r H K R, ← R.1.2.2.1]
    split <;> rfl
  · show (rPre τ r (aN A)).1 5 = _
    rw [ep 5 (by decide) (by decide) (by decide), em 5 (by decide), R.1.2.2.2.1, aD_ge H (Or.inr rfl)]
  · show (rPre τ r (aN A)).1 6 + 1 = _
    rw [ep 6 (by decide) (by decide) (by decide), em 6 (by decide), R.1.2.2.2.2.1, aD_18 H]
  · show (rPre τ r (aN A)).1 7 = _
    obtain ⟨s, s1, s2⟩ := K.2.2.1
    rw [aD_19 H, aSeed_n s2 s1, ← sSeed_n (R.1.2.2.2.2.2.trans s2) s1]
    unfold rPre
    split <;> rfl
  · intro m hm
    rw [aD_loaf H (by omega)]
    exact rLoaf H R hm
  · intro m hm hbit
    rw [hn, and_bit (by omega)] at hbit
    have hgm : (aG τ A).testBit m = true := (Bool.and_eq_true_iff.mp hbit).1
    have hbm : (aB τ A).testBit m = false := by simpa using (Bool.and_eq_true_iff.mp hbit).2
    show (if m < 7 ∧ (aG τ A).testBit m = true then (rPre τ r (aN A)).2.1 m + 1 else (rPre τ r (aN A)).2.1 m) = _
    rw [if_pos ⟨by omega, hgm⟩, rDays H K R hm hgm, aAge_day H hm, aD_day H hm, hbm, if_neg Bool.false_ne_true]
