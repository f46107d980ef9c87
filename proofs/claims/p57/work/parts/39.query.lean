/-! WHAT A QUESTION MAY CHANGE: cells that nobody reads before they are written -/
/-- what a question may change (the law's own two rows, 195 and 196, are not among it) -/
def isJ (c k : Nat) : Bool := decide (41 ≤ c ∧ c ≤ 43) || decide (172 ≤ c ∧ c ≤ 178) || decide (c = 185) || decide (c = 179 ∧ k = 7) || decide (c = 17 ∨ c = 35) || decide ((c = 15 ∨ c = 33) ∧ k = 4)
def Same (h g : HT) : Prop := g.2 = h.2 ∧ ∀ c k, isJ c k = false → m_gI g c k = m_gI h c k
theorem Same_rf {h : HT} : Same h h := ⟨rfl, fun _ _ _ => rfl⟩
theorem Same_tr {h g f : HT} (a : Same h g) (b : Same g f) : Same h f := ⟨b.1.trans a.1, fun c k z => (b.2 c k z).trans (a.2 c k z)⟩
theorem Same_R {h g : HT} (a : Same h g) (c k : Nat) : m_gR g c k = m_gR h c k := by
  unfold m_gR
  rw [a.1]
theorem Same_L {h g : HT} (a : Same h g) (c k : Nat) : m_gL g c k = m_gL h c k := by
  unfold m_gL
  rw [a.1]
theorem Same_p {h g : HT} (a : Same h g) (p : Ptr h) : Ptr g := Ptr_of p (Same_R a)
theorem isJ_mid {c k : Nat} (h1 : c < 15 ∨ 18 ≤ c ∧ c < 33 ∨ 36 ≤ c ∧ c < 41 ∨ 44 ≤ c ∧ c < 172 ∨ 186 ≤ c) : isJ c k = false := by
  unfold isJ
  simp only [Bool.or_eq_false_iff, decide_eq_false_iff_not]
  omega
theorem CCity_of {h g : HT} {V : Nat} {τ : CT} (e : ∀ j k, j ≤ 14 → j ≠ 12 → (j ≠ 10 ∨ k ≠ 4) → m_gI g (V + j) k = m_gI h (V + j) k) (H : CCity h V τ) : CCity g V τ := by
  have e0 : ∀ k, m_gI g V k = m_gI h V k := fun k => e 0 k (by omega) (by omega) (by omega)
  unfold CCity at *
  simp only [e0, e 1 _ (by omega) (by omega) (Or.inl (by omega)), e 2 _ (by omega) (by omega) (Or.inl (by omega)), e 3 _ (by omega) (by omega) (Or.inl (by omega)), e 4 _ (by omega) (by omega) (Or.inl (by omega)), e 5 _ (by omega) (by omega) (Or.inl (by omega)), e 6 _ (by omega) (by omega) (Or.inl (by omega)), e 7 _ (by omega) (by omega) (Or.inl (by omega)), e 8 _ (by omega) (by omega) (Or.inl (by omega)), e 9 _ (by omega) (by omega) (Or.inl (by omega)), e 10 1 (by omega) (by omega) (Or.inr (by omega)), e 10 2 (by omega) (by omega) (Or.inr (by omega)), e 11 _ (by omega) (by omega) (Or.inl (by omega)), e 13 _ (by omega) (by omega) (Or.inl (by omega)), e 14 _ (by omega) (by omega) (Or.inl (by omega))]
  exact H
theorem isJ_town {V j k : Nat} (hV : isT V) (h1 : j ≤ 14) (h2 : j ≠ 12) (h3 : j ≠ 10 ∨ k ≠ 4) : isJ (V + j) k = false := by
  unfold isJ
  simp only [Bool.or_eq_false_iff, decide_eq_false_iff_not]
  rcases hV with u | u <;> subst u <;> omega
theorem CTown_same {h g : HT} {T : Nat} {τ : CT} (a : Same h g) (H : CTown h T τ) : CTown g T τ :=
  ⟨H.1, Same_p a H.2.1, H.2.2.1, CCity_of (fun j k h1 h2 h3 => a.2 _ _ (isJ_town H.1 h1 h2 h3)) H.2.2.2⟩
/-- the class stands in the state A -/
def CQ (h : HT) (T : Nat) (τ : CT) (N : Nat) (A : Nat → Int32) : Prop := CTown h T τ ∧ fOk τ ∧ m_gR h 1 2 = T ∧ Rep τ (gS h 38) A ∧ aOk τ N A
theorem gS_same {h g : HT} (a : Same h g) : gS g 38 = gS h 38 := by
  have e : ∀ c, 38 ≤ c → c ≤ 40 → m_gI g c = m_gI h c := fun c h1 h2 => funext fun k => a.2 c k (isJ_mid (by omega))
  unfold gS
  rw [e 38 (by omega) (by omega), e (38 + 1) (by omega) (by omega), e (38 + 2) (by omega) (by omega)]
theorem CQ_same {h g : HT} {T N : Nat} {τ : CT} {A : Nat → Int32} (a : Same h g) (H : CQ h T τ N A) : CQ g T τ N A :=
  ⟨CTown_same a H.1, H.2.1, (Same_R a 1 2).trans H.2.2.1, by rw [gS_same a]; exact H.2.2.2.1, H.2.2.2.2⟩
theorem cq_t {h : HT} {T N : Nat} {τ : CT} {A : Nat → Int32} (H : CQ h T τ N A) : CTown h T τ := H.1
theorem cq_p {h : HT} {T N : Nat} {τ : CT} {A : Nat → Int32} (H : CQ h T τ N A) : Ptr h := H.1.2.1
theorem cq_k {h : HT} {T N : Nat} {τ : CT} {A : Nat → Int32} (H : CQ h T τ N A) : cOk τ := H.1.2.2.1
theorem cq_f {h : HT} {T N : Nat} {τ : CT} {A : Nat → Int32} (H : CQ h T τ N A) : fOk τ := H.2.1
theorem cq_T {h : HT} {T N : Nat} {τ : CT} {A : Nat → Int32} (H : CQ h T τ N A) : m_gR h 1 2 = T := H.2.2.1
theorem cq_r {h : HT} {T N : Nat} {τ : CT} {A : Nat → Int32} (H : CQ h T τ N A) : Rep τ (gS h 38) A := H.2.2.2.1
theorem cq_a {h : HT} {T N : Nat} {τ : CT} {A : Nat → Int32} (H : CQ h T τ N A) : aOk τ N A := H.2.2.2.2
theorem cq_o {h : HT} {T N : Nat} {τ : CT} {A : Nat → Int32} (H : CQ h T τ N A) : m_gI h 38 0 = nI (aN A) := (cq_r H).1.1.trans (cq_a H).1.1
theorem cq_g {h : HT} {T N : Nat} {τ : CT} {A : Nat → Int32} (H : CQ h T τ N A) : m_gI h 38 5 = A 15 := (cq_r H).1.2.2.2.1
theorem cq_n {h : HT} {T N : Nat} {τ : CT} {A : Nat → Int32} (H : CQ h T τ N A) : aN A < 128 := aN_lt (cq_k H) (cq_a H)
theorem cq_lv {h : HT} {T N : Nat} {τ : CT} {A : Nat → Int32} (H : CQ h T τ N A) (m : Nat) (hm : m < τ 0 1) : m_gI h (38 + 2) m = A m := (cq_r H).2.1 m hm
theorem cq_dy {h : HT} {T N : Nat} {τ : CT} {A : Nat → Int32} (H : CQ h T τ N A) (m : Nat) (hm : m < τ 0 1) (hb : (aN A).testBit m = true) : m_gI h (38 + 1) m = A (7 + m) := (cq_r H).2.2 m hm hb
theorem Same_hJ {h : HT} {T : Nat} {x : Int32} {c : Nat → Int32} (hT : isT T) : Same h (hJ h T x c) := by
  refine ⟨rfl, fun b k z => ?_⟩
  by_cases y : b = T + 12 ∨ b = T + 10 ∧ k = 4
  · have w : isJ b k = true := by
      unfold isJ
      simp only [Bool.or_eq_true, decide_eq_true_eq]
      rcases hT with t | t <;> omega
    rw [w] at z
    cases z
  · exact gI_hJ (by omega) (by omega)
theorem e10 : ((1 : Int32) = 0) = False := eq_false (by decide)
theorem e01 : ((0 : Int32) = 1) = False := eq_false (by decide)
theorem is38 : isS 38 := by
  unfold isS
  decide
theorem q_nzc {c : Prop} [Decidable c] : q_nb .boolean (if c then 1 else 0) = true := by
  split
  · exact q_nz1
  · exact q_nz0
/-! an index in its bounds -/
def ixB (x : Int32) (k : Nat) : Bool := decide (0 ≤ x.toInt ∧ x.toInt < k)
theorem ix_cases (x : Int32) {k : Nat} (hk : k < 2 ^ 31) : (∃ m, m < k ∧ x = nI m ∧ ixB x k = true) ∨ ixB x k = false := by
  by_cases z : ixB x k = true
  · left
    obtain ⟨m, hm, e⟩ := vp_in_of (vp_in_iff.mpr (of_decide_eq_true z)) hk
    exact ⟨m, hm, e, z⟩
  · right
    simpa using z
theorem ix_c {x : Int32} {k : Nat} (hk : k < 2 ^ 31) : (if x < 0 then (0 : Int32) else if x < nI k then 1 else 0) = if ixB x k = true then 1 else 0 := by
  have h1 : (x < 0) = (x.toInt < 0) := propext (Int32.lt_iff_toInt_lt (y := 0))
  have h2 : (x < nI k) = (x.toInt < k) := by
    rw [← nI_toInt hk]
    exact propext Int32.lt_iff_toInt_lt
  unfold ixB
  simp only [h1, h2, decide_eq_true_eq]
  by_cases a : x.toInt < 0
  · rw [if_pos a, if_neg (by omega)]
  · rw [if_neg a]
    by_cases b : x.toInt < k
    · rw [if_pos b, if_pos (by omega)]
    · rw [if_neg b, if_neg (by omega)]
theorem ix_k {x : Int32} {k : Nat} (hk : k < 2 ^ 30) : (if x < 0 then (0 : Int32) else if nI k - 1 < x then 0 else 1) = if ixB x k = true then 1 else 0 := by
  have h1 : (x < 0) = (x.toInt < 0) := propext (Int32.lt_iff_toInt_lt (y := 0))
  have h2 : (nI k - 1 < x) = ((k : Int) - 1 < x.toInt) := by
    have := pk_sub_toInt (a := k) (b := 1) (by omega) (by omega)
    rw [show ((k : Int) - 1) = (k : Int) - ((1 : Nat) : Int) from rfl, ← this]
    exact propext Int32.lt_iff_toInt_lt
  unfold ixB
  simp only [h1, h2, decide_eq_true_eq]
  by_cases a : x.toInt < 0
  · rw [if_pos a, if_neg (by omega)]
  · rw [if_neg a]
    by_cases b : (k : Int) - 1 < x.toInt
    · rw [if_pos b, if_neg (by omega)]
    · rw [if_neg b, if_pos (by omega)]
theorem lt_kc {x : Int32} {k c : Nat} (h : k ≤ c) (hc : c < 2 ^ 31) (z : x < nI k) : x < nI c := by
  have h1 := Int32.lt_iff_toInt_lt.mp z
  rw [nI_toInt (by omega)] at h1
  rw [Int32.lt_iff_toInt_lt, nI_toInt hc]
  omega
theorem c_isIx {X : XT} {d T : Nat} {h : HT} {Q : QT} {τ : CT} {x : Int32} (H : CTown h T τ) (e : m_gR h 1 2 = T) : wq X d 82 0 [some (.ref 1), some (.int x)] [] h Q = Q (some (.int (if ixB x (τ 0 1) = true then 1 else 0))) h := by
  have h7 := o_mn (ct_ok H)
  rw [c_isMan (by rw [e, shT_0 (ct_T H)]), e, ct_mn H, ← ix_c (by omega)]
  by_cases z : x < nI (τ 0 1)
  · simp only [if_pos (show x < 7 from lt_kc (c := 7) h7 (by decide) z)]
  · simp only [if_neg z]
theorem c_isCraft {X : XT} {d T : Nat} {h : HT} {Q : QT} {τ : CT} {x : Int32} (H : CTown h T τ) (e : m_gR h 1 2 = T) : wq X d 92 0 [some (.ref 1), some (.int x)] [] h Q = Q (some (.int (if ixB x (τ 0 0) = true then 1 else 0))) h := by
  have h7 := o_cr (ct_ok H)
  simp only [u92_0, u92_1, u92_4, u92_5, u92_6, u92_9, u92_12, u92_15, u92_16, u92_17, u92_20, u92_21, u92_24, u92_25, eq_self, q_nl0, q_nlI, q_nlR, not_false_eq_true, q_nz0, q_nz1, q_zv0, q_zv1, q_tl1, q_tl0, q_wif, q_swc, q_swn, List.cons_append, List.nil_append, sh_1, e, shT_0 (ct_T H), ct_cr H]
  rw [← ix_c (by omega)]
  by_cases y : x < 0
  · rw [if_pos y, if_pos y]
  · rw [if_neg y, if_neg y]
    by_cases z : x < nI (τ 0 0)
    · rw [if_pos z, if_pos z, if_pos (show x < 4 from lt_kc (c := 4) h7 (by decide) z)]
    · rw [if_neg z, if_neg z]
theorem c_isDemand {X : XT} {d T : Nat} {h : HT} {Q : QT} {τ : CT} {x : Int32} (H : CTown h T τ) (e : m_gR h 1 2 = T) : wq X d 94 0 [some (.ref 1), some (.int x)] [] h Q = Q (some (.int (if ixB x (τ 0 2) = true then 1 else 0))) h := by
  have h7 := o_dm (ct_ok H)
  simp only [u94_0, u94_1, u94_4, u94_5, u94_6, u94_9, u94_12, u94_15, u94_16, u94_17, u94_20, u94_21, u94_24, u94_25, eq_self, q_nl0, q_nlI, q_nlR, not_false_eq_true, q_nz0, q_nz1, q_zv0, q_zv1, q_tl1, q_tl0, q_wif, q_swc, q_swn, List.cons_append, List.nil_append, sh_1, e, shT_0 (ct_T H), ct_dm H]
  rw [← ix_c (by omega)]
  by_cases y : x < 0
  · rw [if_pos y, if_pos y]
  · rw [if_neg y, if_neg y]
    by_cases z : x < nI (τ 0 2)
    · rw [if_pos z, if_pos z, if_pos (show x < 5 from lt_kc (c := 5) h7 (by decide) z)]
    · rw [if_neg z, if_neg z]
