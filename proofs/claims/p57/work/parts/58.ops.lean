/-! leave, home, give, grant, day -/
theorem kp_ok {τ : CT} {A : Nat → Int32} {W : Nat → Nat → Int32} {bh ah : Nat} (K : aOk τ 999 A) (hb : bh + ah ≤ 40) (H : ∀ j, j < bh + ah → aOk τ 999 (W j)) : kpB bh + 0 ≤ 40 ∧ ∀ j, j < kpB bh + 0 → aOk τ 999 (kpW W A bh j) := by
  unfold kpB kpW
  by_cases z : bh = 40
  · rw [if_pos z, if_pos z]
    refine ⟨by omega, fun j hj => ?_⟩
    show aOk τ 999 (if j = 39 then A else W (j + 1))
    by_cases y : j = 39
    · rw [if_pos y]
      exact K
    · rw [if_neg y]
      exact H _ (by omega)
  · rw [if_neg z, if_neg z]
    refine ⟨by omega, fun j hj => ?_⟩
    show aOk τ 999 (if j = bh then A else W j)
    by_cases y : j = bh
    · rw [if_pos y]
      exact K
    · rw [if_neg y]
      exact H _ (by omega)
theorem p2_set {k m : Nat} (h : m < k) : 2 ^ m < 2 ^ k := Nat.pow_lt_pow_right (by decide) h
theorem p2_and0 : ∀ n, n < 128 → ∀ m, m < 7 → n.testBit m = false → 2 ^ m &&& n = 0 := by decide +kernel
theorem CAct_38 {τ : CT} {h : HT} {o bh ah : Nat} {W : Nat → Nat → Int32} {A : Nat → Int32} {r : RS} (C : CAct τ h o bh ah W A) : CAct τ (pS h 38 r) o bh ah W A := CAct_eq (fun c k h1 h2 => gI_pSo (by omega)) C
theorem KAct_27 {h : HT} {bh ah : Nat} {W : Nat → Nat → Int32} {v : Nat → Int32} (C : KAct h bh ah W) : KAct (hC h 227 v) bh ah W := KAct_eq (fun c k z => gI_hCo (by omega)) C
theorem hC_A {h : HT} {A : Nat → Int32} (e : m_gI h 227 = A) : hC h 227 A = h := by
  subst e
  exact hC_id
theorem s27_14 {h : HT} {A : Nat → Int32} {k : Nat} {v : Int32} (e : m_gI h 227 = A) : m_sI h 227 k v = hC h 227 (up A k v) := by
  have := sI_hC (h := h) (c := 227) (v := A) (k := k) (x := v)
  rw [hC_A e] at this
  exact this
/-- a demand granted -/
def grA (τ : CT) (A : Nat → Int32) (g q : Nat) : Nat → Int32 := up (up A 15 (nI (g ||| 2 ^ q))) 16 (A 16 + nI (τ 7 q))
theorem grA_o {τ : CT} {A : Nat → Int32} {g q k : Nat} (h : k ≠ 15) (h2 : k ≠ 16) : grA τ A g q k = A k := by
  show (if k = 16 then _ else if k = 15 then _ else A k) = A k
  rw [if_neg h2, if_neg h]
theorem grA_ok {τ : CT} {N g q : Nat} {A : Nat → Int32} (H : cOk τ) (hg : g < 2 ^ τ 0 2) (hq : q < τ 0 2) (K : aOk τ N A) : aOk τ N (grA τ A g q) := by
  have h7 := o_mn H
  have en : aN (grA τ A g q) = aN A := by
    unfold aN
    rw [grA_o (by decide) (by decide)]
  refine ⟨by rw [en, grA_o (by decide) (by decide)]; exact K.1, ⟨g ||| 2 ^ q, orb hg hq, rfl⟩, by rw [grA_o (by decide) (by decide)]; exact K.2.2.1, ?_⟩
  obtain ⟨y, y1, y2, hd⟩ := K.2.2.2
  refine ⟨y, y1, by rw [grA_o (by decide) (by decide)]; exact y2, fun m hm => ?_⟩
  rw [grA_o (by omega) (by omega), en]
  exact hd m hm
def grR (τ : CT) (r : RS) (q : Nat) : RS := (up (up r.1 5 (r.1 5 ||| nI (2 ^ q))) 3 (r.1 3 + nI (τ 7 q)), r.2)
theorem grA_rep {τ : CT} {g q : Nat} {r : RS} {A : Nat → Int32} (H : cOk τ) (eg : A 15 = nI g) (R : Rep τ r A) : Rep τ (grR τ r q) (grA τ A g q) := by
  have h7 := o_mn H
  have en : aN (grA τ A g q) = aN A := by
    unfold aN
    rw [grA_o (by decide) (by decide)]
  refine ⟨⟨?_, ?_, ?_, ?_, ?_, ?_⟩, fun m hm => ?_, fun m hm hb => ?_⟩
  · rw [grA_o (by decide) (by decide)]
    exact R.1.1
  · show r.1 3 + nI (τ 7 q) = A 16 + nI (τ 7 q)
    rw [R.1.2.1]
  · rw [grA_o (by decide) (by decide)]
    exact R.1.2.2.1
  · show r.1 5 ||| nI (2 ^ q) = nI (g ||| 2 ^ q)
    rw [R.1.2.2.2.1, eg, nI_or]
  · rw [grA_o (by decide) (by decide)]
    exact R.1.2.2.2.2.1
  · rw [grA_o (by decide) (by decide)]
    exact R.1.2.2.2.2.2
  · rw [grA_o (by omega) (by omega)]
    exact R.2.1 m hm
  · rw [en] at hb
    rw [grA_o (by omega) (by omega)]
    exact R.2.2 m hm hb
