/-! twins, stock, pays -/
def twI (τ : CT) (i : Nat) (j c : Nat) : Nat := if τ 3 i = τ 3 j then c + 1 else c
def twS (τ : CT) (i : Nat) (c : Nat) : Nat := fL (twI τ i) c i
def stS (A : Nat → Int32) (i : Nat) (s : Int32) : Int32 := if (aN A).testBit i = true then s + A i else s
/-! sets as arguments -/
theorem and_self_of {x m : Int32} (h : x &&& (m ^^^ (-1)) = 0) : x &&& m = x := by
  have h1 := congrArg Int32.toBitVec h
  apply Int32.toBitVec_inj.mp
  rw [Int32.toBitVec_and] at h1 ⊢
  rw [Int32.toBitVec_xor] at h1
  apply BitVec.eq_of_getLsbD_eq
  intro i hi
  have h2 := congrArg (fun z => BitVec.getLsbD z i) h1
  have e : (Int32.toBitVec (-1)).getLsbD i = true := by
    have : ∀ i, i < 32 → (Int32.toBitVec (-1)).getLsbD i = true := by decide
    exact this i hi
  have e0 : (Int32.toBitVec 0).getLsbD i = false := by
    have : ∀ i, i < 32 → (Int32.toBitVec 0).getLsbD i = false := by decide
    exact this i hi
  simp only [BitVec.getLsbD_and, BitVec.getLsbD_xor, e, e0] at h2 ⊢
  revert h2
  cases x.toBitVec.getLsbD i <;> cases m.toBitVec.getLsbD i <;> decide
theorem p2m_and : ∀ k, k < 8 → ∀ s, s < 2 ^ k → s &&& (127 ^^^ (2 ^ k - 1)) = 0 := by decide +kernel
theorem all_tn : ∀ k, k < 8 → (nI (2 ^ k - 1)).toBitVec.toNat = 2 ^ k - 1 := by decide +kernel
theorem set_cases (x : Int32) {k : Nat} (hk : k ≤ 7) : (∃ s, s < 2 ^ k ∧ x = nI s ∧ x &&& (nI (2 ^ k - 1) ^^^ (-1)) = 0 ∧ ixB x (2 ^ k) = true) ∨ ¬ x &&& (nI (2 ^ k - 1) ^^^ (-1)) = 0 ∧ ixB x (2 ^ k) = false := by
  have h8 := p2_7 hk
  rcases ix_cases x (k := 2 ^ k) (by omega) with ⟨s, hs, rfl, ix⟩ | ix
  · left
    refine ⟨s, hs, rfl, ?_, ix⟩
    rw [nI_not s (by omega) _ (by omega), p2m_and k (by omega) s hs]
    rfl
  · right
    refine ⟨fun z => ?_, ix⟩
    have h1 := and_self_of z
    rw [pk_and x k (all_tn k (by omega))] at h1
    have h2 : x.toBitVec.toNat % 2 ^ k < 2 ^ k := Nat.mod_lt _ (Nat.two_pow_pos k)
    have : ixB x (2 ^ k) = true := by
      rw [← h1]
      unfold ixB
      rw [nI_toInt (by omega)]
      exact decide_eq_true (by omega)
    rw [this] at ix
    cases ix
theorem ix_k1 {x : Int32} {k : Nat} (hk : k < 2 ^ 30) (h0 : 0 < k) : (if x < 0 then (0 : Int32) else if nI (k - 1) < x then 0 else 1) = if ixB x k = true then 1 else 0 := by
  rw [← ix_k hk]
  have : nI k - 1 = nI (k - 1) := by
    rw [show (1 : Int32) = nI 1 from rfl, pk_sub (by omega)]
  rw [this]
theorem c_isSet {X : XT} {d T : Nat} {h : HT} {Q : QT} {τ : CT} {x : Int32} (H : CTown h T τ) (e : m_gR h 1 2 = T) : wq X (d + 1) 130 0 [some (.ref 1), some (.int x)] [] h Q = Q (some (.int (if x &&& (nI (sAll τ) ^^^ (-1)) = 0 then 1 else 0))) h := by
  simp only [u130_0, u130_1, u130_2, u130_5, u130_8, u130_9, u130_10, u130_11, u130_14, u130_15, u130_18, u130_19, eq_self, q_nl0, q_nlI, q_nlR, not_false_eq_true, q_nz0, q_nz1, q_zv0, q_zv1, q_tl1, q_tl0, q_wif, q_swc, q_swn, List.cons_append, List.nil_append, if_true, if_false, e10, e01, Bool.false_eq_true, sh_1, shT_0 (ct_T H), e, c_every H]
  split <;> rfl
