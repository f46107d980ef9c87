/-! questions of days ahead -/
/-! the first that .. -/
def fstN (p : Nat → Bool) : Nat → Option Nat
  | 0 => if p 0 = true then some 0 else none
  | m + 1 => match fstN p m with
    | some n => some n
    | none => if p (m + 1) = true then some (m + 1) else none
theorem fst_none {p : Nat → Bool} : ∀ m, fstN p m = none → ∀ n, n ≤ m → p n = false
  | 0, h, n, hn => by
    have : n = 0 := by omega
    subst this
    unfold fstN at h
    split at h
    · cases h
    · next z => simpa using z
  | m + 1, h, n, hn => by
    unfold fstN at h
    split at h
    · cases h
    · next e =>
      by_cases z : n = m + 1
      · subst z
        split at h
        · cases h
        · next y => simpa using y
      · exact fst_none m e n (by omega)
theorem fst_some {p : Nat → Bool} {n : Nat} : ∀ m, fstN p m = some n → n ≤ m ∧ p n = true ∧ ∀ j, j < n → p j = false
  | 0, h => by
    unfold fstN at h
    split at h
    · next z =>
      cases h
      exact ⟨Nat.le_refl _, z, fun j hj => absurd hj (Nat.not_lt_zero j)⟩
    · cases h
  | m + 1, h => by
    unfold fstN at h
    split at h
    · next e =>
      cases h
      have := fst_some m e
      exact ⟨by omega, this.2⟩
    · next e =>
      split at h
      · next z =>
        cases h
        exact ⟨Nat.le_refl _, z, fun j hj => fst_none m e j (by omega)⟩
      · cases h
/-! lasts -/
def lsP (τ : CT) (A : Nat → Int32) (n : Nat) : Bool := decide (aN (aIt τ A n) = 0)
theorem c_empty {X : XT} {d N : Nat} {g : HT} {Q : QT} {τ : CT} {A : Nat → Int32} (hp : Ptr g) (H : cOk τ) (K : aOk τ N A) (nt : Noted τ A 60 g) : wq X d 156 0 [some (.ref 171), none] [] g Q = Q (some (.int (oI (fstN (lsP τ A) 60)))) g := by
  have st : ∀ i, i ≤ 60 → wq X d 156 2 [some (.ref 171), some (.int (nI i))] [] g Q = if aN (aIt τ A i) = 0 then Q (some (.int (nI i))) g else wq X d 156 2 [some (.ref 171), some (.int (nI (i + 1)))] [] g Q := by
    intro i hi
    have hn := aN_lt H (it_ok H K i)
    have e2 : (60 < nI i) = False := eq_false (nI_nlt (a := 60) (by omega) (by omega))
    have e3 : m_in (nI i) 61 = true := q_in (by omega) (by decide)
    have e4 : (nI i).toNatClampNeg = i := q_cl (by omega)
    rw [u156_2]
    simp only [u156_3, u156_5, u156_8, u156_9, u156_12, u156_13, u156_14, u156_17, u156_18, u156_19, u156_22, eq_self, q_nl0, q_nlI, q_nlR, not_false_eq_true, q_nz0, q_nz1, q_zv0, q_zv1, q_tl1, q_tl0, q_wif, q_swc, q_swn, List.cons_append, List.nil_append, if_true, if_false, e10, e01, Bool.false_eq_true, sh_171, sh_175, p_171_1 hp, e2, e3, e4, (nt i hi).1, nI_0eq hn, nI_1]
  simp only [u156_0, u156_1, eq_self, q_nl0, q_nlI, q_nlR, not_false_eq_true, q_nz0, q_nz1, q_zv0, q_zv1, q_tl1, q_tl0, q_wif, q_swc, q_swn, List.cons_append, List.nil_append, if_true, if_false, e10, e01, Bool.false_eq_true]
  cases e : fstN (lsP τ A) 60 with
  | none =>
    have hz := fst_none 60 e
    refine (q_loop (fun i => wq X d 156 2 [some (.ref 171), some (.int (nI i))] [] g Q) 61 (fun i hi => ?_)).trans ?_
    · show wq X d 156 2 _ _ _ _ = _
      rw [st i (by omega), if_neg (of_decide_eq_false (hz i (by omega)))]
    · show wq X d 156 2 _ _ _ _ = _
      rw [u156_2]
      simp only [u156_3, u156_5, u156_25, u156_26, eq_self, q_nl0, q_nlI, q_nlR, not_false_eq_true, q_nz0, q_nz1, q_zv0, q_zv1, q_tl1, q_tl0, q_wif, q_swc, q_swn, List.cons_append, List.nil_append, if_true, if_false, e10, e01, Bool.false_eq_true, eq_true (show 60 < nI 61 by decide), oI]
  | some n =>
    have hz := fst_some 60 e
    refine (q_loop (fun i => wq X d 156 2 [some (.ref 171), some (.int (nI i))] [] g Q) n (fun i hi => ?_)).trans ?_
    · show wq X d 156 2 _ _ _ _ = _
      rw [st i (by omega), if_neg (of_decide_eq_false (hz.2.2 i hi))]
    · show wq X d 156 2 _ _ _ _ = _
      rw [st n hz.1, if_pos (of_decide_eq_true hz.2.1)]
      rfl
/-! costs -/
theorem c_lostB {X : XT} {d n p q : Nat} {g : HT} {Q : QT} {τ : CT} {A : Nat → Int32} (hp : Ptr g) (nt : Noted τ A n g) (hn : n ≤ 60) (hpq : p ≤ q) (hq : q ≤ n) : wq X d 158 0 [some (.ref 171), some (.int (nI p)), some (.int (nI q))] [] g Q = Q (some (.int (nI (aCs τ A q) - nI (aCs τ A p)))) g := by
  have e1 : (nI p < 0) = False := oI_lt0 (by omega)
  have e2 : (nI q < nI p) = False := eq_false (nI_nlt (by omega) (by omega))
  have e3 : (60 < nI q) = False := eq_false (nI_nlt (a := 60) (by omega) (by omega))
  have e4 : m_in (nI p) 61 = true := q_in (by omega) (by decide)
  have e5 : (nI p).toNatClampNeg = p := q_cl (by omega)
  have e6 : m_in (nI q) 61 = true := q_in (by omega) (by decide)
  have e7 : (nI q).toNatClampNeg = q := q_cl (by omega)
  simp only [u158_0, u158_1, u158_4, u158_5, u158_6, u158_9, u158_10, u158_12, u158_15, u158_16, u158_17, u158_18, u158_21, u158_22, u158_23, u158_24, u158_27, u158_28, u158_29, u158_30, eq_self, q_nl0, q_nlI, q_nlR, not_false_eq_true, q_nz0, q_nz1, q_zv0, q_zv1, q_tl1, q_tl0, q_wif, q_swc, q_swn, List.cons_append, List.nil_append, if_true, if_false, e10, e01, Bool.false_eq_true, sh_171, sh_177, e1, e2, e3, e4, e5, e6, e7, p_171_3 hp, (nt q hq).2.2, (nt p (by omega)).2.2]
theorem add_sub_l {a b : Int32} : a + b - a = b := by
  rw [Int32.add_comm]
  exact Int32.add_sub_cancel _ _
/-! ever -/
theorem cnt_cases (x : Int32) : (∃ n, 1 ≤ n ∧ n ≤ 60 ∧ x = nI n ∧ (if x < 1 then (0 : Int32) else if 60 < x then 0 else 1) = 1) ∨ (if x < 1 then (0 : Int32) else if 60 < x then 0 else 1) = 0 := by
  by_cases a : x < 1
  · right
    rw [if_pos a]
  · by_cases b : 60 < x
    · right
      rw [if_neg a, if_pos b]
    · left
      have h1 : ¬ x.toInt < 1 := fun z => a (Int32.lt_iff_toInt_lt.mpr z)
      have h2 : ¬ 60 < x.toInt := fun z => b (Int32.lt_iff_toInt_lt.mpr z)
      obtain ⟨n, hn, e⟩ := vp_in_of (x := x) (n := 61) (vp_in_iff.mpr ⟨by omega, by omega⟩) (by decide)
      subst e
      rw [nI_toInt (by omega)] at h1
      exact ⟨n, by omega, by omega, rfl, by rw [if_neg a, if_neg b]⟩
theorem c_isCount {X : XT} {d : Nat} {h : HT} {Q : QT} {x : Int32} : wq X d 152 0 [some (.int x)] [] h Q = Q (some (.int (if x < 1 then 0 else if 60 < x then 0 else 1))) h := by
  simp only [u152_0, u152_1, u152_2, u152_5, u152_6, u152_8, u152_11, u152_12, u152_15, u152_16, eq_self, q_nl0, q_nlI, q_nlR, not_false_eq_true, q_nz0, q_nz1, q_zv0, q_zv1, q_tl1, q_tl0, q_wif, q_swc, q_swn, List.cons_append, List.nil_append, if_true, if_false, e10, e01, Bool.false_eq_true]
  split
  · rfl
  · split <;> rfl
def evN (τ : CT) (A : Nat → Int32) : Nat → Nat
  | 0 => aN A
  | k + 1 => evN τ A k ||| aN (aIt τ A (k + 1))
def evC (τ : CT) (A : Nat → Int32) : Nat → Nat
  | 0 => 0
  | k + 1 => evC τ A k ||| aN (aIt τ A k)
theorem evC_e {τ : CT} {A : Nat → Int32} : ∀ k, evC τ A (k + 1) = evN τ A k
  | 0 => Nat.zero_or _
  | k + 1 => by
    show evC τ A (k + 1) ||| aN (aIt τ A (k + 1)) = _
    rw [evC_e k]
    rfl
