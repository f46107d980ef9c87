/-! THE CITY AND ITS STATE, as numbers -/
abbrev CT : Type := Nat → Nat → Nat
/-- out, loaves, days out, granted, lost, foes, the day, the seed -/
abbrev DT : Type := Nat × (Nat → Nat) × (Nat → Int32) × Nat × Int32 × Int32 × Nat × Nat
/-- who has a craft, of the first k -/
def sMenL (τ : CT) (c : Nat) : Nat → Nat
  | 0 => 0
  | m + 1 => if (τ 3 m).testBit c then sMenL τ c m ||| 2 ^ m else sMenL τ c m
def sMen (τ : CT) (c : Nat) : Nat := sMenL τ c (τ 0 1)
def sShortL (τ : CT) (n : Nat) : Nat → Nat
  | 0 => 0
  | c + 1 => if pcN (sMen τ c &&& (127 ^^^ n)) < τ 1 c then sShortL τ n c ||| 2 ^ c else sShortL τ n c
def sShort (τ : CT) (n : Nat) : Nat := sShortL τ n (τ 0 0)
def sLossL (τ : CT) (s : Nat) : Nat → Nat
  | 0 => 0
  | c + 1 => if s.testBit c then sLossL τ s c + τ 2 c else sLossL τ s c
def sLossOf (τ : CT) (s : Nat) : Nat := sLossL τ s (τ 0 0)
def sLoss (τ : CT) (n : Nat) : Nat := sLossOf τ (sShort τ n)
def sFolL (τ : CT) (n : Nat) : Nat → Nat
  | 0 => 0
  | m + 1 => if n.testBit m = false ∧ 0 < τ 6 m ∧ τ 6 m ≤ pcN n then sFolL τ n m ||| 2 ^ m else sFolL τ n m
def sFol (τ : CT) (n : Nat) : Nat := sFolL τ n (τ 0 1)
def sAll (τ : CT) : Nat := 2 ^ (τ 0 1) - 1
/-- what a city's numbers keep to -/
def cOk (τ : CT) : Prop := τ 0 0 ≤ 4 ∧ τ 0 1 ≤ 7 ∧ τ 0 2 ≤ 5 ∧ τ 0 3 ≤ 100 ∧ τ 0 4 ≤ 999 ∧ τ 0 5 ≤ 999 ∧ τ 0 6 ≤ sAll τ ∧ τ 0 7 ≤ 1 ∧ (∀ c, τ 1 c ≤ 7) ∧ (∀ c, τ 2 c ≤ 99) ∧ (∀ m, τ 3 m < 16) ∧ (∀ m, τ 4 m ≤ 20) ∧ (∀ m, τ 5 m ≤ 99) ∧ (∀ m, τ 6 m ≤ 6) ∧ (∀ q, τ 7 q ≤ 999) ∧ ∀ q, τ 8 q ≤ 99
/-- a rule's code, as the class keeps it -/
def clsC (k n : Nat) : Int32 := if k = 110 then nI n else if k = 108 then -1 else if k = 100 then -2 else if k = 111 then -3 else if k = 103 then -4 else if k = 121 then -5 else if k = 115 then -6 else if k = 126 then -7 else if k = 124 then -8 else if k = 38 then -9 else -(nI k)
/-- a Town of the class holds the city -/
def CCity (h : HT) (T : Nat) (τ : CT) : Prop :=
  (m_gI h T 0 = nI (τ 0 0) ∧ m_gI h T 4 = nI (τ 0 1) ∧ m_gI h T 10 = nI (τ 0 2) ∧ m_gI h T 14 = nI (τ 0 3) ∧ m_gI h T 15 = nI (τ 0 4) ∧ m_gI h T 16 = nI (τ 0 5) ∧ m_gI h T 9 = nI (τ 0 6)) ∧
  (∀ c, c < τ 0 0 → m_gI h (T + 1) c = nI (τ 1 c)) ∧ (∀ c, c < τ 0 0 → m_gI h (T + 2) c = nI (τ 2 c)) ∧ (∀ c, c < τ 0 0 → m_gI h (T + 3) c = nI (sMen τ c)) ∧
  (∀ m, m < τ 0 1 → m_gI h (T + 4) m = nI (τ 3 m)) ∧ (∀ m, m < τ 0 1 → m_gI h (T + 5) m = nI (τ 4 m)) ∧ (∀ m, m < τ 0 1 → m_gI h (T + 6) m = nI (τ 5 m)) ∧ (∀ m, m < τ 0 1 → m_gI h (T + 7) m = nI (τ 6 m)) ∧
  (∀ q, q < τ 0 2 → m_gI h (T + 8) q = nI (τ 7 q)) ∧ (∀ q, q < τ 0 2 → m_gI h (T + 9) q = nI (τ 8 q)) ∧
  (m_gI h (T + 10) 1 = nI (τ 0 9) ∧ m_gI h (T + 10) 2 = nI (τ 0 8)) ∧ (∀ i, i < τ 0 9 → m_gI h (T + 11) i = clsC (τ 9 i) (τ 10 i)) ∧
  (∀ n, n < 128 → m_gI h (T + 13) n = nI (sShort τ n)) ∧ (∀ s, s < 2 ^ (τ 0 0) → m_gI h (T + 14) s = nI (sLossOf τ s))
/-- the same with what the heap's pointers say -/
def CTown (h : HT) (T : Nat) (τ : CT) : Prop := isT T ∧ Ptr h ∧ cOk τ ∧ CCity h T τ
theorem ct_T {h : HT} {T : Nat} {τ : CT} (H : CTown h T τ) : isT T := H.1
theorem ct_p {h : HT} {T : Nat} {τ : CT} (H : CTown h T τ) : Ptr h := H.2.1
theorem ct_ok {h : HT} {T : Nat} {τ : CT} (H : CTown h T τ) : cOk τ := H.2.2.1
theorem ct_cr {h : HT} {T : Nat} {τ : CT} (H : CTown h T τ) : m_gI h T 0 = nI (τ 0 0) := H.2.2.2.1.1
theorem ct_mn {h : HT} {T : Nat} {τ : CT} (H : CTown h T τ) : m_gI h T 4 = nI (τ 0 1) := H.2.2.2.1.2.1
theorem ct_dm {h : HT} {T : Nat} {τ : CT} (H : CTown h T τ) : m_gI h T 10 = nI (τ 0 2) := H.2.2.2.1.2.2.1
theorem ct_fo {h : HT} {T : Nat} {τ : CT} (H : CTown h T τ) : m_gI h T 14 = nI (τ 0 3) := H.2.2.2.1.2.2.2.1
theorem ct_ra {h : HT} {T : Nat} {τ : CT} (H : CTown h T τ) : m_gI h T 15 = nI (τ 0 4) := H.2.2.2.1.2.2.2.2.1
theorem ct_dr {h : HT} {T : Nat} {τ : CT} (H : CTown h T τ) : m_gI h T 16 = nI (τ 0 5) := H.2.2.2.1.2.2.2.2.2.1
theorem ct_ou {h : HT} {T : Nat} {τ : CT} (H : CTown h T τ) : m_gI h T 9 = nI (τ 0 6) := H.2.2.2.1.2.2.2.2.2.2
theorem ct_ne {h : HT} {T : Nat} {τ : CT} (H : CTown h T τ) : ∀ c, c < τ 0 0 → m_gI h (T + 1) c = nI (τ 1 c) := H.2.2.2.2.1
theorem ct_lo {h : HT} {T : Nat} {τ : CT} (H : CTown h T τ) : ∀ c, c < τ 0 0 → m_gI h (T + 2) c = nI (τ 2 c) := H.2.2.2.2.2.1
theorem ct_me {h : HT} {T : Nat} {τ : CT} (H : CTown h T τ) : ∀ c, c < τ 0 0 → m_gI h (T + 3) c = nI (sMen τ c) := H.2.2.2.2.2.2.1
theorem ct_sk {h : HT} {T : Nat} {τ : CT} (H : CTown h T τ) : ∀ m, m < τ 0 1 → m_gI h (T + 4) m = nI (τ 3 m) := H.2.2.2.2.2.2.2.1
theorem ct_lv {h : HT} {T : Nat} {τ : CT} (H : CTown h T τ) : ∀ m, m < τ 0 1 → m_gI h (T + 5) m = nI (τ 4 m) := H.2.2.2.2.2.2.2.2.1
theorem ct_de {h : HT} {T : Nat} {τ : CT} (H : CTown h T τ) : ∀ m, m < τ 0 1 → m_gI h (T + 6) m = nI (τ 5 m) := H.2.2.2.2.2.2.2.2.2.1
theorem ct_ot {h : HT} {T : Nat} {τ : CT} (H : CTown h T τ) : ∀ m, m < τ 0 1 → m_gI h (T + 7) m = nI (τ 6 m) := H.2.2.2.2.2.2.2.2.2.2.1
theorem ct_co {h : HT} {T : Nat} {τ : CT} (H : CTown h T τ) : ∀ q, q < τ 0 2 → m_gI h (T + 8) q = nI (τ 7 q) := H.2.2.2.2.2.2.2.2.2.2.2.1
theorem ct_wo {h : HT} {T : Nat} {τ : CT} (H : CTown h T τ) : ∀ q, q < τ 0 2 → m_gI h (T + 9) q = nI (τ 8 q) := H.2.2.2.2.2.2.2.2.2.2.2.2.1
theorem ct_fl {h : HT} {T : Nat} {τ : CT} (H : CTown h T τ) : m_gI h (T + 10) 1 = nI (τ 0 9) := H.2.2.2.2.2.2.2.2.2.2.2.2.2.1.1
theorem ct_fu {h : HT} {T : Nat} {τ : CT} (H : CTown h T τ) : m_gI h (T + 10) 2 = nI (τ 0 8) := H.2.2.2.2.2.2.2.2.2.2.2.2.2.1.2
theorem ct_fc {h : HT} {T : Nat} {τ : CT} (H : CTown h T τ) : ∀ i, i < τ 0 9 → m_gI h (T + 11) i = clsC (τ 9 i) (τ 10 i) := H.2.2.2.2.2.2.2.2.2.2.2.2.2.2.1
theorem ct_sh {h : HT} {T : Nat} {τ : CT} (H : CTown h T τ) : ∀ n, n < 128 → m_gI h (T + 13) n = nI (sShort τ n) := H.2.2.2.2.2.2.2.2.2.2.2.2.2.2.2.1
theorem ct_ls {h : HT} {T : Nat} {τ : CT} (H : CTown h T τ) : ∀ s, s < 2 ^ (τ 0 0) → m_gI h (T + 14) s = nI (sLossOf τ s) := H.2.2.2.2.2.2.2.2.2.2.2.2.2.2.2.2
theorem o_cr {τ : CT} (H : cOk τ) : τ 0 0 ≤ 4 := H.1
theorem o_mn {τ : CT} (H : cOk τ) : τ 0 1 ≤ 7 := H.2.1
theorem o_dm {τ : CT} (H : cOk τ) : τ 0 2 ≤ 5 := H.2.2.1
theorem o_fo {τ : CT} (H : cOk τ) : τ 0 3 ≤ 100 := H.2.2.2.1
theorem o_ne {τ : CT} (H : cOk τ) : ∀ c, τ 1 c ≤ 7 := H.2.2.2.2.2.2.2.2.1
theorem o_ls {τ : CT} (H : cOk τ) : ∀ c, τ 2 c ≤ 99 := H.2.2.2.2.2.2.2.2.2.1
theorem o_sk {τ : CT} (H : cOk τ) : ∀ m, τ 3 m < 16 := H.2.2.2.2.2.2.2.2.2.2.1
theorem o_ot {τ : CT} (H : cOk τ) : ∀ m, τ 6 m ≤ 6 := H.2.2.2.2.2.2.2.2.2.2.2.2.2.1
theorem o_co {τ : CT} (H : cOk τ) : ∀ q, τ 7 q ≤ 999 := H.2.2.2.2.2.2.2.2.2.2.2.2.2.2.1
theorem o_wo {τ : CT} (H : cOk τ) : ∀ q, τ 8 q ≤ 99 := H.2.2.2.2.2.2.2.2.2.2.2.2.2.2.2
theorem orb {a k n : Nat} (ha : a < 2 ^ n) (hk : k < n) : a ||| 2 ^ k < 2 ^ n := Nat.or_lt_two_pow ha (Nat.pow_lt_pow_right (by decide) hk)
theorem sMenL_lt {τ : CT} {c : Nat} : ∀ k, sMenL τ c k < 2 ^ k
  | 0 => by simp [sMenL]
  | k + 1 => by
    unfold sMenL
    have := sMenL_lt (τ := τ) (c := c) k
    have h2 : sMenL τ c k < 2 ^ (k + 1) := Nat.lt_of_lt_of_le this (Nat.pow_le_pow_right (by decide) (by omega))
    split
    · exact orb h2 (by omega)
    · exact h2
theorem sShortL_lt {τ : CT} {n : Nat} : ∀ k, sShortL τ n k < 2 ^ k
  | 0 => by simp [sShortL]
  | k + 1 => by
    unfold sShortL
    have := sShortL_lt (τ := τ) (n := n) k
    have h2 : sShortL τ n k < 2 ^ (k + 1) := Nat.lt_of_lt_of_le this (Nat.pow_le_pow_right (by decide) (by omega))
    split
    · exact orb h2 (by omega)
    · exact h2
theorem sFolL_lt {τ : CT} {n : Nat} : ∀ k, sFolL τ n k < 2 ^ k
  | 0 => by simp [sFolL]
  | k + 1 => by
    unfold sFolL
    have := sFolL_lt (τ := τ) (n := n) k
    have h2 : sFolL τ n k < 2 ^ (k + 1) := Nat.lt_of_lt_of_le this (Nat.pow_le_pow_right (by decide) (by omega))
    split
    · exact orb h2 (by omega)
    · exact h2
theorem p2_7 {k : Nat} (h : k ≤ 7) : 2 ^ k ≤ 128 := Nat.pow_le_pow_right (n := 2) (j := 7) (by decide) h
theorem sShort_lt {τ : CT} (H : cOk τ) (n : Nat) : sShort τ n < 2 ^ (τ 0 0) := sShortL_lt _
theorem sShort_16 {τ : CT} (H : cOk τ) (n : Nat) : sShort τ n < 16 := Nat.lt_of_lt_of_le (sShortL_lt _) (Nat.pow_le_pow_right (n := 2) (j := 4) (by decide) H.1)
theorem sMen_lt {τ : CT} (H : cOk τ) (c : Nat) : sMen τ c < 128 := Nat.lt_of_lt_of_le (sMenL_lt _) (p2_7 H.2.1)
theorem sFol_lt {τ : CT} (H : cOk τ) (n : Nat) : sFol τ n < 128 := Nat.lt_of_lt_of_le (sFolL_lt _) (p2_7 H.2.1)
theorem sFol_all {τ : CT} (n : Nat) : sFol τ n < 2 ^ (τ 0 1) := sFolL_lt _
theorem pcN_le : ∀ n, n < 128 → pcN n ≤ 7 := by decide +kernel
