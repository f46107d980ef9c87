/-! ALL THAT BOTH HOLD: city, state, acts behind and ahead and their states, boxes, what is seen, the tape, the fault -/
abbrev ST : Type := CT × (Nat → Int32) × Nat × Nat × (Nat → Nat → Int32) × (Nat → Bool) × (Nat → Nat → Int32) × Nat × Nat × (Nat → Nat → Int32) × Nat × (Nat → Nat) × Int32 × Int32
/-- the ring's cells -/
def rg (o j : Nat) : Nat := 46 + 3 * ((o + j) % 41)
def CAct (τ : CT) (h : HT) (o bh ah : Nat) (W : Nat → Nat → Int32) (A : Nat → Int32) : Prop := o < 41 ∧ (m_gI h 44 1 = nI o ∧ m_gI h 44 2 = nI bh ∧ m_gI h 44 3 = nI ah) ∧ (∀ j, j < bh → Rep τ (gS h (rg o j)) (W j)) ∧ (∀ j, bh ≤ j → j < bh + ah → Rep τ (gS h (rg o (j + 1))) (W j)) ∧ (0 < ah → Rep τ (gS h (rg o bh)) A)
def CBox (τ : CT) (h : HT) (F : Nat → Bool) (B : Nat → Nat → Int32) : Prop := ∀ b, b < 3 → m_gI h 170 b = (if F b = true then 1 else 0) ∧ (F b = true → Rep τ (gS h (186 + 3 * b)) (B b))
def CSig (h : HT) (n t : Nat) (S : Nat → Nat → Int32) : Prop := m_gI h 179 5 = nI n ∧ m_gI h 179 6 = nI t ∧ ∀ i, i < n → ∀ j, j < 5 → m_gI h (180 + j) i = S j i
def CTap (h : HT) (L : Nat) (V : Nat → Nat) : Prop := m_gI h 2 1 = nI L ∧ ∀ i, i < L → m_gI h 3 i = nI (V i)
def CFau (h : HT) (x y : Int32) : Prop := m_gI h 4 2 = x ∧ m_gI h 4 3 = y
def CI (h : HT) : ST → Prop
  | (τ, A, bh, ah, W, F, B, n, t, S, L, V, x, y) => (∃ T, CQ h T τ 999 A ∧ m_gR h 4 1 = 28 - T) ∧ (∃ o, CAct τ h o bh ah W A) ∧ CBox τ h F B ∧ CSig h n t S ∧ CTap h L V ∧ CFau h x y
/-- a byte as the model keeps it -/
def byI (v : Nat) : Int32 := (nI v).toInt8.toInt32
def KAct (h : HT) (bh ah : Nat) (W : Nat → Nat → Int32) : Prop := m_gI h 195 50 = nI bh ∧ m_gI h 195 51 = nI ah ∧ ∀ j, j < bh + ah → ∀ k, k < 20 → m_gI h 228 (20 * j + k) = W j k
def KBox (h : HT) (F : Nat → Bool) (B : Nat → Nat → Int32) : Prop := ∀ b, b < 3 → m_gI h 237 b = (if F b = true then 1 else 0) ∧ (F b = true → ∀ k, k < 20 → m_gI h 236 (20 * b + k) = B b k)
def KSig (h : HT) (n t : Nat) (S : Nat → Nat → Int32) : Prop := m_gI h 195 62 = nI n ∧ m_gI h 195 63 = nI t ∧ ∀ i, i < n → ∀ j, j < 5 → m_gI h (230 + j) i = S j i
def KTap (h : HT) (L : Nat) (V : Nat → Nat) : Prop := m_gI h 195 2 = nI L ∧ ∀ i, i < L → m_gI h 196 i = byI (V i)
def KFau (h : HT) (x y : Int32) : Prop := m_gI h 195 4 = x ∧ m_gI h 195 5 = y
def sOk (S : Nat → Nat → Int32) (i : Nat) : Prop := (S 0 i = 0 ∨ S 0 i = 1 ∨ S 0 i = 2) ∧ (∃ w, w < 8 ∧ S 1 i = nI w) ∧ (S 2 i = 0 ∨ S 2 i = 1) ∧ (S 4 i = -1 ∨ ∃ u, u < 2 ^ 31 ∧ S 4 i = nI u)
def OKs : ST → Prop
  | (τ, _, bh, ah, W, F, B, n, t, S, L, V, _, _) => bh + ah ≤ 40 ∧ (∀ j, j < bh + ah → aOk τ 999 (W j)) ∧ (∀ b, b < 3 → F b = true → aOk τ 999 (B b)) ∧ n ≤ 30 ∧ t ≤ 100000 ∧ (∀ i, i < n → sOk S i) ∧ L ≤ 1600 ∧ ∀ i, i < L → V i < 256
theorem gS_eq {h g : HT} {a : Nat} (e : ∀ c k, a ≤ c → c < a + 3 → m_gI g c k = m_gI h c k) : gS g a = gS h a := by
  have e' : ∀ c, a ≤ c → c < a + 3 → m_gI g c = m_gI h c := fun c h1 h2 => funext fun k => e c k h1 h2
  unfold gS
  rw [e' a (by omega) (by omega), e' (a + 1) (by omega) (by omega), e' (a + 2) (by omega) (by omega)]
theorem rg_bd {o j : Nat} : 46 ≤ rg o j ∧ rg o j ≤ 166 := by
  have : (o + j) % 41 < 41 := Nat.mod_lt _ (by decide)
  unfold rg
  omega
theorem rg_S {o j : Nat} : isS (rg o j) := isS_ring _ (Nat.mod_lt _ (by decide))
theorem CAct_eq {τ : CT} {h g : HT} {o bh ah : Nat} {W : Nat → Nat → Int32} {A : Nat → Int32} (e : ∀ c k, 44 ≤ c → c < 169 → m_gI g c k = m_gI h c k) (H : CAct τ h o bh ah W A) : CAct τ g o bh ah W A := by
  have eg : ∀ j, gS g (rg o j) = gS h (rg o j) := fun j => by
    have := rg_bd (o := o) (j := j)
    exact gS_eq (fun c k h1 h2 => e c k (by omega) (by omega))
  unfold CAct at *
  simp only [eg, e 44 _ (by omega) (by omega)]
  exact H
theorem CBox_eq {τ : CT} {h g : HT} {F : Nat → Bool} {B : Nat → Nat → Int32} (e : ∀ c k, c = 170 ∨ 186 ≤ c ∧ c < 195 → m_gI g c k = m_gI h c k) (H : CBox τ h F B) : CBox τ g F B := by
  intro b hb
  have := H b hb
  rw [e 170 b (Or.inl rfl), gS_eq (fun c k h1 h2 => e c k (by omega))]
  exact this
theorem CSig_eq {h g : HT} {n t : Nat} {S : Nat → Nat → Int32} (e : ∀ c k, c = 179 ∧ (k = 5 ∨ k = 6) ∨ 180 ≤ c ∧ c < 185 → m_gI g c k = m_gI h c k) (H : CSig h n t S) : CSig g n t S := by
  refine ⟨(e 179 5 (by omega)).trans H.1, (e 179 6 (by omega)).trans H.2.1, fun i hi j hj => ?_⟩
  rw [e (180 + j) i (by omega)]
  exact H.2.2 i hi j hj
theorem CTap_eq {h g : HT} {L : Nat} {V : Nat → Nat} (e : ∀ c k, c = 2 ∧ k = 1 ∨ c = 3 → m_gI g c k = m_gI h c k) (H : CTap h L V) : CTap g L V := by
  refine ⟨(e 2 1 (by omega)).trans H.1, fun i hi => ?_⟩
  rw [e 3 i (by omega)]
  exact H.2 i hi
theorem CFau_eq {h g : HT} {x y : Int32} (e : ∀ k, k = 2 ∨ k = 3 → m_gI g 4 k = m_gI h 4 k) (H : CFau h x y) : CFau g x y := ⟨(e 2 (by omega)).trans H.1, (e 3 (by omega)).trans H.2⟩
theorem KAct_eq {h g : HT} {bh ah : Nat} {W : Nat → Nat → Int32} (e : ∀ c k, c = 195 ∧ (k = 50 ∨ k = 51) ∨ c = 228 → m_gI g c k = m_gI h c k) (H : KAct h bh ah W) : KAct g bh ah W := by
  refine ⟨(e 195 50 (by omega)).trans H.1, (e 195 51 (by omega)).trans H.2.1, fun j hj k hk => ?_⟩
  rw [e 228 _ (by omega)]
  exact H.2.2 j hj k hk
theorem KBox_eq {h g : HT} {F : Nat → Bool} {B : Nat → Nat → Int32} (e : ∀ c k, c = 236 ∨ c = 237 → m_gI g c k = m_gI h c k) (H : KBox h F B) : KBox g F B := by
  intro b hb
  have := H b hb
  refine ⟨(e 237 b (by omega)).trans this.1, fun hf k hk => ?_⟩
  rw [e 236 _ (by omega)]
  exact this.2 hf k hk
theorem KSig_eq {h g : HT} {n t : Nat} {S : Nat → Nat → Int32} (e : ∀ c k, c = 195 ∧ (k = 62 ∨ k = 63) ∨ 230 ≤ c ∧ c < 235 → m_gI g c k = m_gI h c k) (H : KSig h n t S) : KSig g n t S := by
  refine ⟨(e 195 62 (by omega)).trans H.1, (e 195 63 (by omega)).trans H.2.1, fun i hi j hj => ?_⟩
  rw [e (230 + j) i (by omega)]
  exact H.2.2 i hi j hj
theorem KTap_eq {h g : HT} {L : Nat} {V : Nat → Nat} (e : ∀ c k, c = 195 ∧ k = 2 ∨ c = 196 → m_gI g c k = m_gI h c k) (H : KTap h L V) : KTap g L V := by
  refine ⟨(e 195 2 (by omega)).trans H.1, fun i hi => ?_⟩
  rw [e 196 i (by omega)]
  exact H.2 i hi
theorem KFau_eq {h g : HT} {x y : Int32} (e : ∀ k, k = 4 ∨ k = 5 → m_gI g 195 k = m_gI h 195 k) (H : KFau h x y) : KFau g x y := ⟨(e 4 (by omega)).trans H.1, (e 5 (by omega)).trans H.2⟩
/-- refs as they were, but for the city's two -/
def Rf (h g : HT) : Prop := ∀ c k, (c = 1 ∧ k = 2) ∨ (c = 4 ∧ k = 1) ∨ m_gR g c k = m_gR h c k
theorem PT_no : ∀ q ∈ PT, ¬ (q.1 = 1 ∧ q.2.1 = 2) ∧ ¬ (q.1 = 4 ∧ q.2.1 = 1) := by decide +kernel
theorem Ptr_rf {h g : HT} (r : Rf h g) (p : Ptr h) : Ptr g := by
  intro q hq
  have n := PT_no q hq
  rcases r q.1 q.2.1 with e | e | e
  · exact absurd e n.1
  · exact absurd e n.2
  · exact e.trans (p q hq)
theorem Rf_of {h g : HT} (e : g.2 = h.2) : Rf h g := fun c k => Or.inr (Or.inr (by unfold m_gR; rw [e]))
/-- the class's doing: nothing of the model's is touched -/
def Hi (h g : HT) : Prop := Rf h g ∧ ∀ c k, 195 ≤ c → m_gI g c k = m_gI h c k
def Lo (h g : HT) : Prop := g.2.2 = h.2.2 ∧ ∀ c k, c < 195 → m_gI g c k = m_gI h c k
theorem CQ_eq {h g : HT} {T N N' : Nat} {τ : CT} {A A' : Nat → Int32} (r : ∀ c k, m_gR g c k = m_gR h c k) (e : ∀ c k, c < 38 → isP c k = false → m_gI g c k = m_gI h c k) (H : CQ h T τ N A) (R : Rep τ (gS g 38) A') (K : aOk τ N' A') : CQ g T τ N' A' := by
  have hT := ct_T (cq_t H)
  refine ⟨⟨hT, Ptr_of (cq_p H) r, cq_k H, CCity_of (fun j k h1 h2 h3 => e _ _ ?_ ?_) (cq_t H).2.2.2⟩, cq_f H, (r 1 2).trans (cq_T H), R, K⟩
  · rcases hT with t | t <;> omega
  · unfold isP
    simp only [Bool.or_eq_false_iff, decide_eq_false_iff_not]
    rcases hT with t | t <;> omega
theorem CI_lo {h g : HT} {σ : ST} (a : Lo h g) (H : CI h σ) : CI g σ := by
  obtain ⟨τ, A, bh, ah, W, F, B, n, t, S, L, V, x, y⟩ := σ
  obtain ⟨⟨T, H1, H1'⟩, ⟨o, H2⟩, H3, H4, H5, H6⟩ := H
  have r : ∀ c k, m_gR g c k = m_gR h c k := fun c k => by
    unfold m_gR
    rw [a.1]
  refine ⟨⟨T, CQ_eq r (fun c k h1 _ => a.2 c k (by omega)) H1 ?_ (cq_a H1), (r 4 1).trans H1'⟩, ⟨o, CAct_eq (fun c k h1 h2 => a.2 c k (by omega)) H2⟩, CBox_eq (fun c k z => a.2 c k (by omega)) H3, CSig_eq (fun c k z => a.2 c k (by omega)) H4, CTap_eq (fun c k z => a.2 c k (by omega)) H5, CFau_eq (fun k z => a.2 4 k (by omega)) H6⟩
  rw [gS_eq (fun c k h1 h2 => a.2 c k (by omega))]
  exact cq_r H1
theorem CI_same {h g : HT} {σ : ST} (a : Same h g) (H : CI h σ) : CI g σ := by
  obtain ⟨τ, A, bh, ah, W, F, B, n, t, S, L, V, x, y⟩ := σ
  obtain ⟨⟨T, H1, H1'⟩, ⟨o, H2⟩, H3, H4, H5, H6⟩ := H
  refine ⟨⟨T, CQ_same a H1, (Same_R a 4 1).trans H1'⟩, ⟨o, CAct_eq (fun c k h1 h2 => a.2 c k (isJ_mid (by omega))) H2⟩, CBox_eq (fun c k z => a.2 c k (isJ_mid (by omega))) H3, CSig_eq (fun c k z => a.2 c k ?_) H4, CTap_eq (fun c k z => a.2 c k (isJ_mid (by omega))) H5, CFau_eq (fun k z => a.2 4 k (isJ_mid (by omega))) H6⟩
  unfold isJ
  simp only [Bool.or_eq_false_iff, decide_eq_false_iff_not]
  omega
/-! the class's acts change cells 38 to 168 -/
def Da (h g : HT) : Prop := (∀ c k, m_gR g c k = m_gR h c k) ∧ ∀ c k, c < 38 ∨ 169 ≤ c → isP c k = false → m_gI g c k = m_gI h c k
theorem Da_rf {h : HT} : Da h h := ⟨fun _ _ => rfl, fun _ _ _ _ => rfl⟩
theorem Da_tr {h g f : HT} (a : Da h g) (b : Da g f) : Da h f := ⟨fun c k => (b.1 c k).trans (a.1 c k), fun c k y z => (b.2 c k y z).trans (a.2 c k y z)⟩
theorem Da_pS {h : HT} {a : Nat} {r : RS} (h1 : 38 ≤ a) (h2 : a ≤ 166) : Da h (pS h a r) := ⟨fun _ _ => rfl, fun c k y _ => gI_pSo (by omega)⟩
theorem Da_hi {h g : HT} (a : Da h g) : Hi h g := ⟨fun c k => Or.inr (Or.inr (a.1 c k)), fun c k z => a.2 c k (Or.inr (by omega)) (isP_ge (by omega))⟩
theorem CI_act {h g : HT} {τ : CT} {A A' : Nat → Int32} {bh ah bh' ah' o' : Nat} {W W' : Nat → Nat → Int32} {F : Nat → Bool} {B : Nat → Nat → Int32} {n t : Nat} {S : Nat → Nat → Int32} {L : Nat} {V : Nat → Nat} {x y : Int32} (H : CI h (τ, A, bh, ah, W, F, B, n, t, S, L, V, x, y)) (a : Da h g) (R : Rep τ (gS g 38) A') (K : aOk τ 999 A') (C : CAct τ g o' bh' ah' W' A') : CI g (τ, A', bh', ah', W', F, B, n, t, S, L, V, x, y) := by
  obtain ⟨⟨T, H1, H1'⟩, _, H3, H4, H5, H6⟩ := H
  exact ⟨⟨T, CQ_eq a.1 (fun c k h1 z => a.2 c k (Or.inl h1) z) H1 R K, (a.1 4 1).trans H1'⟩, ⟨o', C⟩, CBox_eq (fun c k z => a.2 c k (by omega) (isP_ge (by omega))) H3, CSig_eq (fun c k z => a.2 c k (by omega) (isP_ge (by omega))) H4, CTap_eq (fun c k z => a.2 c k (by omega) (by unfold isP; simp only [Bool.or_eq_false_iff, decide_eq_false_iff_not]; omega)) H5, CFau_eq (fun k z => a.2 4 k (by omega) (by unfold isP; simp only [Bool.or_eq_false_iff, decide_eq_false_iff_not]; omega)) H6⟩
/-- the model's acts change the state, the states behind, and what nobody reads -/
def Dk (h g : HT) : Prop := g.2 = h.2 ∧ ∀ c k, c ≠ 227 → c ≠ 228 → ¬ (c = 195 ∧ (k = 50 ∨ k = 51)) → ¬ (c = 226 ∨ c = 229 ∨ c = 195 ∧ (k = 46 ∨ k = 48)) → m_gI g c k = m_gI h c k
theorem Dk_rf {h : HT} : Dk h h := ⟨rfl, fun _ _ _ _ _ _ => rfl⟩
theorem Dk_tr {h g f : HT} (a : Dk h g) (b : Dk g f) : Dk h f := ⟨b.1.trans a.1, fun c k x y z w => (b.2 c k x y z w).trans (a.2 c k x y z w)⟩
theorem Dk_lo {h g : HT} (a : Dk h g) : Lo h g := ⟨by rw [a.1], fun c k z => a.2 c k (by omega) (by omega) (by omega) (by omega)⟩
