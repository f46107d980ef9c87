/-! THE LINES: what each says, and the class's crafts and demands -/
/-- a fault's kind and place, or where the token stands and the city so far (rows 11 to 13: names; 0 10, 0 11: foes, a draw told) -/
abbrev RL : Type := (Nat × Nat) ⊕ (Nat × CT)
def upC (τ : CT) (nm v1 v2 : Nat) : CT := fun r j => if r = 0 then (if j = 0 then τ 0 0 + 1 else τ 0 j) else if r = 1 then (if j = τ 0 0 then v1 else τ 1 j) else if r = 2 then (if j = τ 0 0 then v2 else τ 2 j) else if r = 11 then (if j = τ 0 0 then nm else τ 11 j) else τ r j
def upD (τ : CT) (nm v1 v2 : Nat) : CT := fun r j => if r = 0 then (if j = 2 then τ 0 2 + 1 else τ 0 j) else if r = 7 then (if j = τ 0 2 then v1 else τ 7 j) else if r = 8 then (if j = τ 0 2 then v2 else τ 8 j) else if r = 13 then (if j = τ 0 2 then nm else τ 13 j) else τ r j
def upM (τ : CT) (nm sk lv de ot ou : Nat) : CT := fun r j => if r = 0 then (if j = 1 then τ 0 1 + 1 else if j = 6 then (if ou = 1 then τ 0 6 ||| 2 ^ τ 0 1 else τ 0 6) else τ 0 j) else if r = 3 then (if j = τ 0 1 then sk else τ 3 j) else if r = 4 then (if j = τ 0 1 then lv else τ 4 j) else if r = 5 then (if j = τ 0 1 then de else τ 5 j) else if r = 6 then (if j = τ 0 1 then ot else τ 6 j) else if r = 12 then (if j = τ 0 1 then nm else τ 12 j) else τ r j
def upB (τ : CT) (S : Nat × Nat × (Nat → Nat × Nat)) : CT := fun r j => if r = 0 then (if j = 7 then 1 else if j = 8 then S.1 else if j = 9 then S.2.1 else τ 0 j) else if r = 9 then (S.2.2 j).1 else if r = 10 then (S.2.2 j).2 else τ r j
def upF (τ : CT) (a b : Nat) : CT := fun r j => if r = 0 then (if j = 3 then a else if j = 4 then b else if j = 10 then 1 else τ 0 j) else τ r j
def upW (τ : CT) (a : Nat) : CT := fun r j => if r = 0 then (if j = 5 then a else if j = 11 then 1 else τ 0 j) else τ r j
def fiL : RP → CT → RL
  | .inl e, _ => .inl e
  | .inr s, τ => .inr (s, τ)
section LI
variable (V : Nat → Nat) (L s : Nat) (τ : CT)
def cP0 : RP := nmP V L (τ 11) (τ 0 0) (.inr (nx V L s))
def cP1 : RP × Nat := nuP V L 7 (exW V L 3 (cP0 V L s τ))
def cP2 : RP × Nat := nuP V L 99 (exW V L 4 (cP1 V L s τ).1)
def liC : RL := if 4 ≤ τ 0 0 then .inl (kdO V L s 2, s) else fiL (cP2 V L s τ).1 (upC τ (wd V L (nx V L s)) (cP1 V L s τ).2 (cP2 V L s τ).2)
def dP0 : RP := nmP V L (τ 13) (τ 0 2) (.inr (nx V L s))
def dP1 : RP × Nat := nuP V L 999 (exW V L 12 (dP0 V L s τ))
def dP2 : RP × Nat := nuP V L 99 (exW V L 13 (dP1 V L s τ).1)
def liD : RL := if 5 ≤ τ 0 2 then .inl (kdO V L s 2, s) else fiL (dP2 V L s τ).1 (upD τ (wd V L (nx V L s)) (dP1 V L s τ).2 (dP2 V L s τ).2)
end LI
/-- names of crafts, one behind the other -/
def crL (V : Nat → Nat) (L : Nat) (ν : Nat → Nat) (n : Nat) : Nat → Nat → RP → RP × Nat
  | 0, t, r => (r, t)
  | _ + 1, t, .inl e => (.inl e, t)
  | f + 1, t, .inr s => if isN V L s = true then crL V L ν n f (t ||| (cnP V L ν n t (.inr s)).2) (cnP V L ν n t (.inr s)).1 else (.inr s, t)
def otP (V : Nat → Nat) (L : Nat) : RP → RP × Nat
  | .inl e => (.inl e, 0)
  | .inr s => if isW V L s 9 = true then nuP V L 6 (exW V L 9 (.inr s)) else (.inr s, 0)
def ouP (V : Nat → Nat) (L : Nat) : RP → RP × Nat
  | .inl e => (.inl e, 0)
  | .inr s => if isW V L s 10 = true then (.inr (nx V L s), 1) else (.inr s, 0)
section LM
variable (V : Nat → Nat) (L s : Nat) (τ : CT)
def mP0 : RP := exW V L 6 (nmP V L (τ 12) (τ 0 1) (.inr (nx V L s)))
def mP1 : RP × Nat := cnP V L (τ 11) (τ 0 0) 0 (mP0 V L s τ)
def mP2 : RP × Nat := crL V L (τ 11) (τ 0 0) 4 (mP1 V L s τ).2 (mP1 V L s τ).1
def mP3 : RP × Nat := nuP V L 20 (exW V L 7 (mP2 V L s τ).1)
def mP4 : RP × Nat := nuP V L 99 (exW V L 8 (mP3 V L s τ).1)
def mP5 : RP × Nat := otP V L (mP4 V L s τ).1
def mP6 : RP × Nat := ouP V L (mP5 V L s τ).1
def liM : RL := if 7 ≤ τ 0 1 then .inl (kdO V L s 2, s) else fiL (mP6 V L s τ).1 (upM τ (wd V L (nx V L s)) (mP2 V L s τ).2 (mP3 V L s τ).2 (mP4 V L s τ).2 (mP5 V L s τ).2 (mP6 V L s τ).2)
def liB : RL := match lev V L 48 0 0 (nx V L s, 0, 0, fun _ => (0, 0)) with
  | .inl e => .inl e
  | .inr S => .inr (S.1, upB τ S.2)
def fP1 : RP × Nat := nuP V L 100 (exW V L 24 (.inr s))
def fP2 : RP × Nat := nuP V L 999 (exW V L 25 (fP1 V L s).1)
def liF : RL := fiL (fP2 V L s).1 (upF τ (fP1 V L s).2 (fP2 V L s).2)
def liW : RL := fiL (nuP V L 999 (exW V L 26 (.inr s))).1 (upW τ (nuP V L 999 (exW V L 26 (.inr s))).2)
/-- a line without its end -/
def liX : RL := if isW V L s 1 = true then liC V L s τ else if isW V L s 5 = true then liM V L s τ else if isW V L s 11 = true then liD V L s τ else if isW V L s 14 = true ∧ τ 0 7 = 0 then liB V L s τ else if isW V L s 24 = true ∧ τ 0 10 = 0 then liF V L s τ else if isW V L s 26 = true ∧ τ 0 11 = 0 then liW V L s τ else .inl (kdO V L s 2, s)
end LM
def exL (V : Nat → Nat) (L c : Nat) : RL → RL
  | .inl e => .inl e
  | .inr q => if isG V L q.1 c = true then .inr (nx V L q.1, q.2) else .inl (kdO V L q.1 2, q.1)
/-- all lines -/
def rdL (V : Nat → Nat) (L : Nat) : Nat → RL → RL
  | 0, r => r
  | _ + 1, .inl e => .inl e
  | f + 1, .inr q => if tK V L q.1 = 0 then .inr q else rdL V L f (exL V L 59 (liX V L q.1 q.2))
/-- the class's draft holds the city so far -/
def CD (h : HT) (C : Nat) (τ : CT) : Prop :=
  (m_gI h C 0 = nI (τ 0 0) ∧ m_gI h C 4 = nI (τ 0 1) ∧ m_gI h C 10 = nI (τ 0 2) ∧ m_gI h C 14 = nI (τ 0 3) ∧ m_gI h C 15 = nI (τ 0 4) ∧ m_gI h C 16 = nI (τ 0 5) ∧ m_gI h C 9 = nI (τ 0 6)) ∧
  ((∀ i, i < τ 0 0 → m_gI h (C + 1) i = nI (τ 1 i)) ∧ (∀ i, i < τ 0 0 → m_gI h (C + 2) i = nI (τ 2 i)) ∧ (∀ i, i < τ 0 1 → m_gI h (C + 4) i = nI (τ 3 i)) ∧ (∀ i, i < τ 0 1 → m_gI h (C + 5) i = nI (τ 4 i)) ∧ (∀ i, i < τ 0 1 → m_gI h (C + 6) i = nI (τ 5 i)) ∧ (∀ i, i < τ 0 1 → m_gI h (C + 7) i = nI (τ 6 i)) ∧ (∀ i, i < τ 0 2 → m_gI h (C + 8) i = nI (τ 7 i)) ∧ ∀ i, i < τ 0 2 → m_gI h (C + 9) i = nI (τ 8 i)) ∧
  (m_gI h (C + 10) 1 = nI (τ 0 9) ∧ m_gI h (C + 10) 2 = nI (τ 0 8) ∧ ∀ i, i < τ 0 9 → m_gI h (C + 11) i = clsC (τ 9 i) (τ 10 i)) ∧
  ((∀ i, i < τ 0 0 → m_gL h 20 i = nL (τ 11 i)) ∧ (∀ i, i < τ 0 1 → m_gL h 21 i = nL (τ 12 i)) ∧ ∀ i, i < τ 0 2 → m_gL h 22 i = nL (τ 13 i)) ∧
  (m_gI h 4 7 = nI (τ 0 7) ∧ m_gI h 4 8 = nI (τ 0 10) ∧ m_gI h 4 9 = nI (τ 0 11))
theorem row_up {f : Nat → Int32} {ρ : Nat → Nat} {n v : Nat} (h : ∀ i, i < n → f i = nI (ρ i)) (e : f n = nI v) : ∀ i, i < n + 1 → f i = nI (if i = n then v else ρ i) := fun i hi => by
  by_cases z : i = n
  · rw [if_pos z, z, e]
  · rw [if_neg z]
    exact h i (by omega)
theorem row_upL {f : Nat → Int64} {ρ : Nat → Nat} {n v : Nat} (h : ∀ i, i < n → f i = nL (ρ i)) (e : f n = nL v) : ∀ i, i < n + 1 → f i = nL (if i = n then v else ρ i) := fun i hi => by
  by_cases z : i = n
  · rw [if_pos z, z, e]
  · rw [if_neg z]
    exact h i (by omega)
def nmA (τ : CT) : Prop := (∀ i, τ 11 i < 2 ^ 40) ∧ (∀ i, τ 12 i < 2 ^ 40) ∧ ∀ i, τ 13 i < 2 ^ 40
theorem nmA_c {τ : CT} {n : Nat} (H : nmA τ) : nmK (τ 11) n := fun i _ => H.1 i
theorem nmA_m {τ : CT} {n : Nat} (H : nmA τ) : nmK (τ 12) n := fun i _ => H.2.1 i
theorem nmA_d {τ : CT} {n : Nat} (H : nmA τ) : nmK (τ 13) n := fun i _ => H.2.2 i
def CLr (h : HT) (C L : Nat) (V : Nat → Nat) : RL → Prop
  | .inl e => CB h C L V e
  | .inr q => CP h C L V (.inr q.1) ∧ CD h C q.2
/-- what reading lines may change -/
def exC (C c k : Nat) : Prop := (c = 2 ∧ k ≠ 1) ∨ (c = 4 ∧ (k = 2 ∨ k = 3 ∨ 7 ≤ k)) ∨ (C ≤ c ∧ c ≤ C + 14)
def FrC (C : Nat) (h g : HT) : Prop := (∀ c k, m_gR g c k = m_gR h c k) ∧ (∀ c k, ¬ exC C c k → m_gI g c k = m_gI h c k) ∧ ∀ c k, c ≠ 2 ∧ ¬ (20 ≤ c ∧ c ≤ 22) → m_gL g c k = m_gL h c k
theorem FrC_rf {C : Nat} {h : HT} : FrC C h h := ⟨fun _ _ => rfl, fun _ _ _ => rfl, fun _ _ _ => rfl⟩
theorem FrC_tr {C : Nat} {h g f : HT} (a : FrC C h g) (b : FrC C g f) : FrC C h f := ⟨fun c k => (b.1 c k).trans (a.1 c k), fun c k x => (b.2.1 c k x).trans (a.2.1 c k x), fun c k x => (b.2.2 c k x).trans (a.2.2 c k x)⟩
theorem FrC_P {C : Nat} {h g : HT} (a : FrP h g) : FrC C h g := ⟨a.1, fun c k x => a.2.1 c k (by unfold exC at x; omega) (by unfold exC at x; omega), fun c k x => a.2.2 c k x.1⟩
theorem FrC_F {C : Nat} {h g : HT} (a : FrF C h g) : FrC C h g := ⟨a.1, fun c k x => a.2.1 c k (by unfold exC at x; omega) (by unfold exC at x; omega) (by unfold exC at x; omega) (by unfold exC at x; omega), fun c k x => a.2.2 c k x.1⟩
theorem FrC_s {C c k : Nat} {h : HT} {v : Int32} (e : exC C c k) : FrC C h (m_sI h c k v) := ⟨fun _ _ => rfl, fun x j n => by
  rw [gI_sI, if_neg]
  rintro ⟨rfl, rfl⟩
  exact n e, fun _ _ _ => rfl⟩
theorem FrC_l {C c k : Nat} {h : HT} {v : Int64} (e : 20 ≤ c ∧ c ≤ 22) : FrC C h (m_sL h c k v) := ⟨fun _ _ => rfl, fun _ _ _ => rfl, fun x j n => by
  rw [gL_sL, if_neg]
  rintro ⟨rfl, rfl⟩
  exact n.2 e⟩
theorem CP_sI {h : HT} {C L c k : Nat} {V : Nat → Nat} {r : RP} {v : Int32} (H : CP h C L V r) (z : 5 ≤ c ∨ c = 4 ∧ 7 ≤ k) : CP (m_sI h c k v) C L V r := by
  have e : ∀ x j, x = 2 ∨ x = 3 → m_gI (m_sI h c k v) x j = m_gI h x j := fun x j y => by rw [gI_sI, if_neg (by omega)]
  cases r with
  | inl q => exact ⟨TkC_eq (h := h) (fun _ _ => rfl) e rfl H.1, H.2.1, by rw [gI_sI, if_neg (by omega)]; exact H.2.2.1, H.2.2.2.1, by rw [gI_sI, if_neg (by omega)]; exact H.2.2.2.2⟩
  | inr q => exact ⟨TkC_eq (h := h) (fun _ _ => rfl) e rfl H.1, H.2.1, by rw [gI_sI, if_neg (by omega)]; exact H.2.2.1, by rw [gI_sI, if_neg (by omega)]; exact H.2.2.2⟩
theorem CP_sL {h : HT} {C L c k : Nat} {V : Nat → Nat} {r : RP} {v : Int64} (H : CP h C L V r) (z : c ≠ 2) : CP (m_sL h c k v) C L V r := by
  have e : m_gL (m_sL h c k v) 2 5 = m_gL h 2 5 := by rw [gL_sL, if_neg (by omega)]
  cases r with
  | inl q => exact ⟨TkC_eq (h := h) (fun _ _ => rfl) (fun _ _ _ => rfl) e H.1, H.2⟩
  | inr q => exact ⟨TkC_eq (h := h) (fun _ _ => rfl) (fun _ _ _ => rfl) e H.1, H.2⟩
theorem nmP_w {V : Nat → Nat} {L n s s' : Nat} {ν : Nat → Nat} (e : nmP V L ν n (.inr s) = .inr s') : isN V L s = true := by
  by_cases z : isN V L s = true
  · exact z
  · rw [show nmP V L ν n (.inr s) = .inl (kdO V L s 2, s) from if_neg z] at e
    cases e
theorem exW_i {V : Nat → Nat} {L i s' : Nat} {r : RP} (e : exW V L i r = .inr s') : ∃ s, r = .inr s ∧ isW V L s i = true ∧ s' = nx V L s := by
  cases r with
  | inl x => cases e
  | inr s =>
    by_cases z : isW V L s i = true
    · rw [show exW V L i (.inr s) = .inr (nx V L s) from if_pos z] at e
      cases e
      exact ⟨s, rfl, z, rfl⟩
    · rw [show exW V L i (.inr s) = .inl (kdO V L s 2, s) from if_neg z] at e
      cases e
theorem nuP_i {V : Nat → Nat} {L m s' : Nat} {r : RP} (e : (nuP V L m r).1 = .inr s') : ∃ s, r = .inr s ∧ tK V L s = 2 ∧ dN V s (nDg V L s) ≤ m ∧ s' = nx V L s ∧ (nuP V L m r).2 = dN V s (nDg V L s) := by
  cases r with
  | inl x => cases e
  | inr s =>
    by_cases z : tK V L s = 2
    · by_cases y : m < dN V s (nDg V L s)
      · rw [show nuP V L m (.inr s) = (.inl (kdO V L s 4, s), 0) from (if_pos z).trans (if_pos y)] at e
        cases e
      · rw [show nuP V L m (.inr s) = (.inr (nx V L s), dN V s (nDg V L s)) from (if_pos z).trans (if_neg y)] at e ⊢
        cases e
        exact ⟨s, rfl, z, by omega, rfl, rfl⟩
    · rw [show nuP V L m (.inr s) = (.inl (kdO V L s 2, s), 0) from if_neg z] at e
      cases e
theorem nuP_m {V : Nat → Nat} {L m : Nat} {r : RP} : (nuP V L m r).2 ≤ m := by
  cases r with
  | inl x => exact Nat.zero_le _
  | inr s =>
    by_cases z : tK V L s = 2
    · by_cases y : m < dN V s (nDg V L s)
      · rw [show nuP V L m (.inr s) = (.inl (kdO V L s 4, s), 0) from (if_pos z).trans (if_pos y)]
        exact Nat.zero_le _
      · rw [show nuP V L m (.inr s) = (.inr (nx V L s), dN V s (nDg V L s)) from (if_pos z).trans (if_neg y)]
        show dN V s (nDg V L s) ≤ m
        omega
    · rw [show nuP V L m (.inr s) = (.inl (kdO V L s 2, s), 0) from if_neg z]
      exact Nat.zero_le _
theorem c_readCraft {X : XT} {d C L s : Nat} {h : HT} {V : Nat → Nat} {τ : CT} (H : CP h C L V (.inr s)) (D : CD h C τ) (A : nmA τ) (h4 : τ 0 0 ≤ 4) : ∃ g, FrC C h g ∧ CLr g C L V (liC V L s τ) ∧ ∀ Q : QT, wq X (d + 7) 53 0 [some (.ref 4), none] [] h Q = Q none g := by
  have hp := (CP_p H).1
  have hu := H.2.1.1
  have hU := H.2.1.2
  have hC : C = 5 ∨ C = 23 := hU
  have n0 := D.1.1
  have c0 : (nI (τ 0 0) < 0) = False := eq_false (nI_nlt (b := 0) (Nat.zero_le _) (by omega))
  have c1 : (nI (τ 0 0) < 4) = (τ 0 0 < 4) := nI_ltB (b := 4) (by omega) (by decide)
  by_cases full : 4 ≤ τ 0 0
  · obtain ⟨g, a1, a2, a3⟩ := c_refP (X := X) (d := d + 6) (k := 2) H (by decide)
    rw [show liC V L s τ = .inl (kdO V L s 2, s) from if_pos full]
    refine ⟨g, FrC_P a1, a2, fun Q => ?_⟩
    simp only [u53_0, u53_1, u53_4, u53_7, u53_8, u53_9, u53_12, u53_13, u53_14, u53_17, u53_18, u53_19, u53_22, u53_23, u53_24, u53_27, u53_30, u53_31, u53_34, u53_35, u53_36, u53_37, u53_40, u53_41, u53_44, u53_45, u53_46, u53_49, u53_52, u53_53, u53_54, u53_56, u53_58, u53_61, u53_62, u53_63, u53_66, u53_69, u53_70, u53_71, u53_73, u53_75, u53_78, u53_79, u53_80, u53_83, u53_84, u53_87, u53_88, u53_89, u53_92, eq_self, q_nl0, q_nlI, q_nlR, not_false_eq_true, q_nz0, q_nz1, q_zv0, q_zv1, q_tl1, q_tl0, q_wif, q_swc, q_swn, List.cons_append, List.nil_append, if_true, if_false, e10, e01, Bool.false_eq_true, sh_4, shT_0 hU, hu, n0, c0, c1, eq_false (show ¬ τ 0 0 < 4 by omega)]
    refine (a3 _).trans ?_
    simp only [u53_22, eq_self, q_nl0, q_nlI, q_nlR, not_false_eq_true, q_nz0, q_nz1, q_zv0, q_zv1, q_tl1, q_tl0, q_wif, q_swc, q_swn, List.cons_append, List.nil_append, if_true, if_false, e10, e01, Bool.false_eq_true]
  · have f1 : τ 0 0 < 4 := by omega
    have i4 : m_in (nI (τ 0 0)) 4 = true := q_in f1 (by decide)
    have cl : (nI (τ 0 0)).toNatClampNeg = τ 0 0 := q_cl (by omega)
    obtain ⟨g1, a1, a2, a3⟩ := c_avP (X := X) (d := d + 2) H
    have hp1 := (CP_p a2).1
    obtain ⟨g2, b1, b2, b3⟩ := c_newName (X := X) (d := d + 1) (ν := τ 11) (n := τ 0 0) a2 sh_20 (by decide) h4 (nmA_c A) (fun i hi => (a1.2.2 20 i (by decide)).trans (D.2.2.2.1.1 i hi))
    have b4 := CP_sL (c := 20) (k := τ 0 0) (v := m_gL g1 2 5) b2 (by decide)
    have hp2 := (CP_p b4).1
    have hu2 := (CP_p b4).2.1
    obtain ⟨g3, c1', c2, c3⟩ := c_numB (X := X) (d := d) (i := 3) (m := 7) (r0 := 10013) b4 rfl (by decide) (by decide)
    have c4 := CP_sI (c := C + 1) (k := τ 0 0) (v := nI (cP1 V L s τ).2) c2 (by omega)
    have hp3 := (CP_p c4).1
    have hu3 := (CP_p c4).2.1
    obtain ⟨g4, d1, d2, d3⟩ := c_numB (X := X) (d := d) (i := 4) (m := 99) (r0 := 10014) c4 rfl (by decide) (by decide)
    have d4 := CP_sI (c := C + 2) (k := τ 0 0) (v := nI (cP2 V L s τ).2) d2 (by omega)
    have hp4 := (CP_p d4).1
    have hu4 := (CP_p d4).2.1
    -- what is where, in the end
    have eI : ∀ c k, (c ≠ 2 ∨ k = 1) → (c ≠ 4 ∨ k ≠ 2 ∧ k ≠ 3) → ¬ (c = C ∧ k = 0) → ¬ (c = C + 1 ∧ k = τ 0 0) → ¬ (c = C + 2 ∧ k = τ 0 0) → m_gI (m_sI (m_sI g4 (C + 2) (τ 0 0) (nI (cP2 V L s τ).2)) C 0 (nI (τ 0 0 + 1))) c k = m_gI h c k := fun c k x y z w u => by
      rw [gI_sI, if_neg z, gI_sI, if_neg u, d1.2.1 c k x y, gI_sI, if_neg w, c1'.2.1 c k x y, gI_sL, b1.2.1 c k x y, a1.2.1 c k x y]
    have eL : ∀ c k, c ≠ 2 → ¬ (c = 20 ∧ k = τ 0 0) → m_gL (m_sI (m_sI g4 (C + 2) (τ 0 0) (nI (cP2 V L s τ).2)) C 0 (nI (τ 0 0 + 1))) c k = m_gL h c k := fun c k x y => by
      rw [gL_sI, gL_sI, d1.2.2 c k x, gL_sI, c1'.2.2 c k x, gL_sL, if_neg y, b1.2.2 c k x, a1.2.2 c k x]
    have eN : m_gL (m_sI (m_sI g4 (C + 2) (τ 0 0) (nI (cP2 V L s τ).2)) C 0 (nI (τ 0 0 + 1))) 20 (τ 0 0) = m_gL g1 2 5 := by
      rw [gL_sI, gL_sI, d1.2.2 20 _ (by decide), gL_sI, c1'.2.2 20 _ (by decide), gL_sL, if_pos ⟨rfl, rfl⟩]
    have e1 : m_gI (m_sI (m_sI g4 (C + 2) (τ 0 0) (nI (cP2 V L s τ).2)) C 0 (nI (τ 0 0 + 1))) (C + 1) (τ 0 0) = nI (cP1 V L s τ).2 := by
      rw [gI_sI, if_neg (by omega), gI_sI, if_neg (by omega), d1.2.1 _ _ (by omega) (by omega), gI_sI, if_pos ⟨rfl, rfl⟩]
    have e2 : m_gI (m_sI (m_sI g4 (C + 2) (τ 0 0) (nI (cP2 V L s τ).2)) C 0 (nI (τ 0 0 + 1))) (C + 2) (τ 0 0) = nI (cP2 V L s τ).2 := by
      rw [gI_sI, if_neg (by omega), gI_sI, if_pos ⟨rfl, rfl⟩]
    have n4 : m_gI (m_sI g4 (C + 2) (τ 0 0) (nI (cP2 V L s τ).2)) C 0 = nI (τ 0 0) := by
      rw [gI_sI, if_neg (by omega), d1.2.1 _ _ (by omega) (by omega), gI_sI, if_neg (by omega), c1'.2.1 _ _ (by omega) (by omega), gI_sL, b1.2.1 _ _ (by omega) (by omega), a1.2.1 _ _ (by omega) (by omega)]
      exact n0
    have d5 := CP_sI (c := C) (k := 0) (v := nI (τ 0 0 + 1)) d4 (by omega)
    refine ⟨_, FrC_tr (FrC_P a1) (FrC_tr (FrC_P b1) (FrC_tr (FrC_l (c := 20) (k := τ 0 0) (v := m_gL g1 2 5) (by decide)) (FrC_tr (FrC_P c1') (FrC_tr (FrC_s (c := C + 1) (k := τ 0 0) (v := nI (cP1 V L s τ).2) (by unfold exC; omega)) (FrC_tr (FrC_P d1) (FrC_tr (FrC_s (c := C + 2) (k := τ 0 0) (v := nI (cP2 V L s τ).2) (by unfold exC; omega)) (FrC_s (c := C) (k := 0) (v := nI (τ 0 0 + 1)) (by unfold exC; omega)))))))), ?_, fun Q => ?_⟩
    · rw [show liC V L s τ = fiL (cP2 V L s τ).1 (upC τ (wd V L (nx V L s)) (cP1 V L s τ).2 (cP2 V L s τ).2) from if_neg full]
      change CP _ C L V (cP2 V L s τ).1 at d5
      cases q : (cP2 V L s τ).1 with
      | inl e =>
        rw [q] at d5
        exact d5
      | inr s' =>
        rw [q] at d5
        have q1 : ∃ s1, cP0 V L s τ = .inr s1 := by
          obtain ⟨x1, y1, -⟩ := nuP_i q
          obtain ⟨x2, y2, -⟩ := exW_i y1
          obtain ⟨x3, y3, -⟩ := nuP_i y2
          obtain ⟨x4, y4, -⟩ := exW_i y3
          exact ⟨x4, y4⟩
        obtain ⟨s1, q1⟩ := q1
        have isn := nmP_w q1
        have hw : m_gL g1 2 5 = nL (wd V L (nx V L s)) := a2.1.2.2.2.2.2.1 (isN_1 isn)
        refine ⟨d5, ⟨?_, ?_, ?_, ?_, ?_, ?_, ?_⟩, ⟨?_, ?_, ?_, ?_, ?_, ?_, ?_, ?_⟩, ⟨?_, ?_, ?_⟩, ⟨?_, ?_, ?_⟩, ?_, ?_, ?_⟩
        · show _ = nI (τ 0 0 + 1)
          rw [gI_sI, if_pos ⟨rfl, rfl⟩]
        · exact (eI _ _ (by omega) (by omega) (by omega) (by omega) (by omega)).trans D.1.2.1
        · exact (eI _ _ (by omega) (by omega) (by omega) (by omega) (by omega)).trans D.1.2.2.1
        · exact (eI _ _ (by omega) (by omega) (by omega) (by omega) (by omega)).trans D.1.2.2.2.1
        · exact (eI _ _ (by omega) (by omega) (by omega) (by omega) (by omega)).trans D.1.2.2.2.2.1
        · exact (eI _ _ (by omega) (by omega) (by omega) (by omega) (by omega)).trans D.1.2.2.2.2.2.1
        · exact (eI _ _ (by omega) (by omega) (by omega) (by omega) (by omega)).trans D.1.2.2.2.2.2.2
        · exact row_up (fun i hi => (eI _ _ (by omega) (by omega) (by omega) (by omega) (by omega)).trans (D.2.1.1 i hi)) e1
        · exact row_up (fun i hi => (eI _ _ (by omega) (by omega) (by omega) (by omega) (by omega)).trans (D.2.1.2.1 i hi)) e2
        · exact fun i hi => (eI _ _ (by omega) (by omega) (by omega) (by omega) (by omega)).trans (D.2.1.2.2.1 i hi)
        · exact fun i hi => (eI _ _ (by omega) (by omega) (by omega) (by omega) (by omega)).trans (D.2.1.2.2.2.1 i hi)
        · exact fun i hi => (eI _ _ (by omega) (by omega) (by omega) (by omega) (by omega)).trans (D.2.1.2.2.2.2.1 i hi)
        · exact fun i hi => (eI _ _ (by omega) (by omega) (by omega) (by omega) (by omega)).trans (D.2.1.2.2.2.2.2.1 i hi)
        · exact fun i hi => (eI _ _ (by omega) (by omega) (by omega) (by omega) (by omega)).trans (D.2.1.2.2.2.2.2.2.1 i hi)
        · exact fun i hi => (eI _ _ (by omega) (by omega) (by omega) (by omega) (by omega)).trans (D.2.1.2.2.2.2.2.2.2 i hi)
        · exact (eI _ _ (by omega) (by omega) (by omega) (by omega) (by omega)).trans D.2.2.1.1
        · exact (eI _ _ (by omega) (by omega) (by omega) (by omega) (by omega)).trans D.2.2.1.2.1
        · exact fun i hi => (eI _ _ (by omega) (by omega) (by omega) (by omega) (by omega)).trans (D.2.2.1.2.2 i hi)
        · exact row_upL (fun i hi => (eL _ _ (by omega) (by omega)).trans (D.2.2.2.1.1 i hi)) (eN.trans hw)
        · exact fun i hi => (eL _ _ (by omega) (by omega)).trans (D.2.2.2.1.2.1 i hi)
        · exact fun i hi => (eL _ _ (by omega) (by omega)).trans (D.2.2.2.1.2.2 i hi)
        · exact (eI _ _ (by omega) (by omega) (by omega) (by omega) (by omega)).trans D.2.2.2.2.1
        · exact (eI _ _ (by omega) (by omega) (by omega) (by omega) (by omega)).trans D.2.2.2.2.2.1
        · exact (eI _ _ (by omega) (by omega) (by omega) (by omega) (by omega)).trans D.2.2.2.2.2.2
    · simp only [u53_0, u53_1, u53_4, u53_7, u53_8, u53_9, u53_12, u53_13, u53_14, u53_17, u53_18, u53_19, u53_22, u53_23, u53_24, u53_27, u53_30, u53_31, u53_34, u53_35, u53_36, u53_37, u53_40, u53_41, u53_44, u53_45, u53_46, u53_49, u53_52, u53_53, u53_54, u53_56, u53_58, u53_61, u53_62, u53_63, u53_66, u53_69, u53_70, u53_71, u53_73, u53_75, u53_78, u53_79, u53_80, u53_83, u53_84, u53_87, u53_88, u53_89, u53_92, eq_self, q_nl0, q_nlI, q_nlR, not_false_eq_true, q_nz0, q_nz1, q_zv0, q_zv1, q_tl1, q_tl0, q_wif, q_swc, q_swn, List.cons_append, List.nil_append, if_true, if_false, e10, e01, Bool.false_eq_true, sh_2, sh_4, shT_0 hU, hu, n0, c0, c1, eq_true f1, p_4_0 hp]
      refine (a3 _).trans ?_
      simp only [u53_30, u53_31, u53_34, u53_35, u53_36, u53_37, u53_40, u53_41, u53_44, u53_45, u53_46, u53_49, u53_52, u53_53, u53_54, u53_56, u53_58, eq_self, q_nl0, q_nlI, q_nlR, not_false_eq_true, q_nz0, q_nz1, q_zv0, q_zv1, q_tl1, q_tl0, q_wif, q_swc, q_swn, List.cons_append, List.nil_append, if_true, if_false, e10, e01, Bool.false_eq_true, sh_2, sh_4, shT_0 hU, p_4_4 hp1]
      refine (b3 _).trans ?_
      simp only [u53_44, u53_45, u53_46, u53_49, u53_52, u53_53, u53_54, u53_56, u53_58, eq_self, q_nl0, q_nlI, q_nlR, not_false_eq_true, q_nz0, q_nz1, q_zv0, q_zv1, q_tl1, q_tl0, q_wif, q_swc, q_swn, List.cons_append, List.nil_append, if_true, if_false, e10, e01, Bool.false_eq_true, sh_4, sh_20, shT_0 hU, i4, cl, hu2, pT_1 hU hp2, p_4_0 hp2]
      refine (c3 _).trans ?_
      change wq X (d + 7) 53 61 _ [.int (nI (cP1 V L s τ).2), _, _] _ Q = _
      simp only [u53_61, u53_62, u53_63, u53_66, u53_69, u53_70, u53_71, u53_73, u53_75, eq_self, q_nl0, q_nlI, q_nlR, not_false_eq_true, q_nz0, q_nz1, q_zv0, q_zv1, q_tl1, q_tl0, q_wif, q_swc, q_swn, List.cons_append, List.nil_append, if_true, if_false, e10, e01, Bool.false_eq_true, sh_4, shT_0 hU, shT_1 hU, i4, cl, hu3, pT_2 hU hp3]
      refine (d3 _).trans ?_
      change wq X (d + 7) 53 78 _ [.int (nI (cP2 V L s τ).2), _, _] _ Q = _
      simp only [u53_78, u53_79, u53_80, u53_83, u53_84, u53_87, u53_88, u53_89, u53_92, eq_self, q_nl0, q_nlI, q_nlR, not_false_eq_true, q_nz0, q_nz1, q_zv0, q_zv1, q_tl1, q_tl0, q_wif, q_swc, q_swn, List.cons_append, List.nil_append, if_true, if_false, e10, e01, Bool.false_eq_true, sh_4, shT_0 hU, shT_2 hU, i4, cl, hu4, n4, nI_1]
