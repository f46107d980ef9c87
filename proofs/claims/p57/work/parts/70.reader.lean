/-! THE READER'S STATE IN A FORMULA, as the class goes -/
abbrev SF : Type := Nat × Nat × Nat × (Nat → Nat × Nat)
/-- a fault's kind and place, or the state -/
abbrev RF : Type := (Nat × Nat) ⊕ SF
def CF (h : HT) (C L : Nat) (V : Nat → Nat) (S : SF) : Prop := TkC h L V S.1 ∧ (m_gR h 4 1 = C ∧ isT C) ∧ (m_gI h 4 2 = 0 ∧ m_gI h 4 3 = -1) ∧ m_gI h (C + 10) 2 = nI S.2.1 ∧ S.2.1 ≤ 30 ∧ m_gI h (C + 10) 1 = nI S.2.2.1 ∧ S.2.2.1 ≤ 1600 ∧ ∀ i, i < S.2.2.1 → m_gI h (C + 11) i = clsC (S.2.2.2 i).1 (S.2.2.2 i).2
def CB (h : HT) (C L : Nat) (V : Nat → Nat) (e : Nat × Nat) : Prop := TkC h L V e.2 ∧ (m_gR h 4 1 = C ∧ isT C) ∧ m_gI h 4 2 = nI e.1 ∧ (0 < e.1 ∧ e.1 < 10) ∧ m_gI h 4 3 = nI e.2
def CRs (h : HT) (C L : Nat) (V : Nat → Nat) : RF → Prop
  | .inl e => CB h C L V e
  | .inr S => CF h C L V S
/-- what reading a formula may change -/
def FrF (C : Nat) (h g : HT) : Prop := (∀ c k, m_gR g c k = m_gR h c k) ∧ (∀ c k, c ≠ 2 ∨ k = 1 → c ≠ 4 ∨ k ≠ 2 ∧ k ≠ 3 → c ≠ C + 10 → c ≠ C + 11 → m_gI g c k = m_gI h c k) ∧ ∀ c k, c ≠ 2 → m_gL g c k = m_gL h c k
theorem FrF_rf {C : Nat} {h : HT} : FrF C h h := ⟨fun _ _ => rfl, fun _ _ _ _ _ _ => rfl, fun _ _ _ => rfl⟩
theorem FrF_tr {C : Nat} {h g f : HT} (a : FrF C h g) (b : FrF C g f) : FrF C h f := ⟨fun c k => (b.1 c k).trans (a.1 c k), fun c k x y z w => (b.2.1 c k x y z w).trans (a.2.1 c k x y z w), fun c k x => (b.2.2 c k x).trans (a.2.2 c k x)⟩
theorem FrF_T {C : Nat} {h g : HT} (a : FrT h g) : FrF C h g := ⟨a.1, fun c k x _ _ _ => a.2.1 c k x, a.2.2⟩
theorem isT_ge {C : Nat} (h : isT C) : 5 ≤ C := by rcases h with z | z <;> omega
/-- the tape's token as it was -/
theorem TkC_eq {h g : HT} {L s : Nat} {V : Nat → Nat} (r : ∀ c k, m_gR g c k = m_gR h c k) (e : ∀ c k, c = 2 ∨ c = 3 → m_gI g c k = m_gI h c k) (l : m_gL g 2 5 = m_gL h 2 5) (H : TkC h L V s) : TkC g L V s := by
  obtain ⟨⟨h1, ⟨h2, h2'⟩, h3, h4⟩, h5, h6, h7, h8, h9, h10⟩ := H
  refine ⟨⟨Ptr_of h1 r, ⟨(e 2 1 (Or.inl rfl)).trans h2, fun i hi => (e 3 i (Or.inr rfl)).trans (h2' i hi)⟩, h3, h4⟩, h5, (e 2 2 (Or.inl rfl)).trans h6, (e 2 3 (Or.inl rfl)).trans h7, (e 2 4 (Or.inl rfl)).trans h8, fun z => l.trans (h9 z), fun z => (e 2 6 (Or.inl rfl)).trans (h10 z)⟩
def kdO (V : Nat → Nat) (L s k : Nat) : Nat := if tK V L s = 4 then 1 else k
def rfS (V : Nat → Nat) (L k : Nat) (S : SF) : RF := .inl (kdO V L S.1 k, S.1)
def rfR (V : Nat → Nat) (L k : Nat) : RF → RF
  | .inl e => .inl e
  | .inr S => rfS V L k S
def nx (V : Nat → Nat) (L s : Nat) : Nat := tS V L (tE V L s)
def avS (V : Nat → Nat) (L : Nat) (S : SF) : SF := (nx V L S.1, S.2)
def exG (V : Nat → Nat) (L c : Nat) : RF → RF
  | .inl e => .inl e
  | .inr S => if isG V L S.1 c = true then .inr (avS V L S) else rfS V L 2 S
def adS (k v : Nat) (S : SF) : SF := if S.2.2.1 < 1600 then (S.1, S.2.1, S.2.2.1 + 1, fun i => if i = S.2.2.1 then (k, v) else S.2.2.2 i) else S
def adR (k v : Nat) : RF → RF
  | .inl e => .inl e
  | .inr S => .inr (adS k v S)
theorem CRs_p {h : HT} {C L : Nat} {V : Nat → Nat} {r : RF} (H : CRs h C L V r) : Ptr h ∧ (m_gR h 4 1 = C ∧ isT C) := by
  cases r with
  | inl e => exact ⟨H.1.1.1, H.2.1⟩
  | inr S => exact ⟨H.1.1.1, H.2.1⟩
/-- the token either stands at -/
theorem CRs_k {h : HT} {C L : Nat} {V : Nat → Nat} {r : RF} (H : CRs h C L V r) : ∃ s, TkC h L V s := by
  cases r with
  | inl e => exact ⟨_, H.1⟩
  | inr S => exact ⟨_, H.1⟩
theorem c_refuse {X : XT} {d C L k : Nat} {h : HT} {V : Nat → Nat} {r : RF} (H : CRs h C L V r) (hk : 0 < k ∧ k < 10) : ∃ g, FrF C h g ∧ CRs g C L V (rfR V L k r) ∧ ∀ Q : QT, wq X d 54 0 [some (.ref 4), some (.int (nI k))] [] h Q = Q none g := by
  cases r with
  | inl e =>
    have n0 : (nI e.1 = 0) = False := eq_false (fun q => by have := (nI_eq (a := e.1) (b := 0) (by have := H.2.2.2.1.2; omega) (by decide)).mp q; have := H.2.2.2.1.1; omega)
    refine ⟨h, FrF_rf, H, fun Q => ?_⟩
    simp only [u54_0, u54_1, u54_4, u54_7, u54_8, u54_9, u54_12, u54_15, u54_16, u54_19, u54_20, u54_23, u54_24, u54_27, u54_28, u54_29, u54_32, u54_35, u54_38, eq_self, q_nl0, q_nlI, q_nlR, not_false_eq_true, q_nz0, q_nz1, q_zv0, q_zv1, q_tl1, q_tl0, q_wif, q_swc, q_swn, List.cons_append, List.nil_append, if_true, if_false, e10, e01, Bool.false_eq_true, sh_4, H.2.2.1, n0]
  | inr S =>
    have hp := H.1.1.1
    have e1 : (nI (tK V L S.1) = 4) = (tK V L S.1 = 4) := nI_eqB (b := 4) (by have := tK_4 (V := V) (L := L) (s := S.1); omega) (by decide)
    have hL := H.1.1.2.2.1
    have hs := H.1.2.1
    have hU := isT_ge H.2.1.2
    have key : wq X d 54 0 [some (.ref 4), some (.int (nI k))] [] h = fun Q => Q none (m_sI (m_sI h 4 2 (nI (kdO V L S.1 k))) 4 3 (nI S.1)) := by
      funext Q
      unfold kdO
      by_cases z : tK V L S.1 = 4
      · rw [if_pos z]
        simp only [u54_0, u54_1, u54_4, u54_7, u54_8, u54_9, u54_12, u54_15, u54_16, u54_19, u54_20, u54_23, u54_24, u54_27, u54_28, u54_29, u54_32, u54_35, u54_38, eq_self, q_nl0, q_nlI, q_nlR, not_false_eq_true, q_nz0, q_nz1, q_zv0, q_zv1, q_tl1, q_tl0, q_wif, q_swc, q_swn, List.cons_append, List.nil_append, if_true, if_false, e10, e01, Bool.false_eq_true, sh_2, sh_4, H.2.2.1, p_4_0 hp, H.1.2.2.1, e1, eq_true z, gR_sI, gI_sI, H.1.2.2.2.1]
        rfl
      · rw [if_neg z]
        simp only [u54_0, u54_1, u54_4, u54_7, u54_8, u54_9, u54_12, u54_15, u54_16, u54_19, u54_20, u54_23, u54_24, u54_27, u54_28, u54_29, u54_32, u54_35, u54_38, eq_self, q_nl0, q_nlI, q_nlR, not_false_eq_true, q_nz0, q_nz1, q_zv0, q_zv1, q_tl1, q_tl0, q_wif, q_swc, q_swn, List.cons_append, List.nil_append, if_true, if_false, e10, e01, Bool.false_eq_true, sh_2, sh_4, H.2.2.1, p_4_0 hp, H.1.2.2.1, e1, eq_false z, gR_sI, gI_sI, H.1.2.2.2.1]
        rfl
    have fr : ∀ c k', c ≠ 4 ∨ k' ≠ 2 ∧ k' ≠ 3 → m_gI (m_sI (m_sI h 4 2 (nI (kdO V L S.1 k))) 4 3 (nI S.1)) c k' = m_gI h c k' := fun c k' z => by
      rw [gI_sI, gI_sI, if_neg (by omega), if_neg (by omega)]
    refine ⟨m_sI (m_sI h 4 2 (nI (kdO V L S.1 k))) 4 3 (nI S.1), ⟨fun _ _ => rfl, fun c k' _ y _ _ => fr c k' y, fun _ _ _ => rfl⟩, ⟨TkC_eq (h := h) (fun _ _ => rfl) (fun c k z => fr c k (by omega)) rfl H.1, H.2.1, ?_, ?_, ?_⟩, fun Q => congrFun key Q⟩
    · rw [gI_sI, gI_sI, if_neg (by decide), if_pos ⟨rfl, rfl⟩]
    · show 0 < kdO V L S.1 k ∧ kdO V L S.1 k < 10
      unfold kdO
      split <;> omega
    · rw [gI_sI, if_pos ⟨rfl, rfl⟩]
theorem c_avS {X : XT} {d C L : Nat} {h : HT} {V : Nat → Nat} {S : SF} (H : CF h C L V S) : ∃ g, FrF C h g ∧ CF g C L V (avS V L S) ∧ ∀ Q : QT, wq X (d + 4) 19 0 [some (.ref 2), none] [] h Q = Q none g := by
  obtain ⟨g, a1, a2, a3⟩ := c_advance (X := X) (d := d) H.1.1 (tE_L H.1.2.1) H.1.2.2.2.2.1
  have hU := isT_ge H.2.1.2
  refine ⟨g, FrF_T a1, ⟨a2, ⟨(a1.1 4 1).trans H.2.1.1, H.2.1.2⟩, ⟨(a1.2.1 4 2 (by omega)).trans H.2.2.1.1, (a1.2.1 4 3 (by omega)).trans H.2.2.1.2⟩, (a1.2.1 _ 2 (by omega)).trans H.2.2.2.1, H.2.2.2.2.1, (a1.2.1 _ 1 (by omega)).trans H.2.2.2.2.2.1, H.2.2.2.2.2.2.1, fun i hi => (a1.2.1 _ i (by omega)).trans (H.2.2.2.2.2.2.2 i hi)⟩, a3⟩
theorem c_expS {X : XT} {d C L c : Nat} {h : HT} {V : Nat → Nat} {r : RF} (H : CRs h C L V r) (hc : c < 256) : ∃ g, FrF C h g ∧ CRs g C L V (exG V L c r) ∧ ∀ Q : QT, wq X (d + 5) 67 0 [some (.ref 4), some (.int (nI c))] [] h Q = Q none g := by
  obtain ⟨hp, hu, hU⟩ := CRs_p H
  cases r with
  | inl e =>
    have n0 : (nI e.1 = 0) = False := eq_false (fun q => by have := (nI_eq (a := e.1) (b := 0) (by have := H.2.2.2.1.2; omega) (by decide)).mp q; have := H.2.2.2.1.1; omega)
    obtain ⟨g, a1, a2, a3⟩ := c_refuse (X := X) (d := d + 4) (k := 2) H (by decide)
    have si := fun (Q : QT) => c_signIs (X := X) (d := d + 3) (c := c) (Q := Q) H.1 hc
    by_cases z : isG V L e.2 c = true
    · refine ⟨h, FrF_rf, H, fun Q => ?_⟩
      simp only [u67_0, u67_1, u67_4, u67_5, u67_8, u67_11, u67_12, u67_13, u67_16, u67_19, u67_20, u67_23, u67_26, u67_27, u67_30, u67_33, eq_self, q_nl0, q_nlI, q_nlR, not_false_eq_true, q_nz0, q_nz1, q_zv0, q_zv1, q_tl1, q_tl0, q_wif, q_swc, q_swn, List.cons_append, List.nil_append, if_true, if_false, e10, e01, Bool.false_eq_true, sh_2, sh_4, p_4_0 hp, si, z, H.2.2.1, n0, Option.toList]
    · refine ⟨g, a1, a2, fun Q => ?_⟩
      simp only [u67_0, u67_1, u67_4, u67_5, u67_8, u67_11, u67_12, u67_13, u67_16, u67_19, u67_20, u67_23, u67_26, u67_27, u67_30, u67_33, eq_self, q_nl0, q_nlI, q_nlR, not_false_eq_true, q_nz0, q_nz1, q_zv0, q_zv1, q_tl1, q_tl0, q_wif, q_swc, q_swn, List.cons_append, List.nil_append, if_true, if_false, e10, e01, Bool.false_eq_true, sh_2, sh_4, p_4_0 hp, si, z, Option.toList]
      refine (a3 _).trans ?_
      simp only [u67_16, u67_33, eq_self, q_nl0, q_nlI, q_nlR, not_false_eq_true, q_nz0, q_nz1, q_zv0, q_zv1, q_tl1, q_tl0, q_wif, q_swc, q_swn, List.cons_append, List.nil_append, if_true, if_false, e10, e01, Bool.false_eq_true]
  | inr S =>
    have si := fun (Q : QT) => c_signIs (X := X) (d := d + 3) (c := c) (Q := Q) H.1 hc
    by_cases z : isG V L S.1 c = true
    · obtain ⟨g, a1, a2, a3⟩ := c_avS (X := X) (d := d) H
      rw [show exG V L c (.inr S) = .inr (avS V L S) from if_pos z]
      refine ⟨g, a1, a2, fun Q => ?_⟩
      simp only [u67_0, u67_1, u67_4, u67_5, u67_8, u67_11, u67_12, u67_13, u67_16, u67_19, u67_20, u67_23, u67_26, u67_27, u67_30, u67_33, eq_self, q_nl0, q_nlI, q_nlR, not_false_eq_true, q_nz0, q_nz1, q_zv0, q_zv1, q_tl1, q_tl0, q_wif, q_swc, q_swn, List.cons_append, List.nil_append, if_true, if_false, e10, e01, Bool.false_eq_true, sh_2, sh_4, p_4_0 hp, si, z, H.2.2.1, Option.toList, a3]
    · obtain ⟨g, a1, a2, a3⟩ := c_refuse (X := X) (d := d + 4) (k := 2) H (by decide)
      rw [show exG V L c (.inr S) = rfS V L 2 S from if_neg z]
      refine ⟨g, a1, a2, fun Q => ?_⟩
      simp only [u67_0, u67_1, u67_4, u67_5, u67_8, u67_11, u67_12, u67_13, u67_16, u67_19, u67_20, u67_23, u67_26, u67_27, u67_30, u67_33, eq_self, q_nl0, q_nlI, q_nlR, not_false_eq_true, q_nz0, q_nz1, q_zv0, q_zv1, q_tl1, q_tl0, q_wif, q_swc, q_swn, List.cons_append, List.nil_append, if_true, if_false, e10, e01, Bool.false_eq_true, sh_2, sh_4, p_4_0 hp, si, z, Option.toList]
      refine (a3 _).trans ?_
      simp only [u67_16, u67_33, eq_self, q_nl0, q_nlI, q_nlR, not_false_eq_true, q_nz0, q_nz1, q_zv0, q_zv1, q_tl1, q_tl0, q_wif, q_swc, q_swn, List.cons_append, List.nil_append, if_true, if_false, e10, e01, Bool.false_eq_true]
theorem c_adR {X : XT} {d C L k v : Nat} {h : HT} {V : Nat → Nat} {r : RF} (H : CRs h C L V r) : ∃ g, FrF C h g ∧ CRs g C L V (adR k v r) ∧ ∀ Q : QT, wq X d 68 0 [some (.ref (C + 10)), some (.int (clsC k v))] [] h Q = Q none g := by
  obtain ⟨hp, hu, hU⟩ := CRs_p H
  have h5 := isT_ge hU
  have e20 : (Nat.ble 20 (m_sh (KS X) (C + 11)).1 && Nat.blt (m_sh (KS X) (C + 11)).1 99) = true := by rw [shT_11 hU]; rfl
  have ne : C + 10 ≠ C + 11 := by omega
  -- what is stored where
  have st : ∀ n, n < 1600 → m_gI h (C + 10) 1 = nI n → ∀ Q : QT, wq X d 68 0 [some (.ref (C + 10)), some (.int (clsC k v))] [] h Q = Q none (m_sI (m_sI h (C + 11) n (clsC k v)) (C + 10) 1 (nI (n + 1))) := fun n hn e Q => by
    have c0 : (nI n < 0) = False := eq_false (nI_nlt (b := 0) (Nat.zero_le _) (by omega))
    have c1 : (nI n < Int32.ofNat 1600) = True := eq_true (nI_lt (b := 1600) hn (by decide))
    have c2 : m_in (nI n) 1600 = true := q_in hn (by decide)
    have c3 : (nI n).toNatClampNeg = n := q_cl (by omega)
    have c4 : ∀ w, m_gI (m_sI h (C + 11) n w) (C + 10) 1 = nI n := fun w => by
      rw [gI_sI, if_neg (fun q => ne q.1), e]
    simp only [u68_0, u68_1, u68_4, u68_7, u68_8, u68_11, u68_12, u68_15 (r0 := C + 11) e20, u68_16, u68_19, u68_20, u68_23, u68_24, u68_27, u68_28, u68_29, u68_30, u68_31, u68_34, u68_35, u68_36, u68_39, eq_self, q_nl0, q_nlI, q_nlR, not_false_eq_true, q_nz0, q_nz1, q_zv0, q_zv1, q_tl1, q_tl0, q_wif, q_swc, q_swn, List.cons_append, List.nil_append, if_true, if_false, e10, e01, Bool.false_eq_true, shT_10 hU, shT_11 hU, pF_0 hU hp, e, c0, c1, c2, c3, c4, gR_sI, nI_1]
  have fr : ∀ n w z c j, c ≠ C + 10 → c ≠ C + 11 → m_gI (m_sI (m_sI h (C + 11) n w) (C + 10) 1 z) c j = m_gI h c j := fun n w z c j x y => by
    rw [gI_sI, gI_sI, if_neg (fun q => x q.1), if_neg (fun q => y q.1)]
  cases r with
  | inl e =>
    by_cases x0 : m_gI h (C + 10) 1 < 0
    · refine ⟨h, FrF_rf, H, fun Q => ?_⟩
      simp only [u68_0, u68_1, u68_4, u68_7, u68_8, u68_11, u68_12, u68_15, u68_16, u68_19, u68_20, u68_23, u68_24, u68_27, u68_28, u68_29, u68_30, u68_31, u68_34, u68_35, u68_36, u68_39, eq_self, q_nl0, q_nlI, q_nlR, not_false_eq_true, q_nz0, q_nz1, q_zv0, q_zv1, q_tl1, q_tl0, q_wif, q_swc, q_swn, List.cons_append, List.nil_append, if_true, if_false, e10, e01, Bool.false_eq_true, shT_10 hU, eq_true x0]
    · by_cases x1 : m_gI h (C + 10) 1 < Int32.ofNat 1600
      · have x2 : ∃ n, n < 1600 ∧ m_gI h (C + 10) 1 = nI n := by
          rcases ix_cases (m_gI h (C + 10) 1) (k := 1600) (by decide) with ⟨m, hm, e, _⟩ | q
          · exact ⟨m, hm, e⟩
          · exfalso
            have q1 := of_decide_eq_false q
            have q2 : ¬ (m_gI h (C + 10) 1).toInt < 0 := fun z => x0 ((Int32.lt_iff_toInt_lt (y := 0)).mpr z)
            have q3 := (Int32.lt_iff_toInt_lt (y := Int32.ofNat 1600)).mp x1
            have q4 : (Int32.ofNat 1600).toInt = 1600 := rfl
            rw [q4] at q3
            omega
        obtain ⟨n, hn, en⟩ := x2
        refine ⟨m_sI (m_sI h (C + 11) n (clsC k v)) (C + 10) 1 (nI (n + 1)), ⟨fun _ _ => rfl, fun c j _ _ z w => fr _ _ _ c j z w, fun _ _ _ => rfl⟩, ?_, st n hn en⟩
        exact ⟨TkC_eq (h := h) (fun _ _ => rfl) (fun c j z => fr _ _ _ c j (by omega) (by omega)) rfl H.1, H.2.1, (fr _ _ _ 4 2 (by omega) (by omega)).trans H.2.2.1, H.2.2.2.1, (fr _ _ _ 4 3 (by omega) (by omega)).trans H.2.2.2.2⟩
      · refine ⟨h, FrF_rf, H, fun Q => ?_⟩
        simp only [u68_0, u68_1, u68_4, u68_7, u68_8, u68_11, u68_12, u68_15 (r0 := C + 11) e20, u68_16, u68_19, u68_20, u68_23, u68_24, u68_27, u68_28, u68_29, u68_30, u68_31, u68_34, u68_35, u68_36, u68_39, eq_self, q_nl0, q_nlI, q_nlR, not_false_eq_true, q_nz0, q_nz1, q_zv0, q_zv1, q_tl1, q_tl0, q_wif, q_swc, q_swn, List.cons_append, List.nil_append, if_true, if_false, e10, e01, Bool.false_eq_true, shT_10 hU, shT_11 hU, pF_0 hU hp, eq_false x0, eq_false x1]
  | inr S =>
    obtain ⟨s, u, n, κ⟩ := S
    obtain ⟨H1, H2, H3, H4, H4', H5, H6, H7⟩ := H
    by_cases hn : n < 1600
    · refine ⟨m_sI (m_sI h (C + 11) n (clsC k v)) (C + 10) 1 (nI (n + 1)), ⟨fun _ _ => rfl, fun c j _ _ z w => fr _ _ _ c j z w, fun _ _ _ => rfl⟩, ?_, st n hn H5⟩
      rw [show adR k v (.inr (s, u, n, κ)) = .inr (s, u, n + 1, fun i => if i = n then (k, v) else κ i) from congrArg Sum.inr (if_pos hn)]
      refine ⟨TkC_eq (h := h) (fun _ _ => rfl) (fun c j z => fr _ _ _ c j (by omega) (by omega)) rfl H1, H2, ⟨(fr _ _ _ 4 2 (by omega) (by omega)).trans H3.1, (fr _ _ _ 4 3 (by omega) (by omega)).trans H3.2⟩, ?_, H4', ?_, Nat.succ_le_of_lt hn, fun i hi => ?_⟩
      · rw [gI_sI, if_neg (by omega), gI_sI, if_neg (by omega)]
        exact H4
      · rw [gI_sI, if_pos ⟨rfl, rfl⟩]
      · rw [gI_sI, if_neg (fun q => ne q.1.symm), gI_sI]
        show (if C + 11 = C + 11 ∧ i = n then clsC k v else m_gI h (C + 11) i) = clsC (if i = n then (k, v) else κ i).1 (if i = n then (k, v) else κ i).2
        by_cases y : i = n
        · rw [if_pos ⟨rfl, y⟩, if_pos y]
        · rw [if_neg (fun q => y q.2), if_neg y]
          exact H7 i (by have : i < n + 1 := hi; show i < n; omega)
    · have hn' : n = 1600 := by
        have : n ≤ 1600 := H6
        omega
      subst hn'
      rw [show adR k v (.inr (s, u, 1600, κ)) = .inr (s, u, 1600, κ) from congrArg Sum.inr (if_neg (Nat.lt_irrefl 1600))]
      refine ⟨h, FrF_rf, ⟨H1, H2, H3, H4, H4', H5, H6, H7⟩, fun Q => ?_⟩
      have H5' : m_gI h (C + 10) 1 = nI 1600 := H5
      simp only [u68_0, u68_1, u68_4, u68_7, u68_8, u68_11, u68_12, u68_15 (r0 := C + 11) e20, u68_16, u68_19, u68_20, u68_23, u68_24, u68_27, u68_28, u68_29, u68_30, u68_31, u68_34, u68_35, u68_36, u68_39, eq_self, q_nl0, q_nlI, q_nlR, not_false_eq_true, q_nz0, q_nz1, q_zv0, q_zv1, q_tl1, q_tl0, q_wif, q_swc, q_swn, List.cons_append, List.nil_append, if_true, if_false, e10, e01, Bool.false_eq_true, shT_10 hU, shT_11 hU, pF_0 hU hp, H5', eq_false (show ¬ nI 1600 < 0 by decide), eq_false (show ¬ nI 1600 < Int32.ofNat 1600 by decide)]
/-- the sign or word that joins, of this level; 0: none -/
def opC (V : Nat → Nat) (L s l : Nat) : Nat := if l = 0 then (if isW V L s 19 = true then 124 else 0) else if l = 1 then (if isW V L s 20 = true then 38 else 0) else if l = 2 then opS V L s 21 else if l = 3 then opS V L s 22 else if l = 4 then opS V L s 23 else 0
def kuC (V : Nat → Nat) (L s : Nat) : Nat := if isW V L s 7 = true then 108 else if isW V L s 8 = true then 100 else if isW V L s 9 = true then 111 else if isW V L s 15 = true then 103 else if isW V L s 16 = true then 121 else if isW V L s 17 = true then 115 else 0
theorem sg_1 : ∀ v, v < 256 → ∀ i, i < 3 → nI v ∈ m_tx (21 + i) → v ∈ fBins := by decide +kernel
theorem sg_2 : ∀ v, v < 256 → ∀ i, i < 3 → nI v ∈ m_tx (21 + i) → clsC v 0 = -(nI v) := by decide +kernel
theorem sg_3 : ∀ v, v < 256 → ∀ i, i < 3 → nI v ∈ m_tx (21 + i) → ¬ clsC v 0 = 0 := by decide +kernel
theorem sg_of (v : Nat) (hv : v < 256) (i : Nat) (h1 : 21 ≤ i) (h2 : i < 24) (e : nI v ∈ m_tx i) : v ∈ fBins ∧ clsC v 0 = -(nI v) ∧ clsC v 0 ≠ 0 := by
  have q : i = 21 + (i - 21) := by omega
  rw [q] at e
  exact ⟨sg_1 v hv _ (by omega) e, sg_2 v hv _ (by omega) e, sg_3 v hv _ (by omega) e⟩
theorem opS_ok {V : Nat → Nat} {L s i : Nat} (hv : ∀ i, i < L → V i < 256) (h1 : 21 ≤ i) (h2 : i < 24) : (opS V L s i = 0 ∨ opS V L s i ∈ fBins ∧ clsC (opS V L s i) 0 ≠ 0) ∧ clsC (opS V L s i) 0 = -(nI (opS V L s i)) := by
  unfold opS
  by_cases z : tK V L s = 3 ∧ nI (V s) ∈ m_tx i
  · rw [if_pos z]
    have hs : s < L := tK_0 (V := V) (L := L) (s := s) (by omega)
    have := sg_of (V s) (hv s hs) i h1 h2 z.2
    exact ⟨Or.inr ⟨this.1, this.2.2⟩, this.2.1⟩
  · rw [if_neg z]
    exact ⟨Or.inl rfl, by decide⟩
theorem opC_ok {V : Nat → Nat} {L s l : Nat} (hv : ∀ i, i < L → V i < 256) : opC V L s l = 0 ∨ opC V L s l ∈ fBins ∧ clsC (opC V L s l) 0 ≠ 0 := by
  unfold opC
  by_cases z0 : l = 0
  · rw [if_pos z0]
    split
    · exact Or.inr (by decide)
    · exact Or.inl rfl
  · rw [if_neg z0]
    by_cases z1 : l = 1
    · rw [if_pos z1]
      split
      · exact Or.inr (by decide)
      · exact Or.inl rfl
    · rw [if_neg z1]
      by_cases z2 : l = 2
      · rw [if_pos z2]
        exact (opS_ok hv (by decide) (by decide)).1
      · rw [if_neg z2]
        by_cases z3 : l = 3
        · rw [if_pos z3]
          exact (opS_ok hv (by decide) (by decide)).1
        · rw [if_neg z3]
          by_cases z4 : l = 4
          · rw [if_pos z4]
            exact (opS_ok hv (by decide) (by decide)).1
          · rw [if_neg z4]
            exact Or.inl rfl
theorem c_opHere {X : XT} {d C L l : Nat} {h : HT} {V : Nat → Nat} {S : SF} (H : CF h C L V S) (hl : l < 5) (Q : QT) : wq X (d + 5) 70 0 [some (.ref 4), some (.int (nI l))] [] h Q = Q (some (.int (clsC (opC V L S.1 l) 0))) h := by
  have hp := H.1.1.1
  have hv := H.1.1.2.2.2
  have wa := fun (r i : Nat) (hr : r = 10000 + (10 + i)) (hi : i < 46) (Q : QT) => c_wordAt (X := X) (d := d) (Q := Q) H.1 hr hi
  have sa := fun (r i : Nat) (hr : r = 10000 + (10 + i)) (hi : i < 46) (Q : QT) => c_signOf (X := X) (d := d) (Q := Q) H.1 hr hi
  have hl' : l = 0 ∨ l = 1 ∨ l = 2 ∨ l = 3 ∨ l = 4 := by omega
  rcases hl' with rfl | rfl | rfl | rfl | rfl
  · refine Eq.trans (u70_0.trans (u70_1.trans (q_to (t := 36) (by decide)))) ?_
    simp only [u70_36, u70_37, u70_40, u70_42, u70_45, u70_48, u70_50, u70_53, u70_54, eq_self, q_nl0, q_nlI, q_nlR, not_false_eq_true, q_nz0, q_nz1, q_zv0, q_zv1, q_tl1, q_tl0, q_wif, q_swc, q_swn, List.cons_append, List.nil_append, if_true, if_false, e10, e01, Bool.false_eq_true, sh_2, sh_4, p_4_0 hp, wa 10029 19 rfl (by decide), Option.toList]
    show _ = Q (some (.int (clsC (if isW V L S.1 19 = true then 124 else 0) 0))) h
    by_cases z : isW V L S.1 19 = true
    · simp only [z, eq_self, q_nl0, q_nlI, q_nlR, not_false_eq_true, q_nz0, q_nz1, q_zv0, q_zv1, q_tl1, q_tl0, q_wif, q_swc, q_swn, List.cons_append, List.nil_append, if_true, if_false, e10, e01, Bool.false_eq_true]
      rfl
    · simp only [z, eq_self, q_nl0, q_nlI, q_nlR, not_false_eq_true, q_nz0, q_nz1, q_zv0, q_zv1, q_tl1, q_tl0, q_wif, q_swc, q_swn, List.cons_append, List.nil_append, if_true, if_false, e10, e01, Bool.false_eq_true]
      rfl
  · refine Eq.trans (u70_0.trans (u70_1.trans (q_to (t := 55) (by decide)))) ?_
    simp only [u70_55, u70_56, u70_59, u70_61, u70_64, u70_67, u70_69, u70_72, u70_73, eq_self, q_nl0, q_nlI, q_nlR, not_false_eq_true, q_nz0, q_nz1, q_zv0, q_zv1, q_tl1, q_tl0, q_wif, q_swc, q_swn, List.cons_append, List.nil_append, if_true, if_false, e10, e01, Bool.false_eq_true, sh_2, sh_4, p_4_0 hp, wa 10030 20 rfl (by decide), Option.toList]
    show _ = Q (some (.int (clsC (if isW V L S.1 20 = true then 38 else 0) 0))) h
    by_cases z : isW V L S.1 20 = true
    · simp only [z, eq_self, q_nl0, q_nlI, q_nlR, not_false_eq_true, q_nz0, q_nz1, q_zv0, q_zv1, q_tl1, q_tl0, q_wif, q_swc, q_swn, List.cons_append, List.nil_append, if_true, if_false, e10, e01, Bool.false_eq_true]
      rfl
    · simp only [z, eq_self, q_nl0, q_nlI, q_nlR, not_false_eq_true, q_nz0, q_nz1, q_zv0, q_zv1, q_tl1, q_tl0, q_wif, q_swc, q_swn, List.cons_append, List.nil_append, if_true, if_false, e10, e01, Bool.false_eq_true]
      rfl
  · refine Eq.trans (u70_0.trans (u70_1.trans (q_to (t := 74) (by decide)))) ?_
    simp only [u70_74, u70_75, u70_78, u70_80, u70_83, u70_84, eq_self, q_nl0, q_nlI, q_nlR, not_false_eq_true, q_nz0, q_nz1, q_zv0, q_zv1, q_tl1, q_tl0, q_wif, q_swc, q_swn, List.cons_append, List.nil_append, if_true, if_false, e10, e01, Bool.false_eq_true, sh_2, sh_4, p_4_0 hp, sa 10031 21 rfl (by decide), Option.toList]
    rw [← (opS_ok (s := S.1) (i := 21) hv (by decide) (by decide)).2]
    rfl
  · refine Eq.trans (u70_0.trans (u70_1.trans (q_to (t := 85) (by decide)))) ?_
    simp only [u70_85, u70_86, u70_89, u70_91, u70_94, u70_95, eq_self, q_nl0, q_nlI, q_nlR, not_false_eq_true, q_nz0, q_nz1, q_zv0, q_zv1, q_tl1, q_tl0, q_wif, q_swc, q_swn, List.cons_append, List.nil_append, if_true, if_false, e10, e01, Bool.false_eq_true, sh_2, sh_4, p_4_0 hp, sa 10032 22 rfl (by decide), Option.toList]
    rw [← (opS_ok (s := S.1) (i := 22) hv (by decide) (by decide)).2]
    rfl
  · refine Eq.trans (u70_0.trans (u70_1.trans (q_to (t := 96) (by decide)))) ?_
    simp only [u70_96, u70_97, u70_100, u70_102, u70_105, u70_106, eq_self, q_nl0, q_nlI, q_nlR, not_false_eq_true, q_nz0, q_nz1, q_zv0, q_zv1, q_tl1, q_tl0, q_wif, q_swc, q_swn, List.cons_append, List.nil_append, if_true, if_false, e10, e01, Bool.false_eq_true, sh_2, sh_4, p_4_0 hp, sa 10033 23 rfl (by decide), Option.toList]
    rw [← (opS_ok (s := S.1) (i := 23) hv (by decide) (by decide)).2]
    rfl
theorem c_known {X : XT} {d C L : Nat} {h : HT} {V : Nat → Nat} {S : SF} (H : CF h C L V S) (Q : QT) : wq X (d + 5) 66 0 [some (.ref 4)] [] h Q = Q (some (.int (clsC (kuC V L S.1) 0))) h := by
  have hp := H.1.1.1
  have wa := fun (r i : Nat) (hr : r = 10000 + (10 + i)) (hi : i < 46) (Q : QT) => c_wordAt (X := X) (d := d) (Q := Q) H.1 hr hi
  unfold kuC
  by_cases z7 : isW V L S.1 7 = true
  · simp only [u66_0, u66_1, u66_4, u66_6, u66_9, u66_12, u66_13, u66_14, u66_15, u66_18, u66_20, u66_23, u66_26, u66_28, u66_29, u66_30, u66_33, u66_35, u66_38, u66_41, u66_43, u66_44, u66_45, u66_48, u66_50, u66_53, u66_56, u66_58, u66_59, u66_60, u66_63, u66_65, u66_68, u66_71, u66_73, u66_74, u66_75, u66_78, u66_80, u66_83, u66_86, u66_88, u66_89, u66_90, eq_self, q_nl0, q_nlI, q_nlR, not_false_eq_true, q_nz0, q_nz1, q_zv0, q_zv1, q_tl1, q_tl0, q_wif, q_swc, q_swn, List.cons_append, List.nil_append, if_true, if_false, e10, e01, Bool.false_eq_true, sh_2, sh_4, p_4_0 hp, wa 10017 7 rfl (by decide), wa 10018 8 rfl (by decide), wa 10019 9 rfl (by decide), wa 10025 15 rfl (by decide), wa 10026 16 rfl (by decide), wa 10027 17 rfl (by decide), Option.toList, z7]
    rfl
  · skip
    by_cases z8 : isW V L S.1 8 = true
    · simp only [u66_0, u66_1, u66_4, u66_6, u66_9, u66_12, u66_13, u66_14, u66_15, u66_18, u66_20, u66_23, u66_26, u66_28, u66_29, u66_30, u66_33, u66_35, u66_38, u66_41, u66_43, u66_44, u66_45, u66_48, u66_50, u66_53, u66_56, u66_58, u66_59, u66_60, u66_63, u66_65, u66_68, u66_71, u66_73, u66_74, u66_75, u66_78, u66_80, u66_83, u66_86, u66_88, u66_89, u66_90, eq_self, q_nl0, q_nlI, q_nlR, not_false_eq_true, q_nz0, q_nz1, q_zv0, q_zv1, q_tl1, q_tl0, q_wif, q_swc, q_swn, List.cons_append, List.nil_append, if_true, if_false, e10, e01, Bool.false_eq_true, sh_2, sh_4, p_4_0 hp, wa 10017 7 rfl (by decide), wa 10018 8 rfl (by decide), wa 10019 9 rfl (by decide), wa 10025 15 rfl (by decide), wa 10026 16 rfl (by decide), wa 10027 17 rfl (by decide), Option.toList, z7, z8]
      rfl
    · skip
      by_cases z9 : isW V L S.1 9 = true
      · simp only [u66_0, u66_1, u66_4, u66_6, u66_9, u66_12, u66_13, u66_14, u66_15, u66_18, u66_20, u66_23, u66_26, u66_28, u66_29, u66_30, u66_33, u66_35, u66_38, u66_41, u66_43, u66_44, u66_45, u66_48, u66_50, u66_53, u66_56, u66_58, u66_59, u66_60, u66_63, u66_65, u66_68, u66_71, u66_73, u66_74, u66_75, u66_78, u66_80, u66_83, u66_86, u66_88, u66_89, u66_90, eq_self, q_nl0, q_nlI, q_nlR, not_false_eq_true, q_nz0, q_nz1, q_zv0, q_zv1, q_tl1, q_tl0, q_wif, q_swc, q_swn, List.cons_append, List.nil_append, if_true, if_false, e10, e01, Bool.false_eq_true, sh_2, sh_4, p_4_0 hp, wa 10017 7 rfl (by decide), wa 10018 8 rfl (by decide), wa 10019 9 rfl (by decide), wa 10025 15 rfl (by decide), wa 10026 16 rfl (by decide), wa 10027 17 rfl (by decide), Option.toList, z7, z8, z9]
        rfl
      · skip
        by_cases z15 : isW V L S.1 15 = true
        · simp only [u66_0, u66_1, u66_4, u66_6, u66_9, u66_12, u66_13, u66_14, u66_15, u66_18, u66_20, u66_23, u66_26, u66_28, u66_29, u66_30, u66_33, u66_35, u66_38, u66_41, u66_43, u66_44, u66_45, u66_48, u66_50, u66_53, u66_56, u66_58, u66_59, u66_60, u66_63, u66_65, u66_68, u66_71, u66_73, u66_74, u66_75, u66_78, u66_80, u66_83, u66_86, u66_88, u66_89, u66_90, eq_self, q_nl0, q_nlI, q_nlR, not_false_eq_true, q_nz0, q_nz1, q_zv0, q_zv1, q_tl1, q_tl0, q_wif, q_swc, q_swn, List.cons_append, List.nil_append, if_true, if_false, e10, e01, Bool.false_eq_true, sh_2, sh_4, p_4_0 hp, wa 10017 7 rfl (by decide), wa 10018 8 rfl (by decide), wa 10019 9 rfl (by decide), wa 10025 15 rfl (by decide), wa 10026 16 rfl (by decide), wa 10027 17 rfl (by decide), Option.toList, z7, z8, z9, z15]
          rfl
        · skip
          by_cases z16 : isW V L S.1 16 = true
          · simp only [u66_0, u66_1, u66_4, u66_6, u66_9, u66_12, u66_13, u66_14, u66_15, u66_18, u66_20, u66_23, u66_26, u66_28, u66_29, u66_30, u66_33, u66_35, u66_38, u66_41, u66_43, u66_44, u66_45, u66_48, u66_50, u66_53, u66_56, u66_58, u66_59, u66_60, u66_63, u66_65, u66_68, u66_71, u66_73, u66_74, u66_75, u66_78, u66_80, u66_83, u66_86, u66_88, u66_89, u66_90, eq_self, q_nl0, q_nlI, q_nlR, not_false_eq_true, q_nz0, q_nz1, q_zv0, q_zv1, q_tl1, q_tl0, q_wif, q_swc, q_swn, List.cons_append, List.nil_append, if_true, if_false, e10, e01, Bool.false_eq_true, sh_2, sh_4, p_4_0 hp, wa 10017 7 rfl (by decide), wa 10018 8 rfl (by decide), wa 10019 9 rfl (by decide), wa 10025 15 rfl (by decide), wa 10026 16 rfl (by decide), wa 10027 17 rfl (by decide), Option.toList, z7, z8, z9, z15, z16]
            rfl
          · skip
            by_cases z17 : isW V L S.1 17 = true
            · simp only [u66_0, u66_1, u66_4, u66_6, u66_9, u66_12, u66_13, u66_14, u66_15, u66_18, u66_20, u66_23, u66_26, u66_28, u66_29, u66_30, u66_33, u66_35, u66_38, u66_41, u66_43, u66_44, u66_45, u66_48, u66_50, u66_53, u66_56, u66_58, u66_59, u66_60, u66_63, u66_65, u66_68, u66_71, u66_73, u66_74, u66_75, u66_78, u66_80, u66_83, u66_86, u66_88, u66_89, u66_90, eq_self, q_nl0, q_nlI, q_nlR, not_false_eq_true, q_nz0, q_nz1, q_zv0, q_zv1, q_tl1, q_tl0, q_wif, q_swc, q_swn, List.cons_append, List.nil_append, if_true, if_false, e10, e01, Bool.false_eq_true, sh_2, sh_4, p_4_0 hp, wa 10017 7 rfl (by decide), wa 10018 8 rfl (by decide), wa 10019 9 rfl (by decide), wa 10025 15 rfl (by decide), wa 10026 16 rfl (by decide), wa 10027 17 rfl (by decide), Option.toList, z7, z8, z9, z15, z16, z17]
              rfl
            · simp only [u66_0, u66_1, u66_4, u66_6, u66_9, u66_12, u66_13, u66_14, u66_15, u66_18, u66_20, u66_23, u66_26, u66_28, u66_29, u66_30, u66_33, u66_35, u66_38, u66_41, u66_43, u66_44, u66_45, u66_48, u66_50, u66_53, u66_56, u66_58, u66_59, u66_60, u66_63, u66_65, u66_68, u66_71, u66_73, u66_74, u66_75, u66_78, u66_80, u66_83, u66_86, u66_88, u66_89, u66_90, eq_self, q_nl0, q_nlI, q_nlR, not_false_eq_true, q_nz0, q_nz1, q_zv0, q_zv1, q_tl1, q_tl0, q_wif, q_swc, q_swn, List.cons_append, List.nil_append, if_true, if_false, e10, e01, Bool.false_eq_true, sh_2, sh_4, p_4_0 hp, wa 10017 7 rfl (by decide), wa 10018 8 rfl (by decide), wa 10019 9 rfl (by decide), wa 10025 15 rfl (by decide), wa 10026 16 rfl (by decide), wa 10027 17 rfl (by decide), Option.toList, z7, z8, z9, z15, z16, z17]
              rfl
