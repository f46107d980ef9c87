/-! THE MODEL'S LINES: what its bank holds, crafts and demands -/
def KD (h : HT) (R : Nat) (τ : CT) : Prop :=
  (R < 2 ∧ m_gI h 195 41 = nI R) ∧
  (m_gI h 198 R = nI (τ 0 0) ∧ m_gI h 199 R = nI (τ 0 1) ∧ m_gI h 200 R = nI (τ 0 2) ∧ m_gI h 202 R = nI (τ 0 3) ∧ m_gI h 203 R = nI (τ 0 4) ∧ m_gI h 204 R = nI (τ 0 5) ∧ m_gI h 205 R = nI (τ 0 6)) ∧
  ((∀ i, i < τ 0 0 → m_gI h 206 (4 * R + i) = nI (τ 1 i)) ∧ (∀ i, i < τ 0 0 → m_gI h 207 (4 * R + i) = nI (τ 2 i)) ∧ (∀ i, i < τ 0 1 → m_gI h 208 (7 * R + i) = nI (τ 3 i)) ∧ (∀ i, i < τ 0 1 → m_gI h 209 (7 * R + i) = nI (τ 4 i)) ∧ (∀ i, i < τ 0 1 → m_gI h 210 (7 * R + i) = nI (τ 5 i)) ∧ (∀ i, i < τ 0 1 → m_gI h 211 (7 * R + i) = nI (τ 6 i)) ∧ (∀ i, i < τ 0 2 → m_gI h 212 (5 * R + i) = nI (τ 7 i)) ∧ ∀ i, i < τ 0 2 → m_gI h 213 (5 * R + i) = nI (τ 8 i)) ∧
  (m_gI h 201 R = nI (τ 0 8) ∧ m_gI h 195 42 = nI (560 * R + τ 0 9) ∧ (0 < τ 0 9 → m_gI h 214 R = nI (560 * R) ∧ m_gI h 215 R = nI (560 * R + τ 0 9)) ∧ ∀ i, i < τ 0 9 → m_gI h 222 (560 * R + i) = nI (τ 9 i) ∧ m_gI h 223 (560 * R + i) = nI (τ 10 i)) ∧
  ((∀ i, i < τ 0 0 → m_gL h 219 (4 * R + i) = nL (cv (τ 11 i))) ∧ (∀ i, i < τ 0 1 → m_gL h 220 (7 * R + i) = nL (cv (τ 12 i))) ∧ ∀ i, i < τ 0 2 → m_gL h 221 (5 * R + i) = nL (cv (τ 13 i))) ∧
  (m_gI h 216 R = nI (τ 0 7) ∧ m_gI h 217 R = nI (τ 0 10) ∧ m_gI h 218 R = nI (τ 0 11))
def KLr (h : HT) (R L : Nat) (V : Nat → Nat) : RL → Prop
  | .inl e => KBd h e
  | .inr q => KP h L V (.inr q.1) ∧ KD h R q.2
def exK (R c k : Nat) : Prop := (c = 195 ∧ (4 ≤ k ∧ k ≤ 9 ∨ 42 ≤ k ∧ k ≤ 45)) ∨ (198 ≤ c ∧ c ≤ 205 ∧ k = R) ∨ (206 ≤ c ∧ c ≤ 207 ∧ 4 * R ≤ k ∧ k < 4 * R + 4) ∨ (208 ≤ c ∧ c ≤ 211 ∧ 7 * R ≤ k ∧ k < 7 * R + 7) ∨ (212 ≤ c ∧ c ≤ 213 ∧ 5 * R ≤ k ∧ k < 5 * R + 5) ∨ (214 ≤ c ∧ c ≤ 218 ∧ k = R) ∨ (222 ≤ c ∧ c ≤ 223 ∧ 560 * R ≤ k ∧ k < 560 * R + 560) ∨ c = 224 ∨ c = 225
def FrL (R : Nat) (h g : HT) : Prop := (∀ c k, m_gR g c k = m_gR h c k) ∧ (∀ c k, ¬ exK R c k → m_gI g c k = m_gI h c k) ∧ ∀ c k, c < 195 → m_gL g c k = m_gL h c k
theorem FrL_rf {R : Nat} {h : HT} : FrL R h h := ⟨fun _ _ => rfl, fun _ _ _ => rfl, fun _ _ _ => rfl⟩
theorem FrL_tr {R : Nat} {h g f : HT} (a : FrL R h g) (b : FrL R g f) : FrL R h f := ⟨fun c k => (b.1 c k).trans (a.1 c k), fun c k x => (b.2.1 c k x).trans (a.2.1 c k x), fun c k x => (b.2.2 c k x).trans (a.2.2 c k x)⟩
theorem FrL_M {R : Nat} {h g : HT} (a : FrM h g) : FrL R h g := ⟨a.1, fun c k x => a.2.1 c k (by unfold exK at x; omega), fun c k x => a.2.2 c k (by omega)⟩
theorem FrL_E {R : Nat} {h g : HT} (a : FrE R h g) : FrL R h g := ⟨a.1, fun c k x => a.2.1 c k (by unfold exK at x; unfold exE; omega), fun c k x => a.2.2 c k (by omega)⟩
theorem FrL_s {R c k : Nat} {h : HT} {v : Int32} (e : exK R c k) : FrL R h (m_sI h c k v) := ⟨fun _ _ => rfl, fun x j n => by
  rw [gI_sI, if_neg]
  rintro ⟨rfl, rfl⟩
  exact n e, fun _ _ _ => rfl⟩
theorem FrL_l {R c k : Nat} {h : HT} {v : Int64} (e : 195 ≤ c) : FrL R h (m_sL h c k v) := ⟨fun _ _ => rfl, fun _ _ _ => rfl, fun x j n => by
  rw [gL_sL, if_neg (by omega)]⟩
theorem KP_sI {h : HT} {L c k : Nat} {V : Nat → Nat} {r : RP} {v : Int32} (H : KP h L V r) (z : 198 ≤ c) : KP (m_sI h c k v) L V r := by
  have e : ∀ x j, x < 198 → m_gI (m_sI h c k v) x j = m_gI h x j := fun x j y => by rw [gI_sI, if_neg (by omega)]
  cases r with
  | inl q =>
    obtain ⟨a, z, q1, q2, q3⟩ := H.2.2.2
    exact ⟨(e _ _ (by decide)).trans H.1, H.2.1, (e _ _ (by decide)).trans H.2.2.1, a, z, (e _ _ (by decide)).trans q1, (e _ _ (by decide)).trans q2, q3⟩
  | inr q => exact ⟨TkK_eq (h := h) (fun _ _ => rfl) (fun x j y => e x j (by omega)) rfl H.1, (e _ _ (by decide)).trans H.2.1, (e _ _ (by decide)).trans H.2.2⟩
theorem KP_sL {h : HT} {L c k : Nat} {V : Nat → Nat} {r : RP} {v : Int64} (H : KP h L V r) (z : 198 ≤ c) : KP (m_sL h c k v) L V r := by
  have e : m_gL (m_sL h c k v) 195 10 = m_gL h 195 10 := by rw [gL_sL, if_neg (by omega)]
  cases r with
  | inl q => exact H
  | inr q => exact ⟨TkK_eq (h := h) (fun _ _ => rfl) (fun _ _ _ => rfl) e H.1, H.2⟩
theorem row_upK {f : Nat → Int32} {ρ : Nat → Nat} {b n v : Nat} (h : ∀ i, i < n → f (b + i) = nI (ρ i)) (e : f (b + n) = nI v) : ∀ i, i < n + 1 → f (b + i) = nI (if i = n then v else ρ i) := fun i hi => by
  by_cases z : i = n
  · rw [if_pos z, z, e]
  · rw [if_neg z]
    exact h i (by omega)
theorem row_upKL {f : Nat → Int64} {ρ : Nat → Nat} {b n v : Nat} (h : ∀ i, i < n → f (b + i) = nL (cv (ρ i))) (e : f (b + n) = nL (cv v)) : ∀ i, i < n + 1 → f (b + i) = nL (cv (if i = n then v else ρ i)) := fun i hi => by
  by_cases z : i = n
  · rw [if_pos z, z, e]
  · rw [if_neg z]
    exact h i (by omega)
theorem nI_4m {b : Nat} : (4 : Int32) * nI b = nI (4 * b) := (Int32.ofNat_mul 4 b).symm
theorem nI_5m {b : Nat} : (5 : Int32) * nI b = nI (5 * b) := (Int32.ofNat_mul 5 b).symm
theorem nI_7m {b : Nat} : (7 : Int32) * nI b = nI (7 * b) := (Int32.ofNat_mul 7 b).symm
theorem k_readCraft {X : XT} {d R L s : Nat} {h : HT} {V : Nat → Nat} {τ : CT} (H : KP h L V (.inr (nx V L s))) (D : KD h R τ) (A : nmA τ) (hn : τ 0 0 < 4) : ∃ g, FrL R h g ∧ KLr g R L V (liC V L s τ) ∧ ∀ Q : QT, wq X (d + 5) 203 0 [some (.ref 195), none] [] h Q = Q none g := by
  have hp : Ptr h := H.1.1.1
  have hR := D.1.1
  have hb := D.1.2
  have m2 : m_in (nI R) 2 = true := q_in hR (by decide)
  have cR : (nI R).toNatClampNeg = R := q_cl (by omega)
  have mC : m_in (nI (4 * R + τ 0 0)) 8 = true := q_in (by omega) (by decide)
  have cC : (nI (4 * R + τ 0 0)).toNatClampNeg = 4 * R + τ 0 0 := q_cl (by omega)
  have n0 : m_gI h 198 R = nI (τ 0 0) := D.2.1.1
  have ht : TkK h L V (nx V L s) := H.1
  have hh := fun (Q : QT) => k_craftHere (X := X) (d := d + 3) (ν := τ 11) (n := τ 0 0) ht hR hb n0 (by omega) (nmA_c A) D.2.2.2.2.1.1 Q
  obtain ⟨g1, a1, a2, a3⟩ := k_fresh (X := X) (d := d + 1) (ν := τ 11) (n := τ 0 0) H (by omega)
  have a4 := KP_sL (c := 219) (k := 4 * R + τ 0 0) (v := m_gL h 195 10) a2 (by decide)
  obtain ⟨g2, b1, b2, b3⟩ := k_afterP (X := X) (d := d) (i := 3) (m := 7) (c := 474147546227) a4 (by decide) (by decide +kernel) (by decide)
  have b4 := KP_sI (c := 206) (k := 4 * R + τ 0 0) (v := nI (cP1 V L s τ).2) b2 (by decide)
  obtain ⟨g3, c1, c2, c3⟩ := k_afterP (X := X) (d := d) (i := 4) (m := 99) (c := 1819243379) b4 (by decide) (by decide +kernel) (by decide)
  have c4 := KP_sI (c := 207) (k := 4 * R + τ 0 0) (v := nI (cP2 V L s τ).2) c2 (by decide)
  have c5 := KP_sI (c := 198) (k := R) (v := nI (τ 0 0 + 1)) c4 (by decide)
  have hp1 : Ptr g1 := Ptr_of hp a1.1
  have hp2 : Ptr g2 := Ptr_of hp1 b1.1
  have hp3 : Ptr g3 := Ptr_of hp2 c1.1
  -- what is where, in the end
  have eI : ∀ c k, ¬ (c = 195 ∧ 4 ≤ k ∧ k ≤ 9) → ¬ (c = 198 ∧ k = R) → ¬ ((c = 206 ∨ c = 207) ∧ k = 4 * R + τ 0 0) → m_gI (m_sI (m_sI g3 207 (4 * R + τ 0 0) (nI (cP2 V L s τ).2)) 198 R (nI (τ 0 0 + 1))) c k = m_gI h c k := fun c k x y z => by
    rw [gI_sI, if_neg y, gI_sI, if_neg (by omega), c1.2.1 c k x, gI_sI, if_neg (by omega), b1.2.1 c k x, gI_sL, a1.2.1 c k x]
  have eL : ∀ c k, c ≠ 195 ∨ k ≠ 10 → ¬ (c = 219 ∧ k = 4 * R + τ 0 0) → m_gL (m_sI (m_sI g3 207 (4 * R + τ 0 0) (nI (cP2 V L s τ).2)) 198 R (nI (τ 0 0 + 1))) c k = m_gL h c k := fun c k x y => by
    rw [gL_sI, gL_sI, c1.2.2 c k x, gL_sI, b1.2.2 c k x, gL_sL, if_neg y, a1.2.2 c k x]
  have eN : m_gL (m_sI (m_sI g3 207 (4 * R + τ 0 0) (nI (cP2 V L s τ).2)) 198 R (nI (τ 0 0 + 1))) 219 (4 * R + τ 0 0) = m_gL h 195 10 := by
    rw [gL_sI, gL_sI, c1.2.2 219 _ (by omega), gL_sI, b1.2.2 219 _ (by omega), gL_sL, if_pos ⟨rfl, rfl⟩]
  have e1 : m_gI (m_sI (m_sI g3 207 (4 * R + τ 0 0) (nI (cP2 V L s τ).2)) 198 R (nI (τ 0 0 + 1))) 206 (4 * R + τ 0 0) = nI (cP1 V L s τ).2 := by
    rw [gI_sI, if_neg (by omega), gI_sI, if_neg (by omega), c1.2.1 _ _ (by omega), gI_sI, if_pos ⟨rfl, rfl⟩]
  have e2 : m_gI (m_sI (m_sI g3 207 (4 * R + τ 0 0) (nI (cP2 V L s τ).2)) 198 R (nI (τ 0 0 + 1))) 207 (4 * R + τ 0 0) = nI (cP2 V L s τ).2 := by
    rw [gI_sI, if_neg (by omega), gI_sI, if_pos ⟨rfl, rfl⟩]
  have n4 : m_gI (m_sI g3 207 (4 * R + τ 0 0) (nI (cP2 V L s τ).2)) 198 R = nI (τ 0 0) := by
    rw [gI_sI, if_neg (by omega), c1.2.1 _ _ (by omega), gI_sI, if_neg (by omega), b1.2.1 _ _ (by omega), gI_sL, a1.2.1 _ _ (by omega)]
    exact n0
  have b41 : m_gI (m_sI g3 207 (4 * R + τ 0 0) (nI (cP2 V L s τ).2)) 195 41 = nI R := by
    rw [gI_sI, if_neg (by omega), c1.2.1 _ _ (by omega), gI_sI, if_neg (by omega), b1.2.1 _ _ (by omega), gI_sL, a1.2.1 _ _ (by omega)]
    exact hb
  refine ⟨_, FrL_tr (FrL_M a1) (FrL_tr (FrL_l (c := 219) (k := 4 * R + τ 0 0) (v := m_gL h 195 10) (by decide)) (FrL_tr (FrL_M b1) (FrL_tr (FrL_s (c := 206) (k := 4 * R + τ 0 0) (v := nI (cP1 V L s τ).2) (by unfold exK; omega)) (FrL_tr (FrL_M c1) (FrL_tr (FrL_s (c := 207) (k := 4 * R + τ 0 0) (v := nI (cP2 V L s τ).2) (by unfold exK; omega)) (FrL_s (c := 198) (k := R) (v := nI (τ 0 0 + 1)) (by unfold exK; omega))))))), ?_, fun Q => ?_⟩
  · rw [show liC V L s τ = fiL (cP2 V L s τ).1 (upC τ (wd V L (nx V L s)) (cP1 V L s τ).2 (cP2 V L s τ).2) from if_neg (by omega)]
    change KP _ L V (cP2 V L s τ).1 at c5
    cases q : (cP2 V L s τ).1 with
    | inl e =>
      rw [q] at c5
      exact c5
    | inr s' =>
      rw [q] at c5
      have isn : isN V L (nx V L s) = true := by
        obtain ⟨x1, y1, -⟩ := nuP_i q
        obtain ⟨x2, y2, -⟩ := exW_i y1
        obtain ⟨x3, y3, -⟩ := nuP_i y2
        obtain ⟨x4, y4, -⟩ := exW_i y3
        exact nmP_w y4
      have hw : m_gL h 195 10 = nL (cv (wd V L (nx V L s))) := ht.2.2.2.2.2.1 (isN_1 isn)
      refine ⟨c5, ⟨hR, (eI _ _ (by omega) (by omega) (by omega)).trans hb⟩, ⟨?_, ?_, ?_, ?_, ?_, ?_, ?_⟩, ⟨?_, ?_, ?_, ?_, ?_, ?_, ?_, ?_⟩, ⟨?_, ?_, ?_, ?_⟩, ⟨?_, ?_, ?_⟩, ?_, ?_, ?_⟩
      · show _ = nI (τ 0 0 + 1)
        rw [gI_sI, if_pos ⟨rfl, rfl⟩]
      · exact (eI _ _ (by omega) (by omega) (by omega)).trans D.2.1.2.1
      · exact (eI _ _ (by omega) (by omega) (by omega)).trans D.2.1.2.2.1
      · exact (eI _ _ (by omega) (by omega) (by omega)).trans D.2.1.2.2.2.1
      · exact (eI _ _ (by omega) (by omega) (by omega)).trans D.2.1.2.2.2.2.1
      · exact (eI _ _ (by omega) (by omega) (by omega)).trans D.2.1.2.2.2.2.2.1
      · exact (eI _ _ (by omega) (by omega) (by omega)).trans D.2.1.2.2.2.2.2.2
      · exact row_upK (f := fun k => m_gI _ _ k) (fun i hi => (eI _ _ (by omega) (by omega) (by omega)).trans (D.2.2.1.1 i hi)) e1
      · exact row_upK (f := fun k => m_gI _ _ k) (fun i hi => (eI _ _ (by omega) (by omega) (by omega)).trans (D.2.2.1.2.1 i hi)) e2
      · exact fun i hi => (eI _ _ (by omega) (by omega) (by omega)).trans (D.2.2.1.2.2.1 i hi)
      · exact fun i hi => (eI _ _ (by omega) (by omega) (by omega)).trans (D.2.2.1.2.2.2.1 i hi)
      · exact fun i hi => (eI _ _ (by omega) (by omega) (by omega)).trans (D.2.2.1.2.2.2.2.1 i hi)
      · exact fun i hi => (eI _ _ (by omega) (by omega) (by omega)).trans (D.2.2.1.2.2.2.2.2.1 i hi)
      · exact fun i hi => (eI _ _ (by omega) (by omega) (by omega)).trans (D.2.2.1.2.2.2.2.2.2.1 i hi)
      · exact fun i hi => (eI _ _ (by omega) (by omega) (by omega)).trans (D.2.2.1.2.2.2.2.2.2.2 i hi)
      · exact (eI _ _ (by omega) (by omega) (by omega)).trans D.2.2.2.1.1
      · exact (eI _ _ (by omega) (by omega) (by omega)).trans D.2.2.2.1.2.1
      · exact fun q => ⟨(eI _ _ (by omega) (by omega) (by omega)).trans (D.2.2.2.1.2.2.1 q).1, (eI _ _ (by omega) (by omega) (by omega)).trans (D.2.2.2.1.2.2.1 q).2⟩
      · exact fun i hi => ⟨(eI _ _ (by omega) (by omega) (by omega)).trans (D.2.2.2.1.2.2.2 i hi).1, (eI _ _ (by omega) (by omega) (by omega)).trans (D.2.2.2.1.2.2.2 i hi).2⟩
      · exact row_upKL (f := fun k => m_gL _ _ k) (fun i hi => (eL _ _ (by omega) (by omega)).trans (D.2.2.2.2.1.1 i hi)) (eN.trans hw)
      · exact fun i hi => (eL _ _ (by omega) (by omega)).trans (D.2.2.2.2.1.2.1 i hi)
      · exact fun i hi => (eL _ _ (by omega) (by omega)).trans (D.2.2.2.2.1.2.2 i hi)
      · exact (eI _ _ (by omega) (by omega) (by omega)).trans D.2.2.2.2.2.1
      · exact (eI _ _ (by omega) (by omega) (by omega)).trans D.2.2.2.2.2.2.1
      · exact (eI _ _ (by omega) (by omega) (by omega)).trans D.2.2.2.2.2.2.2
  · simp only [u203_0, u203_1, u203_2, u203_5, u203_6, u203_7, u203_10, u203_11, u203_14, u203_15, u203_16, u203_17, u203_18, u203_21, u203_22, u203_23, u203_24, u203_27, eq_self, q_nl0, q_nlI, q_nlR, not_false_eq_true, q_nz0, q_nz1, q_zv0, q_zv1, q_tl1, q_tl0, q_wif, q_swc, q_swn, List.cons_append, List.nil_append, if_true, if_false, e10, e01, Bool.false_eq_true, sh_195, sh_198, p_195_11 hp, p_195_32 hp, hb, nI_4m, n0, m2, cR, nI_add, hh, Option.toList]
    refine (a3 _).trans ?_
    simp only [u203_30, u203_31, u203_32, u203_35, u203_36, u203_37, u203_40, u203_41, u203_43, eq_self, q_nl0, q_nlI, q_nlR, not_false_eq_true, q_nz0, q_nz1, q_zv0, q_zv1, q_tl1, q_tl0, q_wif, q_swc, q_swn, List.cons_append, List.nil_append, if_true, if_false, e10, e01, Bool.false_eq_true, sh_195, sh_219, mC, cC, p_195_19 hp1, gR_sL]
    refine (b3 _).trans ?_
    change wq X (d + 5) 203 46 _ [.int (nI (cP1 V L s τ).2), _, _] _ Q = _
    simp only [u203_46, u203_47, u203_48, u203_51, u203_52, u203_53, u203_56, u203_57, u203_59, eq_self, q_nl0, q_nlI, q_nlR, not_false_eq_true, q_nz0, q_nz1, q_zv0, q_zv1, q_tl1, q_tl0, q_wif, q_swc, q_swn, List.cons_append, List.nil_append, if_true, if_false, e10, e01, Bool.false_eq_true, sh_195, sh_206, mC, cC, p_195_20 hp2, gR_sI]
    refine (c3 _).trans ?_
    change wq X (d + 5) 203 62 _ [.int (nI (cP2 V L s τ).2), _, _] _ Q = _
    simp only [u203_62, u203_63, u203_64, u203_67, u203_68, u203_71, u203_72, u203_73, u203_74, u203_75, u203_76, eq_self, q_nl0, q_nlI, q_nlR, not_false_eq_true, q_nz0, q_nz1, q_zv0, q_zv1, q_tl1, q_tl0, q_wif, q_swc, q_swn, List.cons_append, List.nil_append, if_true, if_false, e10, e01, Bool.false_eq_true, sh_195, sh_207, sh_198, mC, cC, p_195_11 hp3, gR_sI, b41, m2, cR, n4, nI_1]
theorem k_readDemand {X : XT} {d R L s : Nat} {h : HT} {V : Nat → Nat} {τ : CT} (H : KP h L V (.inr (nx V L s))) (D : KD h R τ) (A : nmA τ) (hn : τ 0 2 < 5) : ∃ g, FrL R h g ∧ KLr g R L V (liD V L s τ) ∧ ∀ Q : QT, wq X (d + 5) 212 0 [some (.ref 195), none] [] h Q = Q none g := by
  have hp : Ptr h := H.1.1.1
  have hR := D.1.1
  have hb := D.1.2
  have m2 : m_in (nI R) 2 = true := q_in hR (by decide)
  have cR : (nI R).toNatClampNeg = R := q_cl (by omega)
  have mC : m_in (nI (5 * R + τ 0 2)) 10 = true := q_in (by omega) (by decide)
  have cC : (nI (5 * R + τ 0 2)).toNatClampNeg = 5 * R + τ 0 2 := q_cl (by omega)
  have n0 : m_gI h 200 R = nI (τ 0 2) := D.2.1.2.2.1
  have ht : TkK h L V (nx V L s) := H.1
  have hh := fun (Q : QT) => k_here (X := X) (d := d + 4) (ν := τ 13) (n := τ 0 2) (f := 5 * R) ht sh_221 (by decide) (by omega) (nmA_d A) D.2.2.2.2.1.2.2 Q
  obtain ⟨g1, a1, a2, a3⟩ := k_fresh (X := X) (d := d + 1) (ν := τ 13) (n := τ 0 2) H (by omega)
  have a4 := KP_sL (c := 221) (k := 5 * R + τ 0 2) (v := m_gL h 195 10) a2 (by decide)
  obtain ⟨g2, b1, b2, b3⟩ := k_afterP (X := X) (d := d) (i := 12) (m := 999) (c := 1668248436) a4 (by decide) (by decide +kernel) (by decide)
  have b4 := KP_sI (c := 212) (k := 5 * R + τ 0 2) (v := nI (dP1 V L s τ).2) b2 (by decide)
  obtain ⟨g3, c1, c2, c3⟩ := k_afterP (X := X) (d := d) (i := 13) (m := 99) (c := 512970880104) b4 (by decide) (by decide +kernel) (by decide)
  have c4 := KP_sI (c := 213) (k := 5 * R + τ 0 2) (v := nI (dP2 V L s τ).2) c2 (by decide)
  have c5 := KP_sI (c := 200) (k := R) (v := nI (τ 0 2 + 1)) c4 (by decide)
  have hp1 : Ptr g1 := Ptr_of hp a1.1
  have hp2 : Ptr g2 := Ptr_of hp1 b1.1
  have hp3 : Ptr g3 := Ptr_of hp2 c1.1
  -- what is where, in the end
  have eI : ∀ c k, ¬ (c = 195 ∧ 4 ≤ k ∧ k ≤ 9) → ¬ (c = 200 ∧ k = R) → ¬ ((c = 212 ∨ c = 213) ∧ k = 5 * R + τ 0 2) → m_gI (m_sI (m_sI g3 213 (5 * R + τ 0 2) (nI (dP2 V L s τ).2)) 200 R (nI (τ 0 2 + 1))) c k = m_gI h c k := fun c k x y z => by
    rw [gI_sI, if_neg y, gI_sI, if_neg (by omega), c1.2.1 c k x, gI_sI, if_neg (by omega), b1.2.1 c k x, gI_sL, a1.2.1 c k x]
  have eL : ∀ c k, c ≠ 195 ∨ k ≠ 10 → ¬ (c = 221 ∧ k = 5 * R + τ 0 2) → m_gL (m_sI (m_sI g3 213 (5 * R + τ 0 2) (nI (dP2 V L s τ).2)) 200 R (nI (τ 0 2 + 1))) c k = m_gL h c k := fun c k x y => by
    rw [gL_sI, gL_sI, c1.2.2 c k x, gL_sI, b1.2.2 c k x, gL_sL, if_neg y, a1.2.2 c k x]
  have eN : m_gL (m_sI (m_sI g3 213 (5 * R + τ 0 2) (nI (dP2 V L s τ).2)) 200 R (nI (τ 0 2 + 1))) 221 (5 * R + τ 0 2) = m_gL h 195 10 := by
    rw [gL_sI, gL_sI, c1.2.2 221 _ (by omega), gL_sI, b1.2.2 221 _ (by omega), gL_sL, if_pos ⟨rfl, rfl⟩]
  have e1 : m_gI (m_sI (m_sI g3 213 (5 * R + τ 0 2) (nI (dP2 V L s τ).2)) 200 R (nI (τ 0 2 + 1))) 212 (5 * R + τ 0 2) = nI (dP1 V L s τ).2 := by
    rw [gI_sI, if_neg (by omega), gI_sI, if_neg (by omega), c1.2.1 _ _ (by omega), gI_sI, if_pos ⟨rfl, rfl⟩]
  have e2 : m_gI (m_sI (m_sI g3 213 (5 * R + τ 0 2) (nI (dP2 V L s τ).2)) 200 R (nI (τ 0 2 + 1))) 213 (5 * R + τ 0 2) = nI (dP2 V L s τ).2 := by
    rw [gI_sI, if_neg (by omega), gI_sI, if_pos ⟨rfl, rfl⟩]
  have n4 : m_gI (m_sI g3 213 (5 * R + τ 0 2) (nI (dP2 V L s τ).2)) 200 R = nI (τ 0 2) := by
    rw [gI_sI, if_neg (by omega), c1.2.1 _ _ (by omega), gI_sI, if_neg (by omega), b1.2.1 _ _ (by omega), gI_sL, a1.2.1 _ _ (by omega)]
    exact n0
  have b41 : m_gI (m_sI g3 213 (5 * R + τ 0 2) (nI (dP2 V L s τ).2)) 195 41 = nI R := by
    rw [gI_sI, if_neg (by omega), c1.2.1 _ _ (by omega), gI_sI, if_neg (by omega), b1.2.1 _ _ (by omega), gI_sL, a1.2.1 _ _ (by omega)]
    exact hb
  refine ⟨_, FrL_tr (FrL_M a1) (FrL_tr (FrL_l (c := 221) (k := 5 * R + τ 0 2) (v := m_gL h 195 10) (by decide)) (FrL_tr (FrL_M b1) (FrL_tr (FrL_s (c := 212) (k := 5 * R + τ 0 2) (v := nI (dP1 V L s τ).2) (by unfold exK; omega)) (FrL_tr (FrL_M c1) (FrL_tr (FrL_s (c := 213) (k := 5 * R + τ 0 2) (v := nI (dP2 V L s τ).2) (by unfold exK; omega)) (FrL_s (c := 200) (k := R) (v := nI (τ 0 2 + 1)) (by unfold exK; omega))))))), ?_, fun Q => ?_⟩
  · rw [show liD V L s τ = fiL (dP2 V L s τ).1 (upD τ (wd V L (nx V L s)) (dP1 V L s τ).2 (dP2 V L s τ).2) from if_neg (by omega)]
    change KP _ L V (dP2 V L s τ).1 at c5
    cases q : (dP2 V L s τ).1 with
    | inl e =>
      rw [q] at c5
      exact c5
    | inr s' =>
      rw [q] at c5
      have isn : isN V L (nx V L s) = true := by
        obtain ⟨x1, y1, -⟩ := nuP_i q
        obtain ⟨x2, y2, -⟩ := exW_i y1
        obtain ⟨x3, y3, -⟩ := nuP_i y2
        obtain ⟨x4, y4, -⟩ := exW_i y3
        exact nmP_w y4
      have hw : m_gL h 195 10 = nL (cv (wd V L (nx V L s))) := ht.2.2.2.2.2.1 (isN_1 isn)
      refine ⟨c5, ⟨hR, (eI _ _ (by omega) (by omega) (by omega)).trans hb⟩, ⟨?_, ?_, ?_, ?_, ?_, ?_, ?_⟩, ⟨?_, ?_, ?_, ?_, ?_, ?_, ?_, ?_⟩, ⟨?_, ?_, ?_, ?_⟩, ⟨?_, ?_, ?_⟩, ?_, ?_, ?_⟩
      · exact (eI _ _ (by omega) (by omega) (by omega)).trans D.2.1.1
      · exact (eI _ _ (by omega) (by omega) (by omega)).trans D.2.1.2.1
      · show _ = nI (τ 0 2 + 1)
        rw [gI_sI, if_pos ⟨rfl, rfl⟩]
      · exact (eI _ _ (by omega) (by omega) (by omega)).trans D.2.1.2.2.2.1
      · exact (eI _ _ (by omega) (by omega) (by omega)).trans D.2.1.2.2.2.2.1
      · exact (eI _ _ (by omega) (by omega) (by omega)).trans D.2.1.2.2.2.2.2.1
      · exact (eI _ _ (by omega) (by omega) (by omega)).trans D.2.1.2.2.2.2.2.2
      · exact fun i hi => (eI _ _ (by omega) (by omega) (by omega)).trans (D.2.2.1.1 i hi)
      · exact fun i hi => (eI _ _ (by omega) (by omega) (by omega)).trans (D.2.2.1.2.1 i hi)
      · exact fun i hi => (eI _ _ (by omega) (by omega) (by omega)).trans (D.2.2.1.2.2.1 i hi)
      · exact fun i hi => (eI _ _ (by omega) (by omega) (by omega)).trans (D.2.2.1.2.2.2.1 i hi)
      · exact fun i hi => (eI _ _ (by omega) (by omega) (by omega)).trans (D.2.2.1.2.2.2.2.1 i hi)
      · exact fun i hi => (eI _ _ (by omega) (by omega) (by omega)).trans (D.2.2.1.2.2.2.2.2.1 i hi)
      · exact row_upK (f := fun k => m_gI _ _ k) (fun i hi => (eI _ _ (by omega) (by omega) (by omega)).trans (D.2.2.1.2.2.2.2.2.2.1 i hi)) e1
      · exact row_upK (f := fun k => m_gI _ _ k) (fun i hi => (eI _ _ (by omega) (by omega) (by omega)).trans (D.2.2.1.2.2.2.2.2.2.2 i hi)) e2
      · exact (eI _ _ (by omega) (by omega) (by omega)).trans D.2.2.2.1.1
      · exact (eI _ _ (by omega) (by omega) (by omega)).trans D.2.2.2.1.2.1
      · exact fun q => ⟨(eI _ _ (by omega) (by omega) (by omega)).trans (D.2.2.2.1.2.2.1 q).1, (eI _ _ (by omega) (by omega) (by omega)).trans (D.2.2.2.1.2.2.1 q).2⟩
      · exact fun i hi => ⟨(eI _ _ (by omega) (by omega) (by omega)).trans (D.2.2.2.1.2.2.2 i hi).1, (eI _ _ (by omega) (by omega) (by omega)).trans (D.2.2.2.1.2.2.2 i hi).2⟩
      · exact fun i hi => (eL _ _ (by omega) (by omega)).trans (D.2.2.2.2.1.1 i hi)
      · exact fun i hi => (eL _ _ (by omega) (by omega)).trans (D.2.2.2.2.1.2.1 i hi)
      · exact row_upKL (f := fun k => m_gL _ _ k) (fun i hi => (eL _ _ (by omega) (by omega)).trans (D.2.2.2.2.1.2.2 i hi)) (eN.trans hw)
      · exact (eI _ _ (by omega) (by omega) (by omega)).trans D.2.2.2.2.2.1
      · exact (eI _ _ (by omega) (by omega) (by omega)).trans D.2.2.2.2.2.2.1
      · exact (eI _ _ (by omega) (by omega) (by omega)).trans D.2.2.2.2.2.2.2
  · simp only [u212_0, u212_1, u212_2, u212_5, u212_6, u212_7, u212_10, u212_11, u212_14, u212_15, u212_16, u212_17, u212_18, u212_21, u212_22, u212_23, u212_24, u212_25, u212_28, u212_29, u212_30, u212_33, u212_34, u212_35, u212_38, u212_39, u212_42, u212_43, u212_46, eq_self, q_nl0, q_nlI, q_nlR, not_false_eq_true, q_nz0, q_nz1, q_zv0, q_zv1, q_tl1, q_tl0, q_wif, q_swc, q_swn, List.cons_append, List.nil_append, if_true, if_false, e10, e01, Bool.false_eq_true, sh_195, sh_200, p_195_13 hp, p_195_34 hp, hb, nI_5m, n0, m2, cR, nI_add, hh, Option.toList]
    refine (a3 _).trans ?_
    simp only [u212_49, u212_50, u212_51, u212_54, u212_55, u212_56, u212_59, u212_60, u212_63, eq_self, q_nl0, q_nlI, q_nlR, not_false_eq_true, q_nz0, q_nz1, q_zv0, q_zv1, q_tl1, q_tl0, q_wif, q_swc, q_swn, List.cons_append, List.nil_append, if_true, if_false, e10, e01, Bool.false_eq_true, sh_195, sh_221, mC, cC, p_195_25 hp1, gR_sL]
    refine (b3 _).trans ?_
    change wq X (d + 5) 212 66 _ [.int (nI (dP1 V L s τ).2), _, _] _ Q = _
    simp only [u212_66, u212_67, u212_68, u212_71, u212_72, u212_73, u212_76, u212_77, u212_79, eq_self, q_nl0, q_nlI, q_nlR, not_false_eq_true, q_nz0, q_nz1, q_zv0, q_zv1, q_tl1, q_tl0, q_wif, q_swc, q_swn, List.cons_append, List.nil_append, if_true, if_false, e10, e01, Bool.false_eq_true, sh_195, sh_212, mC, cC, p_195_26 hp2, gR_sI]
    refine (c3 _).trans ?_
    change wq X (d + 5) 212 82 _ [.int (nI (dP2 V L s τ).2), _, _] _ Q = _
    simp only [u212_82, u212_83, u212_84, u212_87, u212_88, u212_91, u212_92, u212_93, u212_94, u212_95, u212_96, eq_self, q_nl0, q_nlI, q_nlR, not_false_eq_true, q_nz0, q_nz1, q_zv0, q_zv1, q_tl1, q_tl0, q_wif, q_swc, q_swn, List.cons_append, List.nil_append, if_true, if_false, e10, e01, Bool.false_eq_true, sh_195, sh_213, sh_200, mC, cC, p_195_13 hp3, gR_sI, b41, m2, cR, n4, nI_1]
