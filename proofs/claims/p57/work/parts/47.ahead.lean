/-! DAYS AHEAD -/
def aIt (τ : CT) (A : Nat → Int32) : Nat → Nat → Int32
  | 0 => A
  | k + 1 => aD τ (aIt τ A k)
def aCs (τ : CT) (A : Nat → Int32) : Nat → Nat
  | 0 => 0
  | k + 1 => aCs τ A k + aC τ (aIt τ A k)
theorem aIt_s {τ : CT} {A : Nat → Int32} {k : Nat} : aIt τ A (k + 1) = aD τ (aIt τ A k) := rfl
theorem aCs_s {τ : CT} {A : Nat → Int32} {k : Nat} : aCs τ A (k + 1) = aCs τ A k + aC τ (aIt τ A k) := rfl
theorem it_ok {τ : CT} {N : Nat} {A : Nat → Int32} (H : cOk τ) (K : aOk τ N A) : ∀ k, aOk τ (N + k) (aIt τ A k)
  | 0 => K
  | k + 1 => d_ok H (it_ok H K k)
theorem it_16 {τ : CT} {N : Nat} {A : Nat → Int32} (H : cOk τ) (K : aOk τ N A) : ∀ k, aIt τ A k 16 = A 16 + nI (aCs τ A k)
  | 0 => (Int32.add_zero _).symm
  | k + 1 => by
    rw [aIt_s, aD_16 H (it_ok H K k), it_16 H K k, aCs_s, Int32.add_assoc, nI_add]
theorem it_ge {τ : CT} {A : Nat → Int32} (H : cOk τ) {j : Nat} (hj : 20 ≤ j ∨ j = 15) : ∀ k, aIt τ A k j = A j
  | 0 => rfl
  | k + 1 => by rw [aIt_s, aD_ge H hj, it_ge H hj k]
theorem aCs_le {τ : CT} {A : Nat → Int32} (H : cOk τ) : ∀ k, aCs τ A k ≤ 1395 * k
  | 0 => Nat.le_refl _
  | k + 1 => by
    have := aCs_le (A := A) H k
    have h2 := aC_le (A := aIt τ A k) H
    rw [aCs_s]
    omega
theorem q_loopI {α β : Type} (P : Nat → α → β) (I : Nat → α → Prop) (n : Nat) (hs : ∀ i, i < n → ∀ l, I i l → ∃ l', I (i + 1) l' ∧ P i l = P (i + 1) l') (l : α) (h0 : I 0 l) : ∃ l', I n l' ∧ P 0 l = P n l' := by
  induction n with
  | zero => exact ⟨l, h0, rfl⟩
  | succ n ih =>
    obtain ⟨l1, i1, e1⟩ := ih (fun i hi => hs i (by omega))
    obtain ⟨l2, i2, e2⟩ := hs n (by omega) l1 i1
    exact ⟨l2, i2, e1.trans e2⟩
def isP (c k : Nat) : Bool := decide (c = 17 ∨ c = 35) || decide ((c = 15 ∨ c = 33) ∧ k = 4)
def Fr (a : Nat) (g g' : HT) : Prop := g'.2 = g.2 ∧ ∀ c k, c < a ∨ a + 3 ≤ c → isP c k = false → m_gI g' c k = m_gI g c k
theorem isP_ge {c k : Nat} (h : 36 ≤ c) : isP c k = false := by
  unfold isP
  simp only [Bool.or_eq_false_iff, decide_eq_false_iff_not]
  omega
theorem isJ_P {c k : Nat} (h : isJ c k = false) : isP c k = false := by
  unfold isJ at h
  unfold isP
  simp only [Bool.or_eq_false_iff, decide_eq_false_iff_not] at h ⊢
  omega
theorem Fr_Same {a : Nat} {g g' : HT} (ha : a = 41 ∨ a = 172) (f : Fr a g g') : Same g g' := by
  refine ⟨f.1, fun c k z => f.2 c k ?_ (isJ_P z)⟩
  by_cases y : c < a ∨ a + 3 ≤ c
  · exact y
  · have : isJ c k = true := by
      unfold isJ
      simp only [Bool.or_eq_true, decide_eq_true_eq]
      omega
    rw [this] at z
    cases z
theorem c_passF {X : XT} {d T a N : Nat} {g : HT} {τ : CT} {A : Nat → Int32} (H : CTown g T τ) (F : fOk τ) (K : aOk τ N A) (ha : isS a) (R : Rep τ (gS g a) A) : ∃ g', Fr a g g' ∧ Rep τ (gS g' a) (aD τ A) ∧ ∀ Q : QT, wq X (d + 4) 107 0 [some (.ref T), some (.ref a), none] [] g Q = Q (some (.int (nI (aC τ A)))) g' := by
  have hk := ct_ok H
  have hT := ct_T H
  obtain ⟨x', c', e⟩ := c_passDay (X := X) (d := d) (x := m_gI g (T + 10) 4) (c := m_gI g (T + 12)) H F ha (gS g a) K.1.2 (R.1.1.trans K.1.1)
  rw [pS_gS, hJ_id, aC_r hk K R] at e
  refine ⟨hJ (pS g a (rDay τ (gS g a) (aN A))) T x' c', ⟨rfl, fun c k z y => ?_⟩, ?_, e⟩
  · have hc : c ≠ T + 12 ∧ (c ≠ T + 10 ∨ k ≠ 4) := by
      unfold isP at y
      simp only [Bool.or_eq_false_iff, decide_eq_false_iff_not] at y
      rcases hT with t | t <;> subst t <;> omega
    rw [gI_hJ hc.1 hc.2, gI_pSo z]
  · rw [gS_hJ hT ha]
    exact d_rep hk K R
theorem Rep_copy {τ : CT} {r s : RS} {A : Nat → Int32} (H : cOk τ) (R : Rep τ s A) : Rep τ (rCopy r s) A := by
  have h7 := o_mn H
  refine ⟨R.1, fun m hm => ?_, fun m hm hb => ?_⟩
  · show (if m < 7 then s.2.2 m else r.2.2 m) = A m
    rw [if_pos (by omega), R.2.1 m hm]
  · show (if m < 7 then s.2.1 m else r.2.1 m) = A (7 + m)
    rw [if_pos (by omega), R.2.2 m hm hb]
/-! the class looks ahead -/
def hO (h : HT) (o u l : Nat → Int32) : HT := (fun c k => if c = 175 then o k else if c = 176 then u k else if c = 177 then l k else h.1 c k, h.2)
theorem gI_hO {h : HT} {o u l : Nat → Int32} {c k : Nat} (z : c < 175 ∨ 178 ≤ c) : m_gI (hO h o u l) c k = m_gI h c k := by
  show (if c = 175 then o k else if c = 176 then u k else if c = 177 then l k else h.1 c k) = h.1 c k
  rw [if_neg (by omega), if_neg (by omega), if_neg (by omega)]
theorem gI_hO5 {h : HT} {o u l : Nat → Int32} {k : Nat} : m_gI (hO h o u l) 175 k = o k := rfl
theorem gI_hO6 {h : HT} {o u l : Nat → Int32} {k : Nat} : m_gI (hO h o u l) 176 k = u k := rfl
theorem gI_hO7 {h : HT} {o u l : Nat → Int32} {k : Nat} : m_gI (hO h o u l) 177 k = l k := rfl
theorem gR_hO {h : HT} {o u l : Nat → Int32} {c k : Nat} : m_gR (hO h o u l) c k = m_gR h c k := rfl
theorem hO_id {h : HT} : hO h (m_gI h 175) (m_gI h 176) (m_gI h 177) = h := by
  apply hx
  · intro c k
    show (if c = 175 then h.1 175 k else if c = 176 then h.1 176 k else if c = 177 then h.1 177 k else h.1 c k) = h.1 c k
    by_cases a : c = 175
    · rw [if_pos a, a]
    · by_cases b : c = 176
      · rw [if_neg a, if_pos b, b]
      · by_cases e : c = 177
        · rw [if_neg a, if_neg b, if_pos e, e]
        · rw [if_neg a, if_neg b, if_neg e]
  · rfl
theorem sI_hO5 {h : HT} {o u l : Nat → Int32} {k : Nat} {v : Int32} : m_sI (hO h o u l) 175 k v = hO h (up o k v) u l := by
  apply hx
  · intro c j
    show (if c = 175 ∧ j = k then v else if c = 175 then o j else if c = 176 then u j else if c = 177 then l j else h.1 c j) = if c = 175 then (if j = k then v else o j) else if c = 176 then u j else if c = 177 then l j else h.1 c j
    by_cases a : c = 175
    · by_cases b : j = k
      · rw [if_pos ⟨a, b⟩, if_pos a, if_pos b]
      · rw [if_neg (fun w => b w.2), if_pos a, if_pos a, if_neg b]
    · rw [if_neg (fun w => a w.1), if_neg a, if_neg a]
  · rfl
theorem sI_hO6 {h : HT} {o u l : Nat → Int32} {k : Nat} {v : Int32} : m_sI (hO h o u l) 176 k v = hO h o (up u k v) l := by
  apply hx
  · intro c j
    show (if c = 176 ∧ j = k then v else if c = 175 then o j else if c = 176 then u j else if c = 177 then l j else h.1 c j) = if c = 175 then o j else if c = 176 then (if j = k then v else u j) else if c = 177 then l j else h.1 c j
    by_cases a : c = 176
    · by_cases b : j = k
      · rw [if_pos ⟨a, b⟩, if_neg (by omega), if_pos a, if_pos b]
      · rw [if_neg (fun w => b w.2), if_neg (by omega), if_pos a, if_neg (by omega), if_pos a, if_neg b]
    · rw [if_neg (fun w => a w.1)]
      simp only [if_neg a]
  · rfl
theorem sI_hO7 {h : HT} {o u l : Nat → Int32} {k : Nat} {v : Int32} : m_sI (hO h o u l) 177 k v = hO h o u (up l k v) := by
  apply hx
  · intro c j
    show (if c = 177 ∧ j = k then v else if c = 175 then o j else if c = 176 then u j else if c = 177 then l j else h.1 c j) = if c = 175 then o j else if c = 176 then u j else if c = 177 then (if j = k then v else l j) else h.1 c j
    by_cases a : c = 177
    · by_cases b : j = k
      · rw [if_pos ⟨a, b⟩, if_neg (by omega), if_neg (by omega), if_pos a, if_pos b]
      · rw [if_neg (fun w => b w.2), if_neg (by omega), if_neg (by omega), if_pos a, if_neg (by omega), if_neg (by omega), if_pos a, if_neg b]
    · rw [if_neg (fun w => a w.1)]
      simp only [if_neg a]
  · rfl
theorem up_up {f : Nat → Int32} {k : Nat} {v w : Int32} : up (up f k v) k w = up f k w := by
  funext j
  show (if j = k then w else if j = k then v else f j) = if j = k then w else f j
  by_cases z : j = k
  · rw [if_pos z, if_pos z]
  · rw [if_neg z, if_neg z, if_neg z]
theorem up_o {f : Nat → Int32} {k j : Nat} {v : Int32} (z : j ≠ k) : up f k v j = f j := if_neg z
def huP (A : Nat → Int32) (i : Nat) : Bool := (aN A).testBit i && decide (A i = 0)
/-- who is out without loaves -/
def huS (τ : CT) (A : Nat → Int32) : Nat := fL (bS (huP A)) 0 (τ 0 1)
theorem huS_7 {τ : CT} {N : Nat} {A : Nat → Int32} (H : cOk τ) (K : aOk τ N A) : fL (bS (huP A)) 0 7 = huS τ A :=
  fL_to (s := bS (huP A)) (o_mn H) (fun i o hi => if_neg (by unfold huP; rw [bit_ge K.1.2 hi]; simp))
theorem is172 : isS 172 := by
  unfold isS
  decide
theorem is41 : isS 41 := by
  unfold isS
  decide
theorem c_note {X : XT} {d k N : Nat} {h : HT} {Q : QT} {τ : CT} {A : Nat → Int32} {s : Int32} {o u l : Nat → Int32} (hp : Ptr h) (H : cOk τ) (K : aOk τ N A) (R : Rep τ (gS h 172) A) (hk : k ≤ 60) : wq X (d + 1) 106 0 [some (.ref 171), some (.int (nI k)), some (.int s), none] [] (hO h o u l) Q = Q none (hO h (up o k (nI (aN A))) (up u k (nI (huS τ A))) (up l k s)) := by
  have hn := aN_lt H K
  have e1 : (nI k < 0) = False := oI_lt0 (by omega)
  have e2 : (60 < nI k) = False := eq_false (nI_nlt (a := 60) (by omega) (by omega))
  have e3 : m_in (nI k) 61 = true := q_in (by omega) (by decide)
  have e4 : (nI k).toNatClampNeg = k := q_cl (by omega)
  have s172 : (m_sh (KS X) 172).1 = 7 := by rw [sh_172]
  have g0 : ∀ o u l, m_gI (hO h o u l) 172 0 = nI (aN A) := fun o u l => (gI_hO (by omega)).trans (R.1.1.trans K.1.1)
  rw [← huS_7 H K]
  simp only [u106_0, u106_1, u106_4, u106_5, u106_7, u106_10, u106_11, u106_12, u106_15, u106_16, u106_17, u106_20, u106_23, u106_24, u106_25, u106_28, u106_29, u106_30, u106_31, u106_32, u106_35, u106_36, u106_37, u106_38, u106_39, eq_self, q_nl0, q_nlI, q_nlR, not_false_eq_true, q_nz0, q_nz1, q_zv0, q_zv1, q_tl1, q_tl0, q_wif, q_swc, q_swn, List.cons_append, List.nil_append, if_true, if_false, e10, e01, Bool.false_eq_true, sh_171, sh_172, sh_175, sh_176, sh_177, e1, e2, e3, e4, gR_hO, p_171_0 hp, p_171_1 hp, p_171_2 hp, p_171_3 hp, g0, sI_hO5, sI_hO6, sI_hO7]
  refine (q_loop (fun i => wq X (d + 1) 106 40 [some (.ref 171), some (.int (nI k)), some (.int s), some (.int (nI i))] [] (hO h (up o k (nI (aN A))) (up u k (nI (fL (bS (huP A)) 0 i))) (up l k s)) Q) 7 ?_).trans ?_
  · intro i hi
    have hb := bit01 hn (show i < 8 by omega)
    have f2 : (nI i < 7) = True := eq_true (nI_lt (b := 7) (by omega) (by omega))
    have f3 : m_in (nI i) 7 = true := q_in (by omega) (by decide)
    have f4 : (nI i).toNatClampNeg = i := q_cl (by omega)
    show wq X (d + 1) 106 40 _ _ _ _ = _
    rw [u106_40, fL_s, bS_b]
    unfold huP
    by_cases z : (aN A).testBit i = true
    · have hm := bit_lt K.1.2 z
      have gl : ∀ o u l, m_gI (hO h o u l) (172 + 2) i = A i := fun o u l => (gI_hO (by omega)).trans (R.2.1 i hm)
      simp only [u106_41, u106_43, u106_46, u106_47, u106_50, u106_51, u106_54, u106_57, u106_58, u106_61, u106_64, u106_65, u106_66, u106_69, u106_70, u106_73, u106_74, u106_75, u106_76, u106_77, u106_78, u106_79, u106_80, u106_81, u106_84, eq_self, q_nl0, q_nlI, q_nlR, not_false_eq_true, q_nz0, q_nz1, q_zv0, q_zv1, q_tl1, q_tl0, q_wif, q_swc, q_swn, List.cons_append, List.nil_append, if_true, if_false, e10, e01, Bool.false_eq_true, sh_171, sh_172, sh_176, shS_2 is172, pS_2 is172 hp, e3, e4, f2, f3, f4, gR_hO, p_171_0 hp, p_171_2 hp, c_isOut s172, g0, hb, z, gl, gI_hO6, up_s, nI_sh i (by omega), nI_or, sI_hO6, up_up, nI_1, Bool.true_and, decide_eq_true_eq]
      by_cases y : A i = 0
      · simp only [y, if_true]
      · simp only [y, if_false]
    · simp only [u106_41, u106_43, u106_46, u106_47, u106_50, u106_51, u106_54, u106_57, u106_58, u106_61, u106_64, u106_65, u106_66, u106_69, u106_70, u106_73, u106_74, u106_75, u106_76, u106_77, u106_78, u106_79, u106_80, u106_81, u106_84, eq_self, q_nl0, q_nlI, q_nlR, not_false_eq_true, q_nz0, q_nz1, q_zv0, q_zv1, q_tl1, q_tl0, q_wif, q_swc, q_swn, List.cons_append, List.nil_append, if_true, if_false, e10, e01, Bool.false_eq_true, sh_171, sh_172, f2, gR_hO, p_171_0 hp, c_isOut s172, g0, hb, z, nI_1, Bool.false_and]
  · rw [u106_40]
    simp only [u106_41, u106_43, u106_46, u106_47, u106_50, u106_51, u106_54, u106_57, u106_58, u106_61, u106_64, u106_65, u106_66, u106_69, u106_70, u106_73, u106_74, u106_75, u106_76, u106_77, u106_78, u106_79, u106_80, u106_81, u106_84, u106_87, eq_self, q_nl0, q_nlI, q_nlR, not_false_eq_true, q_nz0, q_nz1, q_zv0, q_zv1, q_tl1, q_tl0, q_wif, q_swc, q_swn, List.cons_append, List.nil_append, if_true, if_false, e10, e01, Bool.false_eq_true, eq_false (show ¬ nI 7 < 7 by decide)]
/-- what is noted of the days ahead -/
def Noted (τ : CT) (A : Nat → Int32) (n : Nat) (g : HT) : Prop := ∀ k, k ≤ n → m_gI g 175 k = nI (aN (aIt τ A k)) ∧ m_gI g 176 k = nI (huS τ (aIt τ A k)) ∧ m_gI g 177 k = nI (aCs τ A k)
theorem Same_hO {h : HT} {o u l : Nat → Int32} : Same h (hO h o u l) := by
  refine ⟨rfl, fun c k z => gI_hO ?_⟩
  by_cases y : c < 175 ∨ 178 ≤ c
  · exact y
  · have : isJ c k = true := by
      unfold isJ
      simp only [Bool.or_eq_true, decide_eq_true_eq]
      omega
    rw [this] at z
    cases z
theorem Same_pS {h : HT} {a : Nat} {r : RS} (ha : a = 41 ∨ a = 172) : Same h (pS h a r) := by
  refine ⟨rfl, fun c k z => gI_pSo ?_⟩
  by_cases y : c < a ∨ a + 3 ≤ c
  · exact y
  · have : isJ c k = true := by
      unfold isJ
      simp only [Bool.or_eq_true, decide_eq_true_eq]
      omega
    rw [this] at z
    cases z
theorem c_noteG {X : XT} {d k N : Nat} {g : HT} {τ : CT} {B : Nat → Int32} {s : Int32} (hp : Ptr g) (H : cOk τ) (K : aOk τ N B) (R : Rep τ (gS g 172) B) (hk : k ≤ 60) : ∃ g', Same g g' ∧ gS g' 172 = gS g 172 ∧ m_gI g' 175 = up (m_gI g 175) k (nI (aN B)) ∧ m_gI g' 176 = up (m_gI g 176) k (nI (huS τ B)) ∧ m_gI g' 177 = up (m_gI g 177) k s ∧ ∀ Q : QT, wq X (d + 1) 106 0 [some (.ref 171), some (.int (nI k)), some (.int s), none] [] g Q = Q none g' := by
  have cn := fun (Q : QT) => c_note (X := X) (d := d) (Q := Q) (k := k) (s := s) (o := m_gI g 175) (u := m_gI g 176) (l := m_gI g 177) hp H K R hk
  rw [hO_id] at cn
  refine ⟨hO g (up (m_gI g 175) k (nI (aN B))) (up (m_gI g 176) k (nI (huS τ B))) (up (m_gI g 177) k s), Same_hO, ?_, rfl, rfl, rfl, cn⟩
  have e : ∀ c, c < 175 → m_gI (hO g (up (m_gI g 175) k (nI (aN B))) (up (m_gI g 176) k (nI (huS τ B))) (up (m_gI g 177) k s)) c = m_gI g c := fun c hc => funext fun k => gI_hO (Or.inl hc)
  unfold gS
  rw [e 172 (by omega), e (172 + 1) (by omega), e (172 + 2) (by omega)]
theorem c_look {X : XT} {d T N n : Nat} {h : HT} {τ : CT} {A : Nat → Int32} (H : CQ h T τ N A) (hn : n ≤ 60) : ∃ g, Same h g ∧ Noted τ A n g ∧ ∀ Q : QT, wq X (d + 5) 104 0 [some (.ref 171), some (.ref T), some (.ref 38), some (.int (nI n)), none, none] [] h Q = Q none g := by
  have hp := cq_p H
  have hk := cq_k H
  have hT := ct_T (cq_t H)
  have s1 : Same h (pS h 172 (rCopy (gS h 172) (gS h 38))) := Same_pS (Or.inr rfl)
  have r1 : Rep τ (gS (pS h 172 (rCopy (gS h 172) (gS h 38))) 172) A := by
    rw [gS_pS]
    exact Rep_copy hk (cq_r H)
  have C0 := CQ_same s1 H
  have cc := fun (Q : QT) => c_copy (X := X) (d := d + 4) (Q := Q) is172 is38 (by decide) hp
  generalize pS h 172 (rCopy (gS h 172) (gS h 38)) = h1 at s1 r1 C0 cc
  obtain ⟨h2, n1, n2, n3, n4, n5, n6⟩ := c_noteG (X := X) (d := d + 3) (k := 0) (s := 0) (cq_p C0) hk (cq_a H) r1 (by omega)
  have key := q_loopI (fun i (g : HT) (Q : QT) => wq X (d + 5) 104 21 [some (.ref 171), some (.ref T), some (.ref 38), some (.int (nI n)), some (.int (nI (aCs τ A i))), some (.int (nI (i + 1)))] [] g Q) (fun i g => Same h g ∧ Noted τ A i g ∧ Rep τ (gS g 172) (aIt τ A i)) n (by
    intro i hi g hg
    obtain ⟨a1, a2, a3⟩ := hg
    have C1 := CQ_same a1 H
    obtain ⟨g1, f1, f2, f3⟩ := c_passF (X := X) (d := d) (a := 172) (cq_t C1) (cq_f C1) (it_ok hk (cq_a H) i) is172 a3
    have b1 := Same_tr a1 (Fr_Same (Or.inr rfl) f1)
    have C2 := CQ_same b1 H
    obtain ⟨g2, m1, m2, m3, m4, m5, m6⟩ := c_noteG (X := X) (d := d + 3) (k := i + 1) (s := nI (aCs τ A (i + 1))) (cq_p C2) hk (it_ok hk (cq_a H) (i + 1)) f2 (by omega)
    refine ⟨g2, ⟨Same_tr b1 m1, fun k hk2 => ?_, by rw [m2]; exact f2⟩, funext fun Q => ?_⟩
    · rw [m3, m4, m5]
      by_cases z : k = i + 1
      · subst z
        exact ⟨up_s, up_s, up_s⟩
      · rw [up_o z, up_o z, up_o z, f1.2 175 k (Or.inr (by omega)) (isP_ge (by omega)), f1.2 176 k (Or.inr (by omega)) (isP_ge (by omega)), f1.2 177 k (Or.inr (by omega)) (isP_ge (by omega))]
        exact a2 k (by omega)
    · have e1 : (nI n < nI (i + 1)) = False := eq_false (nI_nlt (by omega) (by omega))
      have e2 : (60 < nI (i + 1)) = False := eq_false (nI_nlt (a := 60) (by omega) (by omega))
      show wq X (d + 5) 104 21 _ _ _ _ = _
      rw [u104_21]
      simp only [u104_23, u104_24, u104_27, u104_29, u104_31, u104_34, u104_36, u104_37, u104_38, u104_41, u104_44, u104_45, u104_47, u104_48, u104_50, u104_52, u104_55, u104_58, eq_self, q_nl0, q_nlI, q_nlR, not_false_eq_true, q_nz0, q_nz1, q_zv0, q_zv1, q_tl1, q_tl0, q_wif, q_swc, q_swn, List.cons_append, List.nil_append, if_true, if_false, e10, e01, Bool.false_eq_true, sh_171, shT_0 hT, e1, e2, p_171_0 (cq_p C1), f3, nI_add, nI_1]
      rw [← aCs_s, m6]
      simp only [u104_55, u104_58, eq_self, q_nl0, q_nlI, q_nlR, not_false_eq_true, q_nz0, q_nz1, q_zv0, q_zv1, q_tl1, q_tl0, q_wif, q_swc, q_swn, List.cons_append, List.nil_append, if_true, if_false, e10, e01, Bool.false_eq_true, nI_1]) h2 (by
    refine ⟨Same_tr s1 n1, fun k hk2 => ?_, by rw [n2]; exact r1⟩
    have : k = 0 := by omega
    subst this
    rw [n3, n4, n5]
    exact ⟨up_s, up_s, up_s⟩)
  obtain ⟨g, ⟨a1, a2, _⟩, e⟩ := key
  refine ⟨g, a1, a2, fun Q => ?_⟩
  have e' := congrFun e Q
  have n6' : ∀ Q : QT, wq X (d + 4) 106 0 [some (.ref 171), some (.int 0), some (.int 0), none] [] h1 Q = Q none h2 := n6
  simp only [u104_0, u104_1, u104_4, u104_5, u104_8, u104_9, u104_11, u104_12, u104_13, u104_15, u104_18, u104_19, eq_self, q_nl0, q_nlI, q_nlR, not_false_eq_true, q_nz0, q_nz1, q_zv0, q_zv1, q_tl1, q_tl0, q_wif, q_swc, q_swn, List.cons_append, List.nil_append, if_true, if_false, e10, e01, Bool.false_eq_true, sh_171, p_171_0 hp, shS_0 is172, cc, n6']
  refine Eq.trans e' ?_
  rw [u104_21]
  simp only [u104_23, u104_24, u104_61, eq_self, q_nl0, q_nlI, q_nlR, not_false_eq_true, q_nz0, q_nz1, q_zv0, q_zv1, q_tl1, q_tl0, q_wif, q_swc, q_swn, List.cons_append, List.nil_append, if_true, if_false, e10, e01, Bool.false_eq_true, eq_true (show nI n < nI (n + 1) from nI_lt (by omega) (by omega))]
