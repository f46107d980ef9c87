/-! THE MODEL'S STATE IN A FORMULA -/
def KF (h : HT) (R L : Nat) (V : Nat → Nat) (S : SF) (z : Nat) (P : Nat → Nat × Nat) (w : Nat) : Prop := TkK h L V S.1 ∧ (R < 2 ∧ m_gI h 195 41 = nI R) ∧ (m_gI h 195 4 = 0 ∧ m_gI h 195 5 = -1) ∧ (m_gI h 201 R = nI S.2.1 ∧ m_gI h 195 45 = nI S.2.1 ∧ S.2.1 ≤ 30) ∧ (m_gI h 195 42 = nI (560 * R + S.2.2.1) ∧ S.2.2.1 ≤ 560) ∧ (∀ i, i < S.2.2.1 → m_gI h 222 (560 * R + i) = nI (S.2.2.2 i).1 ∧ m_gI h 223 (560 * R + i) = nI (S.2.2.2 i).2) ∧ (m_gI h 195 44 = nI z ∧ z ≤ 90) ∧ (∀ i, i < z → m_gI h 224 i = nI (P i).1 ∧ m_gI h 225 i = nI (P i).2) ∧ m_gI h 195 43 = nI w
/-- where the model stands, on the text -/
def kAt (h : HT) : Prop := ∃ a z, m_gI h 195 6 = nI a ∧ m_gI h 195 3 = nI z ∧ a ≤ z ∧ z ≤ 1600
def KBd (h : HT) (e : Nat × Nat) : Prop := m_gI h 195 4 = nI e.1 ∧ (0 < e.1 ∧ e.1 < 10) ∧ m_gI h 195 5 = nI e.2 ∧ kAt h
theorem kAt_mis {h : HT} {L s : Nat} {V : Nat → Nat} {a b : Int32} (H : TkK h L V s) : kAt (m_sI (m_sI h 195 4 a) 195 5 b) := ⟨s, L, by rw [gI_sI, if_neg (by decide), gI_sI, if_neg (by decide)]; exact H.2.2.1, by rw [gI_sI, if_neg (by decide), gI_sI, if_neg (by decide)]; exact H.1.2.1, H.2.1, H.1.2.2.2.1⟩
/-- what the model may change while it reads a formula -/
def exE (R c k : Nat) : Prop := (c = 195 ∧ (4 ≤ k ∧ k ≤ 9 ∨ 42 ≤ k ∧ k ≤ 45)) ∨ (c = 201 ∧ k = R) ∨ ((c = 222 ∨ c = 223) ∧ 560 * R ≤ k ∧ k < 560 * R + 560) ∨ c = 224 ∨ c = 225
def FrE (R : Nat) (h g : HT) : Prop := (∀ c k, m_gR g c k = m_gR h c k) ∧ (∀ c k, ¬ exE R c k → m_gI g c k = m_gI h c k) ∧ ∀ c k, c ≠ 195 ∨ k ≠ 10 → m_gL g c k = m_gL h c k
theorem FrE_rf {R : Nat} {h : HT} : FrE R h h := ⟨fun _ _ => rfl, fun _ _ _ => rfl, fun _ _ _ => rfl⟩
theorem FrE_tr {R : Nat} {h g f : HT} (a : FrE R h g) (b : FrE R g f) : FrE R h f := ⟨fun c k => (b.1 c k).trans (a.1 c k), fun c k x => (b.2.1 c k x).trans (a.2.1 c k x), fun c k x => (b.2.2 c k x).trans (a.2.2 c k x)⟩
theorem FrE_K {R : Nat} {h g : HT} (a : FrK h g) : FrE R h g := ⟨a.1, fun c k x => a.2.1 c k (by unfold exE at x; omega), a.2.2⟩
theorem FrE_s {R c k : Nat} {h : HT} {v : Int32} (e : exE R c k) : FrE R h (m_sI h c k v) := ⟨fun _ _ => rfl, fun x j n => by
  rw [gI_sI, if_neg]
  rintro ⟨rfl, rfl⟩
  exact n e, fun _ _ _ => rfl⟩
theorem TkK_eq {h g : HT} {L s : Nat} {V : Nat → Nat} (r : ∀ c k, m_gR g c k = m_gR h c k) (e : ∀ c k, c = 195 ∧ (k = 3 ∨ 6 ≤ k ∧ k ≤ 9) ∨ c = 197 → m_gI g c k = m_gI h c k) (l : m_gL g 195 10 = m_gL h 195 10) (H : TkK h L V s) : TkK g L V s := by
  obtain ⟨⟨h1, h2, h3, h4⟩, h5, h6, h7, h8, h9, h10⟩ := H
  exact ⟨⟨Ptr_of h1 r, (e 195 3 (by omega)).trans h2, fun i hi => (e 197 i (by omega)).trans (h3 i hi), h4⟩, h5, (e 195 6 (by omega)).trans h6, (e 195 7 (by omega)).trans h7, (e 195 8 (by omega)).trans h8, fun z => l.trans (h9 z), fun z => (e 195 9 (by omega)).trans (h10 z)⟩
theorem k_misp {X : XT} {d L s : Nat} {h : HT} {V : Nat → Nat} (H : TkK h L V s) (h4 : m_gI h 195 4 = 0 ∧ m_gI h 195 5 = -1) (Q : QT) : wq X (d + 1) 201 0 [some (.ref 195)] [] h Q = Q none (m_sI (m_sI h 195 4 (nI (kdO V L s 2))) 195 5 (nI s)) := by
  have e1 : (nI (mK V L s) = 1) = (tK V L s = 4) := by
    rw [← mK_b]
    exact nI_eqB (b := 1) (by have := mK_5 (V := V) (L := L) (s := s); omega) (by decide)
  unfold kdO
  by_cases z : tK V L s = 4
  · rw [if_pos z]
    simp only [u201_0, u201_1, u201_2, u201_5, u201_6, u201_9, u201_10, u201_13, u201_14, u201_15, u201_18, u201_21, u202_0, u202_1, u202_4, u202_7, u202_8, u202_9, u202_10, u202_13, u202_14, u202_15, u202_18, eq_self, q_nl0, q_nlI, q_nlR, not_false_eq_true, q_nz0, q_nz1, q_zv0, q_zv1, q_tl1, q_tl0, q_wif, q_swc, q_swn, List.cons_append, List.nil_append, if_true, if_false, e10, e01, Bool.false_eq_true, sh_195, H.2.2.2.2.1, H.2.2.1, e1, eq_true z, h4, show ((0 : Int32) < 0) = False from eq_false (by decide)]
    rfl
  · rw [if_neg z]
    simp only [u201_0, u201_1, u201_2, u201_5, u201_6, u201_9, u201_10, u201_13, u201_14, u201_15, u201_18, u201_21, u202_0, u202_1, u202_4, u202_7, u202_8, u202_9, u202_10, u202_13, u202_14, u202_15, u202_18, eq_self, q_nl0, q_nlI, q_nlR, not_false_eq_true, q_nz0, q_nz1, q_zv0, q_zv1, q_tl1, q_tl0, q_wif, q_swc, q_swn, List.cons_append, List.nil_append, if_true, if_false, e10, e01, Bool.false_eq_true, sh_195, H.2.2.2.2.1, H.2.2.1, e1, eq_false z, h4, show ((0 : Int32) < 0) = False from eq_false (by decide)]
    rfl
theorem KBd_misp {R L s : Nat} {h : HT} {V : Nat → Nat} (H : TkK h L V s) : FrE R h (m_sI (m_sI h 195 4 (nI (kdO V L s 2))) 195 5 (nI s)) ∧ KBd (m_sI (m_sI h 195 4 (nI (kdO V L s 2))) 195 5 (nI s)) (kdO V L s 2, s) := by
  refine ⟨FrE_tr (FrE_s (by unfold exE; omega)) (FrE_s (by unfold exE; omega)), ?_, ?_, ?_, kAt_mis H⟩
  · rw [gI_sI, if_neg (by decide), gI_sI, if_pos ⟨rfl, rfl⟩]
  · show 0 < kdO V L s 2 ∧ kdO V L s 2 < 10
    unfold kdO
    split <;> omega
  · rw [gI_sI, if_pos ⟨rfl, rfl⟩]
theorem KF_av {X : XT} {d R L z w : Nat} {h : HT} {V : Nat → Nat} {S : SF} {P : Nat → Nat × Nat} (H : KF h R L V S z P w) : ∃ g, FrE R h g ∧ KF g R L V (avS V L S) z P w ∧ ∀ Q : QT, wq X (d + 2) 191 0 [some (.ref 195), none, none] [] h Q = Q none g := by
  obtain ⟨H1, ⟨H2, H2'⟩, H3, ⟨H4, H4', H4''⟩, ⟨H5, H5'⟩, H6, ⟨H7, H7'⟩, H8, H9⟩ := H
  obtain ⟨g, a1, a2, a3⟩ := k_goOn (X := X) (d := d) H1.1 (tE_L H1.2.1) H1.2.2.2.1
  have e : ∀ c k, c ≠ 195 ∨ k < 6 ∨ 9 < k → m_gI g c k = m_gI h c k := a1.2.1
  exact ⟨g, FrE_K a1, ⟨a2, ⟨H2, (e 195 41 (by omega)).trans H2'⟩, ⟨(e 195 4 (by omega)).trans H3.1, (e 195 5 (by omega)).trans H3.2⟩, ⟨(e 201 R (by omega)).trans H4, (e 195 45 (by omega)).trans H4', H4''⟩, ⟨(e 195 42 (by omega)).trans H5, H5'⟩, fun i hi => ⟨(e 222 _ (by omega)).trans (H6 i hi).1, (e 223 _ (by omega)).trans (H6 i hi).2⟩, ⟨(e 195 44 (by omega)).trans H7, H7'⟩, fun i hi => ⟨(e 224 i (by omega)).trans (H8 i hi).1, (e 225 i (by omega)).trans (H8 i hi).2⟩, (e 195 43 (by omega)).trans H9⟩, a3⟩
/-- one cell changed that the state doesn't tell of, but for what is told anew -/
theorem KF_set {R L z w z' w' : Nat} {h g : HT} {V : Nat → Nat} {S S' : SF} {P P' : Nat → Nat × Nat} (H : KF h R L V S z P w) (r : ∀ c k, m_gR g c k = m_gR h c k) (l : m_gL g 195 10 = m_gL h 195 10) (hs : S'.1 = S.1) (e : ∀ c k, c = 195 ∧ (k = 3 ∨ 6 ≤ k ∧ k ≤ 9 ∨ k = 41 ∨ k = 4 ∨ k = 5) ∨ c = 197 → m_gI g c k = m_gI h c k) (x1 : m_gI g 201 R = nI S'.2.1 ∧ m_gI g 195 45 = nI S'.2.1 ∧ S'.2.1 ≤ 30) (x2 : m_gI g 195 42 = nI (560 * R + S'.2.2.1) ∧ S'.2.2.1 ≤ 560) (x3 : ∀ i, i < S'.2.2.1 → m_gI g 222 (560 * R + i) = nI (S'.2.2.2 i).1 ∧ m_gI g 223 (560 * R + i) = nI (S'.2.2.2 i).2) (x4 : m_gI g 195 44 = nI z' ∧ z' ≤ 90) (x5 : ∀ i, i < z' → m_gI g 224 i = nI (P' i).1 ∧ m_gI g 225 i = nI (P' i).2) (x6 : m_gI g 195 43 = nI w') : KF g R L V S' z' P' w' := by
  refine ⟨?_, ⟨H.2.1.1, (e 195 41 (by omega)).trans H.2.1.2⟩, ⟨(e 195 4 (by omega)).trans H.2.2.1.1, (e 195 5 (by omega)).trans H.2.2.1.2⟩, x1, x2, x3, x4, x5, x6⟩
  rw [hs]
  exact TkK_eq r (fun c k y => e c k (by omega)) l H.1
def pu (P : Nat → Nat × Nat) (z a b : Nat) : Nat → Nat × Nat := fun i => if i = z then (a, b) else P i
theorem KF_push {X : XT} {d R L z w a b : Nat} {h : HT} {V : Nat → Nat} {S : SF} {P : Nat → Nat × Nat} (H : KF h R L V S z P w) (hz : z < 90) : ∃ g, FrE R h g ∧ KF g R L V S (z + 1) (pu P z a b) w ∧ ∀ Q : QT, wq X d 215 0 [some (.ref 195), some (.int (nI a)), some (.int (nI b))] [] h Q = Q none g := by
  have H0 := H
  obtain ⟨H1, ⟨H2, H2'⟩, H3, ⟨H4, H4', H4''⟩, ⟨H5, H5'⟩, H6, ⟨H7, H7'⟩, H8, H9⟩ := H
  have hp := H1.1.1
  have c2 : m_in (nI z) 90 = true := q_in hz (by decide)
  have c3 : (nI z).toNatClampNeg = z := q_cl (by omega)
  have fr : ∀ c k, c ≠ 224 → c ≠ 225 → ¬ (c = 195 ∧ k = 44) → m_gI (m_sI (m_sI (m_sI h 224 z (nI a)) 225 z (nI b)) 195 44 (nI (z + 1))) c k = m_gI h c k := fun c k x1 x2 x3 => by
    rw [gI_sI, if_neg x3, gI_sI, if_neg (fun q => x2 q.1), gI_sI, if_neg (fun q => x1 q.1)]
  refine ⟨m_sI (m_sI (m_sI h 224 z (nI a)) 225 z (nI b)) 195 44 (nI (z + 1)), FrE_tr (FrE_s (by unfold exE; omega)) (FrE_tr (FrE_s (by unfold exE; omega)) (FrE_s (by unfold exE; omega))), ?_, fun Q => ?_⟩
  · refine KF_set H0 (fun _ _ => rfl) rfl rfl (fun c k y => fr c k (by omega) (by omega) (by omega)) ⟨(fr 201 R (by omega) (by omega) (by omega)).trans H4, (fr 195 45 (by omega) (by omega) (by omega)).trans H4', H4''⟩ ⟨(fr 195 42 (by omega) (by omega) (by omega)).trans H5, H5'⟩ (fun i hi => ⟨(fr 222 _ (by omega) (by omega) (by omega)).trans (H6 i hi).1, (fr 223 _ (by omega) (by omega) (by omega)).trans (H6 i hi).2⟩) ⟨?_, hz⟩ (fun i hi => ?_) ((fr 195 43 (by omega) (by omega) (by omega)).trans H9)
    · rw [gI_sI, if_pos ⟨rfl, rfl⟩]
    · refine ⟨?_, ?_⟩
      · rw [gI_sI, if_neg (by omega), gI_sI, if_neg (by omega), gI_sI]
        show (if 224 = 224 ∧ i = z then nI a else m_gI h 224 i) = nI (if i = z then (a, b) else P i).1
        by_cases y : i = z
        · rw [if_pos ⟨rfl, y⟩, if_pos y]
        · rw [if_neg (fun q => y q.2), if_neg y]
          exact (H8 i (by omega)).1
      · rw [gI_sI, if_neg (by omega), gI_sI]
        show (if 225 = 225 ∧ i = z then nI b else m_gI (m_sI h 224 z (nI a)) 225 i) = nI (if i = z then (a, b) else P i).2
        by_cases y : i = z
        · rw [if_pos ⟨rfl, y⟩, if_pos y]
        · rw [if_neg (fun q => y q.2), if_neg y, gI_sI, if_neg (by omega)]
          exact (H8 i (by omega)).2
  · have g1 : ∀ v, m_gI (m_sI h 224 z v) 195 44 = nI z := fun v => by rw [gI_sI, if_neg (by omega), H7]
    have g2 : ∀ v u, m_gI (m_sI (m_sI h 224 z v) 225 z u) 195 44 = nI z := fun v u => by rw [gI_sI, if_neg (by omega), g1]
    simp only [u215_0, u215_1, u215_4, u215_5, u215_8, u215_9, u215_10, u215_11, u215_14, u215_15, u215_18, u215_19, u215_20, u215_21, u215_22, u215_25, u215_26, u215_27, u215_30, eq_self, q_nl0, q_nlI, q_nlR, not_false_eq_true, q_nz0, q_nz1, q_zv0, q_zv1, q_tl1, q_tl0, q_wif, q_swc, q_swn, List.cons_append, List.nil_append, if_true, if_false, e10, e01, Bool.false_eq_true, sh_195, sh_224, sh_225, p_195_37 hp, p_195_38 hp, gR_sI, H7, c2, c3, g1, g2, nI_1]
theorem KF_emit {X : XT} {d R L z w a b : Nat} {h : HT} {V : Nat → Nat} {S : SF} {P : Nat → Nat × Nat} (H : KF h R L V S z P w) (hn : S.2.2.1 < 560) : ∃ g, FrE R h g ∧ KF g R L V (adS a b S) z P w ∧ ∀ Q : QT, wq X d 219 0 [some (.ref 195), some (.int (nI a)), some (.int (nI b))] [] h Q = Q none g := by
  have H0 := H
  obtain ⟨s, u, n, κ⟩ := S
  obtain ⟨H1, ⟨H2, H2'⟩, H3, ⟨H4, H4', H4''⟩, ⟨H5, H5'⟩, H6, ⟨H7, H7'⟩, H8, H9⟩ := H
  have hn : n < 560 := hn
  have H5 : m_gI h 195 42 = nI (560 * R + n) := H5
  have hp := H1.1.1
  have c2 : m_in (nI (560 * R + n)) 1120 = true := q_in (by omega) (by decide)
  have c3 : (nI (560 * R + n)).toNatClampNeg = 560 * R + n := q_cl (by omega)
  have ea : adS a b (s, u, n, κ) = (s, u, n + 1, fun i => if i = n then (a, b) else κ i) := if_pos (show n < 1600 by omega)
  have fr : ∀ c k, c ≠ 222 → c ≠ 223 → ¬ (c = 195 ∧ k = 42) → m_gI (m_sI (m_sI (m_sI h 222 (560 * R + n) (nI a)) 223 (560 * R + n) (nI b)) 195 42 (nI (560 * R + n + 1))) c k = m_gI h c k := fun c k x1 x2 x3 => by
    rw [gI_sI, if_neg x3, gI_sI, if_neg (fun q => x2 q.1), gI_sI, if_neg (fun q => x1 q.1)]
  refine ⟨m_sI (m_sI (m_sI h 222 (560 * R + n) (nI a)) 223 (560 * R + n) (nI b)) 195 42 (nI (560 * R + n + 1)), FrE_tr (FrE_s (by unfold exE; omega)) (FrE_tr (FrE_s (by unfold exE; omega)) (FrE_s (by unfold exE; omega))), ?_, fun Q => ?_⟩
  · rw [ea]
    refine KF_set H0 (fun _ _ => rfl) rfl rfl (fun c k y => fr c k (by omega) (by omega) (by omega)) ⟨(fr 201 R (by omega) (by omega) (by omega)).trans H4, (fr 195 45 (by omega) (by omega) (by omega)).trans H4', H4''⟩ ⟨?_, hn⟩ (fun i hi => ?_) ⟨(fr 195 44 (by omega) (by omega) (by omega)).trans H7, H7'⟩ (fun i hi => ⟨(fr 224 _ (by omega) (by omega) (by omega)).trans (H8 i hi).1, (fr 225 _ (by omega) (by omega) (by omega)).trans (H8 i hi).2⟩) ((fr 195 43 (by omega) (by omega) (by omega)).trans H9)
    · rw [gI_sI, if_pos ⟨rfl, rfl⟩]
      rfl
    · have hi : i < n + 1 := hi
      refine ⟨?_, ?_⟩
      · rw [gI_sI, if_neg (by omega), gI_sI, if_neg (by omega), gI_sI]
        show (if 222 = 222 ∧ 560 * R + i = 560 * R + n then nI a else m_gI h 222 (560 * R + i)) = nI (if i = n then (a, b) else κ i).1
        by_cases y : i = n
        · rw [if_pos ⟨rfl, by rw [y]⟩, if_pos y]
        · rw [if_neg (fun q => y (by omega)), if_neg y]
          exact (H6 i (show i < n by omega)).1
      · rw [gI_sI, if_neg (by omega), gI_sI]
        show (if 223 = 223 ∧ 560 * R + i = 560 * R + n then nI b else m_gI (m_sI h 222 (560 * R + n) (nI a)) 223 (560 * R + i)) = nI (if i = n then (a, b) else κ i).2
        by_cases y : i = n
        · rw [if_pos ⟨rfl, by rw [y]⟩, if_pos y]
        · rw [if_neg (fun q => y (by omega)), if_neg y, gI_sI, if_neg (by omega)]
          exact (H6 i (show i < n by omega)).2
  · have g1 : ∀ v, m_gI (m_sI h 222 (560 * R + n) v) 195 42 = nI (560 * R + n) := fun v => by rw [gI_sI, if_neg (by omega), H5]
    have g2 : ∀ v u, m_gI (m_sI (m_sI h 222 (560 * R + n) v) 223 (560 * R + n) u) 195 42 = nI (560 * R + n) := fun v u => by rw [gI_sI, if_neg (by omega), g1]
    simp only [u219_0, u219_1, u219_4, u219_5, u219_8, u219_9, u219_10, u219_11, u219_14, u219_15, u219_18, u219_19, u219_20, u219_21, u219_22, u219_25, u219_26, u219_27, u219_30, eq_self, q_nl0, q_nlI, q_nlR, not_false_eq_true, q_nz0, q_nz1, q_zv0, q_zv1, q_tl1, q_tl0, q_wif, q_swc, q_swn, List.cons_append, List.nil_append, if_true, if_false, e10, e01, Bool.false_eq_true, sh_195, sh_222, sh_223, p_195_35 hp, p_195_36 hp, gR_sI, H5, c2, c3, g1, g2, nI_1]
theorem KF_up {R L z w : Nat} {h : HT} {V : Nat → Nat} {S : SF} {P : Nat → Nat × Nat} (H : KF h R L V S z P w) (hu : S.2.1 < 30) : FrE R h (m_sI (m_sI h 201 R (nI (S.2.1 + 1))) 195 45 (nI (S.2.1 + 1))) ∧ KF (m_sI (m_sI h 201 R (nI (S.2.1 + 1))) 195 45 (nI (S.2.1 + 1))) R L V (upU S) z P w := by
  have H0 := H
  obtain ⟨H1, ⟨H2, H2'⟩, H3, ⟨H4, H4', H4''⟩, ⟨H5, H5'⟩, H6, ⟨H7, H7'⟩, H8, H9⟩ := H
  have fr : ∀ c k, c ≠ 201 → ¬ (c = 195 ∧ k = 45) → m_gI (m_sI (m_sI h 201 R (nI (S.2.1 + 1))) 195 45 (nI (S.2.1 + 1))) c k = m_gI h c k := fun c k x1 x2 => by
    rw [gI_sI, if_neg x2, gI_sI, if_neg (fun q => x1 q.1)]
  refine ⟨FrE_tr (FrE_s (by unfold exE; omega)) (FrE_s (by unfold exE; omega)), KF_set H0 (fun _ _ => rfl) rfl rfl (fun c k y => fr c k (by omega) (by omega)) ⟨?_, ?_, hu⟩ ⟨(fr 195 42 (by omega) (by omega)).trans H5, H5'⟩ (fun i hi => ⟨(fr 222 _ (by omega) (by omega)).trans (H6 i hi).1, (fr 223 _ (by omega) (by omega)).trans (H6 i hi).2⟩) ⟨(fr 195 44 (by omega) (by omega)).trans H7, H7'⟩ (fun i hi => ⟨(fr 224 _ (by omega) (by omega)).trans (H8 i hi).1, (fr 225 _ (by omega) (by omega)).trans (H8 i hi).2⟩) ((fr 195 43 (by omega) (by omega)).trans H9)⟩
  · rw [gI_sI, if_neg (by omega), gI_sI, if_pos ⟨rfl, rfl⟩]
    rfl
  · rw [gI_sI, if_pos ⟨rfl, rfl⟩]
    rfl
theorem KF_w {R L z w w' : Nat} {h : HT} {V : Nat → Nat} {S : SF} {P : Nat → Nat × Nat} (H : KF h R L V S z P w) : FrE R h (m_sI h 195 43 (nI w')) ∧ KF (m_sI h 195 43 (nI w')) R L V S z P w' := by
  have H0 := H
  obtain ⟨H1, ⟨H2, H2'⟩, H3, ⟨H4, H4', H4''⟩, ⟨H5, H5'⟩, H6, ⟨H7, H7'⟩, H8, H9⟩ := H
  have fr : ∀ c k, ¬ (c = 195 ∧ k = 43) → m_gI (m_sI h 195 43 (nI w')) c k = m_gI h c k := fun c k x => by rw [gI_sI, if_neg x]
  refine ⟨FrE_s (by unfold exE; omega), KF_set H0 (fun _ _ => rfl) rfl rfl (fun c k y => fr c k (by omega)) ⟨(fr 201 R (by omega)).trans H4, (fr 195 45 (by omega)).trans H4', H4''⟩ ⟨(fr 195 42 (by omega)).trans H5, H5'⟩ (fun i hi => ⟨(fr 222 _ (by omega)).trans (H6 i hi).1, (fr 223 _ (by omega)).trans (H6 i hi).2⟩) ⟨(fr 195 44 (by omega)).trans H7, H7'⟩ (fun i hi => ⟨(fr 224 _ (by omega)).trans (H8 i hi).1, (fr 225 _ (by omega)).trans (H8 i hi).2⟩) ?_⟩
  rw [gI_sI, if_pos ⟨rfl, rfl⟩]
theorem KF_z {R L z z' w : Nat} {h : HT} {V : Nat → Nat} {S : SF} {P : Nat → Nat × Nat} (H : KF h R L V S z P w) (hz : z' ≤ z) : FrE R h (m_sI h 195 44 (nI z')) ∧ KF (m_sI h 195 44 (nI z')) R L V S z' P w := by
  have H0 := H
  obtain ⟨H1, ⟨H2, H2'⟩, H3, ⟨H4, H4', H4''⟩, ⟨H5, H5'⟩, H6, ⟨H7, H7'⟩, H8, H9⟩ := H
  have fr : ∀ c k, ¬ (c = 195 ∧ k = 44) → m_gI (m_sI h 195 44 (nI z')) c k = m_gI h c k := fun c k x => by rw [gI_sI, if_neg x]
  refine ⟨FrE_s (by unfold exE; omega), KF_set H0 (fun _ _ => rfl) rfl rfl (fun c k y => fr c k (by omega)) ⟨(fr 201 R (by omega)).trans H4, (fr 195 45 (by omega)).trans H4', H4''⟩ ⟨(fr 195 42 (by omega)).trans H5, H5'⟩ (fun i hi => ⟨(fr 222 _ (by omega)).trans (H6 i hi).1, (fr 223 _ (by omega)).trans (H6 i hi).2⟩) ⟨?_, by omega⟩ (fun i hi => ⟨(fr 224 _ (by omega)).trans (H8 i (by omega)).1, (fr 225 _ (by omega)).trans (H8 i (by omega)).2⟩) ((fr 195 43 (by omega)).trans H9)⟩
  rw [gI_sI, if_pos ⟨rfl, rfl⟩]
