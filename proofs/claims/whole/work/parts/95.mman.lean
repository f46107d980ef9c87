/-! THE MODEL'S LINE OF A MAN -/
theorem pc_up : ∀ t, t < 16 → ∀ f, f < 4 → t.testBit f = false → pcN (t ||| 2 ^ f) = pcN t + 1 ∧ pcN t < 4 := by decide +kernel
/-- what the crafts' names of a man may change -/
def FrN (R n : Nat) (h g : HT) : Prop := (∀ c k, m_gR g c k = m_gR h c k) ∧ (∀ c k, ¬ (c = 195 ∧ 4 ≤ k ∧ k ≤ 9) → ¬ (c = 208 ∧ k = 7 * R + n) → m_gI g c k = m_gI h c k) ∧ ∀ c k, c ≠ 195 ∨ k ≠ 10 → m_gL g c k = m_gL h c k
theorem FrN_tr {R n : Nat} {h g f : HT} (a : FrN R n h g) (b : FrN R n g f) : FrN R n h f := ⟨fun c k => (b.1 c k).trans (a.1 c k), fun c k x y => (b.2.1 c k x y).trans (a.2.1 c k x y), fun c k x => (b.2.2 c k x).trans (a.2.2 c k x)⟩
theorem FrN_M {R n : Nat} {h g : HT} (a : FrM h g) : FrN R n h g := ⟨a.1, fun c k x _ => a.2.1 c k x, a.2.2⟩
theorem k_mstep {X : XT} {d R n n0 L t s : Nat} {V ν : Nat → Nat} {h : HT} {y : Option Value} (hR : R < 2) (hn : n < 7) (h4 : n0 ≤ 4) (hν : nmK ν n0) (ht : t < 16) (H : KP h L V (.inr s)) (h41 : m_gI h 195 41 = nI R) (h198 : m_gI h 198 R = nI n0) (hm : ∀ i, i < n0 → m_gL h 219 (4 * R + i) = nL (cv (ν i))) (h208 : m_gI h 208 (7 * R + n) = nI t) : ∃ g, FrN R n h g ∧ KP g L V (cnP V L ν n0 t (.inr s)).1 ∧ ((∃ e, (cnP V L ν n0 t (.inr s)).1 = .inl e ∧ ∀ Q : QT, wq X (d + 5) 210 75 [some (.ref 195), some (.int (nI (7 * R + n))), some (.int 1), y] [] h Q = Q none g) ∨ ∃ s' x, (cnP V L ν n0 t (.inr s)).1 = .inr s' ∧ m_gI g 208 (7 * R + n) = nI (t ||| (cnP V L ν n0 t (.inr s)).2) ∧ ∀ Q : QT, wq X (d + 5) 210 75 [some (.ref 195), some (.int (nI (7 * R + n))), some (.int 1), y] [] h Q = wq X (d + 5) 210 75 [some (.ref 195), some (.int (nI (7 * R + n))), some (.int (if isN V L s' = true then 1 else 0)), some (.int x)] [] g Q) := by
  have kt : TkK h L V s := H.1
  have hp : Ptr h := kt.1.1
  have hh := fun (Q : QT) => k_craftHere (X := X) (d := d + 3) (ν := ν) (n := n0) kt hR h41 h198 h4 hν hm Q
  have mC : m_in (nI (7 * R + n)) 14 = true := q_in (by omega) (by decide)
  have cC : (nI (7 * R + n)).toNatClampNeg = 7 * R + n := q_cl (by omega)
  by_cases z : isN V L s = true
  · by_cases w : fp (wP ν (wd V L s)) n0 0 < n0
    · have eh : hrI V L ν n0 s = nI (fp (wP ν (wd V L s)) n0 0) := (if_pos z).trans (if_pos w)
      have eb := nI_bit4 t (by omega) (fp (wP ν (wd V L s)) n0 0) (by omega)
      have e0 : (nI (fp (wP ν (wd V L s)) n0 0) < 0) = False := eq_false (nI_nlt (b := 0) (Nat.zero_le _) (by omega))
      rw [eh] at hh
      by_cases x : t.testBit (fp (wP ν (wd V L s)) n0 0) = true
      · obtain ⟨b1, b2⟩ := KP_mis (L := L) (s := s) (h := h) (V := V) (k := 3) (by decide) H.1
        rw [show cnP V L ν n0 t (.inr s) = (.inl (kdO V L s 3, s), 0) from (if_pos z).trans ((if_pos w).trans (if_pos x))]
        rw [kdO_N z] at b1 b2 ⊢
        have kf : ∀ Q : QT, wq X (d + 4) 202 0 [some (.ref 195), some (.int 3), some (.int (nI s))] [] h Q = Q none (m_sI (m_sI h 195 4 (nI 3)) 195 5 (nI s)) := fun Q => k_fail H.2 Q
        refine ⟨_, FrN_M b1, b2, Or.inl ⟨_, rfl, fun Q => ?_⟩⟩
        simp only [u210_75, u210_76, u210_79, u210_80, u210_83, u210_84, u210_85, u210_88, u210_89, u210_92, u210_93, u210_94, u210_95, u210_96, u210_97, u210_98, u210_99, u210_102, u210_103, u210_104, u210_105, u210_108, u210_111, u210_112, u210_113, u210_116, u210_117, u210_118, u210_121, u210_124, eq_self, q_nl0, q_nlI, q_nlR, not_false_eq_true, q_nz0, q_nz1, q_zv0, q_zv1, q_tl1, q_tl0, q_wif, q_swc, q_swn, List.cons_append, List.nil_append, if_true, if_false, e10, e01, Bool.false_eq_true, sh_195, sh_208, p_195_21 hp, hh, e0, mC, cC, h208, eb, x, kt.2.2.1, kf, k_knownB b2, k_ngood b2, Option.toList, show ¬ ((1 : Int32) = 0) by decide]
      · obtain ⟨g, v, a1, a2, a3, a4⟩ := k_known (X := X) (d := d + 1) (ν := ν) (n := n0) H (by omega)
        have a3 := a3 w z
        subst a3
        rw [eh] at a4
        rw [show knP V L ν n0 s = .inr (nx V L s) from (if_pos z).trans (if_pos w)] at a2
        rw [show cnP V L ν n0 t (.inr s) = (.inr (nx V L s), 2 ^ fp (wP ν (wd V L s)) n0 0) from (if_pos z).trans ((if_pos w).trans (if_neg x))]
        have hp1 : Ptr g := Ptr_of hp a1.1
        have a5 := KP_sI (c := 208) (k := 7 * R + n) (v := nI (t ||| 2 ^ fp (wP ν (wd V L s)) n0 0)) a2 (by decide)
        have e8 : m_gI (m_sI g 208 (7 * R + n) (nI (t ||| 2 ^ fp (wP ν (wd V L s)) n0 0))) 195 8 = nI (mK V L (nx V L s)) := a5.1.2.2.2.2.1
        have e2 : (nI (mK V L (nx V L s)) = 2) = (isN V L (nx V L s) = true) := by
          rw [← mK_m]
          exact nI_eqB (b := 2) (by have := mK_5 (V := V) (L := L) (s := nx V L s); omega) (by decide)
        have g208 : m_gI g 208 (7 * R + n) = nI t := (a1.2.1 _ _ (by omega)).trans h208
        refine ⟨m_sI g 208 (7 * R + n) (nI (t ||| 2 ^ fp (wP ν (wd V L s)) n0 0)), ⟨a1.1, fun c k p q => by rw [gI_sI, if_neg q]; exact a1.2.1 c k p, a1.2.2⟩, a5, Or.inr ⟨nx V L s, nI (fp (wP ν (wd V L s)) n0 0), rfl, by rw [gI_sI, if_pos ⟨rfl, rfl⟩], fun Q => ?_⟩⟩
        rw [u210_75]
        generalize hz : wq X (d + 5) 210 75 [some (.ref 195), some (.int (nI (7 * R + n))), some (.int (if isN V L (nx V L s) = true then 1 else 0)), some (.int (nI (fp (wP ν (wd V L s)) n0 0)))] [] (m_sI g 208 (7 * R + n) (nI (t ||| 2 ^ fp (wP ν (wd V L s)) n0 0))) Q = Z
        simp only [u210_76, u210_79, u210_80, u210_83, u210_84, u210_85, u210_88, u210_89, u210_92, u210_93, u210_94, u210_95, u210_96, u210_97, u210_98, u210_99, u210_102, u210_103, u210_104, u210_105, u210_108, u210_111, u210_112, u210_113, eq_self, q_nl0, q_nlI, q_nlR, not_false_eq_true, q_nz0, q_nz1, q_zv0, q_zv1, q_tl1, q_tl0, q_wif, q_swc, q_swn, List.cons_append, List.nil_append, if_true, if_false, e10, e01, Bool.false_eq_true, sh_195, sh_208, p_195_21 hp, hh, e0, mC, cC, h208, eb, x, Option.toList, show ¬ ((1 : Int32) = 0) by decide]
        refine (a4 _).trans ?_
        by_cases u : isN V L (nx V L s) = true
        · rw [if_pos u] at hz
          simp only [u210_116, u210_117, u210_118, u210_121, u210_124, u210_125, u210_126, u210_129, u210_130, u210_131, u210_132, u210_133, u210_134, u210_135, u210_136, u210_137, u210_138, u210_141, u210_142, u210_145, u210_146, u210_149, u210_150, u210_151, eq_self, q_nl0, q_nlI, q_nlR, not_false_eq_true, q_nz0, q_nz1, q_zv0, q_zv1, q_tl1, q_tl0, q_wif, q_swc, q_swn, List.cons_append, List.nil_append, if_true, if_false, e10, e01, Bool.false_eq_true, sh_195, sh_208, p_195_21 hp1, k_good a2.2, g208, mC, cC, nI_sh _ (show fp (wP ν (wd V L s)) n0 0 < 8 by omega), nI_or, e8, e2, u, Option.toList, show ¬ ((1 : Int32) = 0) by decide]
          exact hz
        · rw [if_neg u] at hz
          simp only [u210_116, u210_117, u210_118, u210_121, u210_124, u210_125, u210_126, u210_129, u210_130, u210_131, u210_132, u210_133, u210_134, u210_135, u210_136, u210_137, u210_138, u210_141, u210_142, u210_145, u210_146, u210_149, u210_150, u210_151, eq_self, q_nl0, q_nlI, q_nlR, not_false_eq_true, q_nz0, q_nz1, q_zv0, q_zv1, q_tl1, q_tl0, q_wif, q_swc, q_swn, List.cons_append, List.nil_append, if_true, if_false, e10, e01, Bool.false_eq_true, sh_195, sh_208, p_195_21 hp1, k_good a2.2, g208, mC, cC, nI_sh _ (show fp (wP ν (wd V L s)) n0 0 < 8 by omega), nI_or, e8, e2, u, Option.toList, show ¬ ((1 : Int32) = 0) by decide]
          exact hz
    · obtain ⟨g, v, a1, a2, a3, a4⟩ := k_known (X := X) (d := d + 1) (ν := ν) (n := n0) H (by omega)
      have eh : hrI V L ν n0 s = -1 := (if_pos z).trans (if_neg w)
      rw [eh] at a4 hh
      rw [show knP V L ν n0 s = .inl (kdO V L s 5, s) from (if_pos z).trans (if_neg w)] at a2
      rw [show cnP V L ν n0 t (.inr s) = (.inl (kdO V L s 5, s), 0) from (if_pos z).trans (if_neg w)]
      have a2 : KBd g (kdO V L s 5, s) := a2
      refine ⟨g, FrN_M a1, a2, Or.inl ⟨_, rfl, fun Q => ?_⟩⟩
      simp only [u210_75, u210_76, u210_79, u210_80, u210_83, u210_84, u210_85, u210_88, u210_89, u210_92, u210_93, u210_94, u210_95, u210_96, u210_97, u210_98, u210_99, u210_102, u210_103, u210_104, u210_105, u210_108, u210_111, u210_112, u210_113, eq_self, q_nl0, q_nlI, q_nlR, not_false_eq_true, q_nz0, q_nz1, q_zv0, q_zv1, q_tl1, q_tl0, q_wif, q_swc, q_swn, List.cons_append, List.nil_append, if_true, if_false, e10, e01, Bool.false_eq_true, sh_195, sh_208, hh, Option.toList, show ((-1 : Int32) < 0) = True from eq_true (by decide), show ¬ ((1 : Int32) = 0) by decide]
      refine (a4 _).trans ?_
      simp only [u210_116, u210_117, u210_118, u210_121, u210_124, eq_self, q_nl0, q_nlI, q_nlR, not_false_eq_true, q_nz0, q_nz1, q_zv0, q_zv1, q_tl1, q_tl0, q_wif, q_swc, q_swn, List.cons_append, List.nil_append, if_true, if_false, e10, e01, Bool.false_eq_true, sh_195, k_ngood a2, Option.toList]
  · obtain ⟨g, v, a1, a2, a3, a4⟩ := k_known (X := X) (d := d + 1) (ν := ν) (n := n0) H (by omega)
    have eh : hrI V L ν n0 s = -1 := if_neg z
    rw [eh] at a4 hh
    rw [show knP V L ν n0 s = .inl (kdO V L s 2, s) from if_neg z] at a2
    rw [show cnP V L ν n0 t (.inr s) = (.inl (kdO V L s 2, s), 0) from if_neg z]
    have a2 : KBd g (kdO V L s 2, s) := a2
    refine ⟨g, FrN_M a1, a2, Or.inl ⟨_, rfl, fun Q => ?_⟩⟩
    simp only [u210_75, u210_76, u210_79, u210_80, u210_83, u210_84, u210_85, u210_88, u210_89, u210_92, u210_93, u210_94, u210_95, u210_96, u210_97, u210_98, u210_99, u210_102, u210_103, u210_104, u210_105, u210_108, u210_111, u210_112, u210_113, eq_self, q_nl0, q_nlI, q_nlR, not_false_eq_true, q_nz0, q_nz1, q_zv0, q_zv1, q_tl1, q_tl0, q_wif, q_swc, q_swn, List.cons_append, List.nil_append, if_true, if_false, e10, e01, Bool.false_eq_true, sh_195, sh_208, hh, Option.toList, show ((-1 : Int32) < 0) = True from eq_true (by decide), show ¬ ((1 : Int32) = 0) by decide]
    refine (a4 _).trans ?_
    simp only [u210_116, u210_117, u210_118, u210_121, u210_124, eq_self, q_nl0, q_nlI, q_nlR, not_false_eq_true, q_nz0, q_nz1, q_zv0, q_zv1, q_tl1, q_tl0, q_wif, q_swc, q_swn, List.cons_append, List.nil_append, if_true, if_false, e10, e01, Bool.false_eq_true, sh_195, k_ngood a2, Option.toList]
theorem crL_e {V ν : Nat → Nat} {L n t : Nat} {e : Nat × Nat} : ∀ k, crL V L ν n k t (.inl e) = (.inl e, t)
  | 0 => rfl
  | _ + 1 => rfl
theorem k_mloop {X : XT} {d R n n0 L : Nat} {V ν : Nat → Nat} (hR : R < 2) (hn : n < 7) (h4 : n0 ≤ 4) (hν : nmK ν n0) : ∀ f t s (h : HT) (y : Option Value), t < 16 → 4 ≤ pcN t + f → KP h L V (.inr s) → m_gI h 195 41 = nI R → m_gI h 198 R = nI n0 → (∀ i, i < n0 → m_gL h 219 (4 * R + i) = nL (cv (ν i))) → m_gI h 208 (7 * R + n) = nI t →
    ∃ g, FrN R n h g ∧ KP g L V (crL V L ν n0 f (t ||| (cnP V L ν n0 t (.inr s)).2) (cnP V L ν n0 t (.inr s)).1).1 ∧ ((∃ e, (crL V L ν n0 f (t ||| (cnP V L ν n0 t (.inr s)).2) (cnP V L ν n0 t (.inr s)).1).1 = .inl e ∧ ∀ Q : QT, wq X (d + 5) 210 75 [some (.ref 195), some (.int (nI (7 * R + n))), some (.int 1), y] [] h Q = Q none g) ∨ ∃ s' x, (crL V L ν n0 f (t ||| (cnP V L ν n0 t (.inr s)).2) (cnP V L ν n0 t (.inr s)).1).1 = .inr s' ∧ m_gI g 208 (7 * R + n) = nI (crL V L ν n0 f (t ||| (cnP V L ν n0 t (.inr s)).2) (cnP V L ν n0 t (.inr s)).1).2 ∧ ∀ Q : QT, wq X (d + 5) 210 75 [some (.ref 195), some (.int (nI (7 * R + n))), some (.int 1), y] [] h Q = wq X (d + 5) 210 154 [some (.ref 195), some (.int (nI (7 * R + n))), some (.int 0), some (.int x)] [] g Q) := by
  intro f
  induction f with
  | zero =>
    intro t s h y ht hc H h41 h198 hm h208
    obtain ⟨g, a1, a2, a3⟩ := k_mstep (X := X) (d := d) (y := y) hR hn h4 hν ht H h41 h198 hm h208
    rcases a3 with ⟨e, q, a3⟩ | ⟨s', x, q, -⟩
    · rw [q] at a2
      refine ⟨g, a1, ?_, Or.inl ⟨e, ?_, a3⟩⟩
      · rw [q]
        exact a2
      · rw [q]
        rfl
    · exfalso
      obtain ⟨s2, f, -, -, -, y1, y2, -⟩ := cnP_i q
      have := (pc_up t ht f (by omega) y2).2
      omega
  | succ f ih =>
    intro t s h y ht hc H h41 h198 hm h208
    obtain ⟨g, a1, a2, a3⟩ := k_mstep (X := X) (d := d) (y := y) hR hn h4 hν ht H h41 h198 hm h208
    rcases a3 with ⟨e, q, a3⟩ | ⟨s', x, q, q2, a3⟩
    · rw [q] at a2 ⊢
      rw [crL_e]
      exact ⟨g, a1, a2, Or.inl ⟨e, rfl, a3⟩⟩
    · obtain ⟨s2, j, -, -, -, y1, y2, y3⟩ := cnP_i q
      have pu := pc_up t ht j (by omega) y2
      have t16 := or_16 ht (cnP_16 (V := V) (ν := ν) (L := L) (n := n0) (t := t) (r := .inr s) h4)
      rw [q] at a2 ⊢
      by_cases u : isN V L s' = true
      · obtain ⟨g2, b1, b2, b3⟩ := ih (t ||| (cnP V L ν n0 t (.inr s)).2) s' g (some (.int x)) t16 (by rw [y3, pu.1]; omega) a2 ((a1.2.1 _ _ (by omega) (by omega)).trans h41) ((a1.2.1 _ _ (by omega) (by omega)).trans h198) (fun i hi => (a1.2.2 _ _ (by omega)).trans (hm i hi)) q2
        rw [show crL V L ν n0 (f + 1) (t ||| (cnP V L ν n0 t (.inr s)).2) (.inr s') = crL V L ν n0 f ((t ||| (cnP V L ν n0 t (.inr s)).2) ||| (cnP V L ν n0 (t ||| (cnP V L ν n0 t (.inr s)).2) (.inr s')).2) (cnP V L ν n0 (t ||| (cnP V L ν n0 t (.inr s)).2) (.inr s')).1 from if_pos u]
        rw [if_pos u] at a3
        refine ⟨g2, FrN_tr a1 b1, b2, ?_⟩
        rcases b3 with ⟨e, q3, b3⟩ | ⟨s3, x3, q3, q4, b3⟩
        · exact Or.inl ⟨e, q3, fun Q => (a3 Q).trans (b3 Q)⟩
        · exact Or.inr ⟨s3, x3, q3, q4, fun Q => (a3 Q).trans (b3 Q)⟩
      · rw [show crL V L ν n0 (f + 1) (t ||| (cnP V L ν n0 t (.inr s)).2) (.inr s') = (.inr s', t ||| (cnP V L ν n0 t (.inr s)).2) from if_neg u]
        rw [if_neg u] at a3
        refine ⟨g, a1, a2, Or.inr ⟨s', x, rfl, q2, fun Q => (a3 Q).trans ?_⟩⟩
        simp only [u210_75, u210_76, eq_self, q_nl0, q_nlI, q_nlR, not_false_eq_true, q_nz0, q_nz1, q_zv0, q_zv1, q_tl1, q_tl0, q_wif, q_swc, q_swn, List.cons_append, List.nil_append, if_true, if_false, e10, e01, Bool.false_eq_true]
theorem k_otherM {X : XT} {d L : Nat} {h : HT} {V : Nat → Nat} {r : RP} (H : KP h L V r) : ∃ g, FrM h g ∧ KP g L V (otP V L r).1 ∧ ∀ (Q : QT) (l1 l2 l3 : Option Value) (a : Int32) (b : Nat), wq X (d + 5) 210 191 [some (.ref 195), l1, l2, l3] [.int a, .ref b] h Q = wq X (d + 5) 210 222 [some (.ref 195), l1, l2, l3] [.int (nI (otP V L r).2), .int a, .ref b] g Q := by
  cases r with
  | inl e =>
    have HB : KBd h e := H
    refine ⟨h, FrM_rf, H, fun Q l1 l2 l3 a b => ?_⟩
    simp only [u210_191, u210_192, u210_195, u210_198, u210_199, u210_202, u210_205, u210_208, u210_209, u210_212, u210_213, u210_215, u210_218, u210_221, eq_self, q_nl0, q_nlI, q_nlR, not_false_eq_true, q_nz0, q_nz1, q_zv0, q_zv1, q_tl1, q_tl0, q_wif, q_swc, q_swn, List.cons_append, List.nil_append, if_true, if_false, e10, e01, Bool.false_eq_true, sh_195, k_ngood HB, Option.toList]
    rfl
  | inr s =>
    have kw := fun (Q : QT) => k_isWord (X := X) (d := d + 4) (Q := Q) (i := 9) (c := 122545758368371) H.1 (by decide) (by decide +kernel)
    by_cases z : isW V L s 9 = true
    · obtain ⟨g, a1, a2, a3⟩ := k_afterP (X := X) (d := d) (i := 9) (m := 6) (c := 122545758368371) H (by decide) (by decide +kernel) (by decide)
      rw [show otP V L (.inr s) = nuP V L 6 (exW V L 9 (.inr s)) from if_pos z]
      refine ⟨g, a1, a2, fun Q l1 l2 l3 a b => ?_⟩
      simp only [u210_191, u210_192, u210_195, u210_198, u210_199, u210_202, u210_205, u210_208, u210_209, u210_212, u210_213, u210_215, eq_self, q_nl0, q_nlI, q_nlR, not_false_eq_true, q_nz0, q_nz1, q_zv0, q_zv1, q_tl1, q_tl0, q_wif, q_swc, q_swn, List.cons_append, List.nil_append, if_true, if_false, e10, e01, Bool.false_eq_true, sh_195, k_good H.2, kw, z, Option.toList, show ¬ ((1 : Int32) = 0) by decide]
      refine (a3 _).trans ?_
      simp only [u210_218, eq_self, q_nl0, q_nlI, q_nlR, not_false_eq_true, q_nz0, q_nz1, q_zv0, q_zv1, q_tl1, q_tl0, q_wif, q_swc, q_swn, List.cons_append, List.nil_append, if_true, if_false, e10, e01, Bool.false_eq_true]
    · rw [show otP V L (.inr s) = (.inr s, 0) from if_neg z]
      refine ⟨h, FrM_rf, H, fun Q l1 l2 l3 a b => ?_⟩
      simp only [u210_191, u210_192, u210_195, u210_198, u210_199, u210_202, u210_205, u210_208, u210_209, u210_212, u210_213, u210_215, u210_218, u210_221, eq_self, q_nl0, q_nlI, q_nlR, not_false_eq_true, q_nz0, q_nz1, q_zv0, q_zv1, q_tl1, q_tl0, q_wif, q_swc, q_swn, List.cons_append, List.nil_append, if_true, if_false, e10, e01, Bool.false_eq_true, sh_195, k_good H.2, kw, z, Option.toList, show ¬ ((1 : Int32) = 0) by decide]
      rfl
def FrQ (R : Nat) (h g : HT) : Prop := (∀ c k, m_gR g c k = m_gR h c k) ∧ (∀ c k, ¬ (c = 195 ∧ 4 ≤ k ∧ k ≤ 9) → ¬ (c = 205 ∧ k = R) → m_gI g c k = m_gI h c k) ∧ ∀ c k, c ≠ 195 ∨ k ≠ 10 → m_gL g c k = m_gL h c k
theorem k_outM {X : XT} {d L R u n : Nat} {h : HT} {V : Nat → Nat} {r : RP} (H : KP h L V r) (hp : Ptr h) (hR : R < 2) (h41 : m_gI h 195 41 = nI R) (h205 : m_gI h 205 R = nI u) (h199 : m_gI h 199 R = nI n) (hn : n < 8) : ∃ g, FrQ R h g ∧ KP g L V (ouP V L r).1 ∧ (∀ s', (ouP V L r).1 = .inr s' → m_gI g 205 R = nI (if (ouP V L r).2 = 1 then u ||| 2 ^ n else u)) ∧ ∀ (Q : QT) (l1 l2 l3 : Option Value), wq X (d + 5) 210 223 [some (.ref 195), l1, l2, l3] [] h Q = wq X (d + 5) 210 267 [some (.ref 195), l1, l2, l3] [] g Q := by
  have m2 : m_in (nI R) 2 = true := q_in hR (by decide)
  have cR : (nI R).toNatClampNeg = R := q_cl (by omega)
  have frf : FrQ R h h := ⟨fun _ _ => rfl, fun _ _ _ _ => rfl, fun _ _ _ => rfl⟩
  cases r with
  | inl e =>
    have HB : KBd h e := H
    refine ⟨h, frf, H, fun s' q => (nomatch q), fun Q l1 l2 l3 => ?_⟩
    simp only [u210_223, u210_224, u210_227, u210_230, u210_231, u210_234, u210_237, u210_240, u210_241, u210_244, u210_245, u210_248, u210_249, u210_250, u210_251, u210_252, u210_255, u210_256, u210_259, u210_260, u210_261, u210_262, u210_263, u210_264, eq_self, q_nl0, q_nlI, q_nlR, not_false_eq_true, q_nz0, q_nz1, q_zv0, q_zv1, q_tl1, q_tl0, q_wif, q_swc, q_swn, List.cons_append, List.nil_append, if_true, if_false, e10, e01, Bool.false_eq_true, sh_195, k_ngood HB, Option.toList]
  | inr s =>
    have kw := fun (Q : QT) => k_isWord (X := X) (d := d + 4) (Q := Q) (i := 10) (c := 7304564) H.1 (by decide) (by decide +kernel)
    by_cases z : isW V L s 10 = true
    · have H1 := KP_sI (c := 205) (k := R) (v := nI (u ||| 2 ^ n)) H (by decide)
      obtain ⟨g, a1, a2, a3⟩ := k_avP (X := X) (d := d + 2) H1
      rw [show ouP V L (.inr s) = (.inr (nx V L s), 1) from if_pos z]
      refine ⟨g, ⟨a1.1, fun c k x y => by rw [a1.2.1 c k x, gI_sI, if_neg y], a1.2.2⟩, a2, fun s' _ => ?_, fun Q l1 l2 l3 => ?_⟩
      · rw [a1.2.1 _ _ (by omega), gI_sI, if_pos ⟨rfl, rfl⟩]
        rfl
      · simp only [u210_223, u210_224, u210_227, u210_230, u210_231, u210_234, u210_237, u210_240, u210_241, u210_244, u210_245, u210_248, u210_249, u210_250, u210_251, u210_252, u210_255, u210_256, u210_259, u210_260, u210_261, u210_262, u210_263, u210_264, eq_self, q_nl0, q_nlI, q_nlR, not_false_eq_true, q_nz0, q_nz1, q_zv0, q_zv1, q_tl1, q_tl0, q_wif, q_swc, q_swn, List.cons_append, List.nil_append, if_true, if_false, e10, e01, Bool.false_eq_true, sh_195, sh_205, sh_199, p_195_18 hp, p_195_12 hp, k_good H.2, kw, z, h41, m2, cR, h205, h199, nI_sh n hn, nI_or, Option.toList, show ¬ ((1 : Int32) = 0) by decide]
        refine (a3 _).trans ?_
        rfl
    · rw [show ouP V L (.inr s) = (.inr s, 0) from if_neg z]
      refine ⟨h, frf, H, fun s' _ => h205, fun Q l1 l2 l3 => ?_⟩
      simp only [u210_223, u210_224, u210_227, u210_230, u210_231, u210_234, u210_237, u210_240, u210_241, u210_244, u210_245, u210_248, u210_249, u210_250, u210_251, u210_252, u210_255, u210_256, u210_259, u210_260, u210_261, u210_262, u210_263, u210_264, eq_self, q_nl0, q_nlI, q_nlR, not_false_eq_true, q_nz0, q_nz1, q_zv0, q_zv1, q_tl1, q_tl0, q_wif, q_swc, q_swn, List.cons_append, List.nil_append, if_true, if_false, e10, e01, Bool.false_eq_true, sh_195, k_good H.2, kw, z, Option.toList, show ¬ ((1 : Int32) = 0) by decide]
theorem k_mustW {X : XT} {d L i : Nat} {h : HT} {V : Nat → Nat} {c : Int64} {r : RP} (H : KP h L V r) (hi : i ∈ wIx) (hc : c = nL (cv (txN i))) : ∃ g, FrM h g ∧ KP g L V (exW V L i r) ∧ ∃ v : Int32, (∀ Q : QT, wq X (d + 3) 200 0 [some (.ref 195), some (.long c), none] [] h Q = Q (some (.int v)) h) ∧ ∀ Q : QT, wq X (d + 3) 208 0 [some (.ref 195), some (.int v)] [] h Q = Q none g := by
  cases r with
  | inl e =>
    obtain ⟨v, hv⟩ := k_wordB (X := X) (d := d + 3) (h := h) (c := c)
    exact ⟨h, FrM_rf, H, v, hv, fun Q => k_mustB (d := d) H Q⟩
  | inr s =>
    obtain ⟨g, a1, a2, a3⟩ := k_mustP (X := X) (d := d) H (isW V L s i)
    exact ⟨g, a1, a2, _, fun Q => k_isWord H.1 hi hc, a3⟩
theorem k_readMan {X : XT} {d R L s : Nat} {h : HT} {V : Nat → Nat} {τ : CT} (H : KP h L V (.inr (nx V L s))) (D : KD h R τ) (A : nmA τ) (h4 : τ 0 0 ≤ 4) (hn : τ 0 1 < 7) : ∃ g, FrL R h g ∧ KLr g R L V (liM V L s τ) ∧ ∀ Q : QT, wq X (d + 5) 210 0 [some (.ref 195), none, none, none] [] h Q = Q none g := by
  have hp : Ptr h := H.1.1.1
  have hR := D.1.1
  have hb := D.1.2
  have m2 : m_in (nI R) 2 = true := q_in hR (by decide)
  have cR : (nI R).toNatClampNeg = R := q_cl (by omega)
  have mC : m_in (nI (7 * R + τ 0 1)) 14 = true := q_in (by omega) (by decide)
  have cC : (nI (7 * R + τ 0 1)).toNatClampNeg = 7 * R + τ 0 1 := q_cl (by omega)
  have n0 : m_gI h 199 R = nI (τ 0 1) := D.2.1.2.1
  have ht : TkK h L V (nx V L s) := H.1
  have hh := fun (Q : QT) => k_here (X := X) (d := d + 4) (ν := τ 12) (n := τ 0 1) (f := 7 * R) ht sh_220 (by decide) (by omega) (nmA_m A) D.2.2.2.2.1.2.1 Q
  obtain ⟨g1, a1, a2, a3⟩ := k_fresh (X := X) (d := d + 1) (ν := τ 12) (n := τ 0 1) H (by omega)
  have a4 := KP_sL (c := 220) (k := 7 * R + τ 0 1) (v := m_gL h 195 10) a2 (by decide)
  have hp1 : Ptr g1 := Ptr_of hp a1.1
  obtain ⟨g2, b1, b2, bv, bw, b3⟩ := k_mustW (X := X) (d := d + 1) (i := 6) (c := 28518) a4 (by decide) (by decide +kernel)
  have hp2 : Ptr g2 := Ptr_of hp1 b1.1
  have b4 := KP_sI (c := 208) (k := 7 * R + τ 0 1) (v := 0) b2 (by decide)
  -- up to here
  have t2 : ∀ c k, ¬ (c = 195 ∧ 4 ≤ k ∧ k ≤ 9) → ¬ (c = 208 ∧ k = 7 * R + τ 0 1) → m_gI (m_sI g2 208 (7 * R + τ 0 1) 0) c k = m_gI h c k := fun c k x y => by
    rw [gI_sI, if_neg y, b1.2.1 c k x, gI_sL, a1.2.1 c k x]
  have t2L : ∀ c k, c ≠ 195 ∨ k ≠ 10 → ¬ (c = 220 ∧ k = 7 * R + τ 0 1) → m_gL (m_sI g2 208 (7 * R + τ 0 1) 0) c k = m_gL h c k := fun c k x y => by
    rw [gL_sI, b1.2.2 c k x, gL_sL, if_neg y, a1.2.2 c k x]
  have t2N : m_gL (m_sI g2 208 (7 * R + τ 0 1) 0) 220 (7 * R + τ 0 1) = m_gL h 195 10 := by
    rw [gL_sI, b1.2.2 _ _ (by omega), gL_sL, if_pos ⟨rfl, rfl⟩]
  have z2 : m_gI (m_sI g2 208 (7 * R + τ 0 1) 0) 208 (7 * R + τ 0 1) = nI 0 := by
    rw [gI_sI, if_pos ⟨rfl, rfl⟩]
    rfl
  have f2 : FrL R h (m_sI g2 208 (7 * R + τ 0 1) 0) := FrL_tr (FrL_M a1) (FrL_tr (FrL_l (c := 220) (k := 7 * R + τ 0 1) (v := m_gL h 195 10) (by decide)) (FrL_tr (FrL_M b1) (FrL_s (c := 208) (k := 7 * R + τ 0 1) (v := 0) (by unfold exK; omega))))
  have go : ∀ Q : QT, wq X (d + 5) 210 0 [some (.ref 195), none, none, none] [] h Q = wq X (d + 5) 210 70 [some (.ref 195), some (.int (nI (7 * R + τ 0 1))), none, none] [] (m_sI g2 208 (7 * R + τ 0 1) 0) Q := fun Q => by
    simp only [u210_0, u210_2, u210_3, u210_6, u210_7, u210_8, u210_11, u210_12, u210_15, u210_16, u210_17, u210_18, u210_19, u210_22, u210_23, u210_24, u210_25, u210_26, u210_29, u210_31, u210_32, u210_35, u210_36, u210_37, u210_40, u210_41, u210_44, u210_45, u210_48, eq_self, q_nl0, q_nlI, q_nlR, not_false_eq_true, q_nz0, q_nz1, q_zv0, q_zv1, q_tl1, q_tl0, q_wif, q_swc, q_swn, List.cons_append, List.nil_append, if_true, if_false, e10, e01, Bool.false_eq_true, sh_195, sh_199, p_195_12 hp, p_195_33 hp, hb, nI_7m, n0, m2, cR, nI_add, hh, Option.toList]
    refine (a3 _).trans ?_
    simp only [u210_51, u210_52, u210_53, u210_54, u210_57, eq_self, q_nl0, q_nlI, q_nlR, not_false_eq_true, q_nz0, q_nz1, q_zv0, q_zv1, q_tl1, q_tl0, q_wif, q_swc, q_swn, List.cons_append, List.nil_append, if_true, if_false, e10, e01, Bool.false_eq_true, sh_195, sh_220, mC, cC]
    refine (bw _).trans ?_
    simp only [u210_60, eq_self, q_nl0, q_nlI, q_nlR, not_false_eq_true, q_nz0, q_nz1, q_zv0, q_zv1, q_tl1, q_tl0, q_wif, q_swc, q_swn, List.cons_append, List.nil_append, if_true, if_false, e10, e01, Bool.false_eq_true, sh_195, Option.toList]
    refine (b3 _).trans ?_
    simp only [u210_63, u210_64, u210_67, u210_68, u210_69, eq_self, q_nl0, q_nlI, q_nlR, not_false_eq_true, q_nz0, q_nz1, q_zv0, q_zv1, q_tl1, q_tl0, q_wif, q_swc, q_swn, List.cons_append, List.nil_append, if_true, if_false, e10, e01, Bool.false_eq_true, sh_195, sh_208, mC, cC, p_195_21 hp2]
  -- the crafts
  have hm : ∀ i, i < τ 0 0 → m_gL (m_sI g2 208 (7 * R + τ 0 1) 0) 219 (4 * R + i) = nL (cv (τ 11 i)) := fun i hi => (t2L _ _ (by omega) (by omega)).trans (D.2.2.2.2.1.1 i hi)
  have cr : ∃ g3, FrN R (τ 0 1) (m_sI g2 208 (7 * R + τ 0 1) 0) g3 ∧ KP g3 L V (mP2 V L s τ).1 ∧ ((∃ e, (mP2 V L s τ).1 = .inl e ∧ ∀ Q : QT, wq X (d + 5) 210 70 [some (.ref 195), some (.int (nI (7 * R + τ 0 1))), none, none] [] (m_sI g2 208 (7 * R + τ 0 1) 0) Q = Q none g3) ∨ ∃ x y, (∀ s', (mP2 V L s τ).1 = .inr s' → m_gI g3 208 (7 * R + τ 0 1) = nI (mP2 V L s τ).2) ∧ ∀ Q : QT, wq X (d + 5) 210 70 [some (.ref 195), some (.int (nI (7 * R + τ 0 1))), none, none] [] (m_sI g2 208 (7 * R + τ 0 1) 0) Q = wq X (d + 5) 210 154 [some (.ref 195), some (.int (nI (7 * R + τ 0 1))), x, y] [] g3 Q) := by
    cases q : mP0 V L s τ with
    | inl e =>
      have q2 : mP2 V L s τ = (.inl e, 0) := by
        unfold mP2 mP1
        rw [q]
        rfl
      have q0 : exW V L 6 (nmP V L (τ 12) (τ 0 1) (.inr (nx V L s))) = .inl e := q
      rw [q0] at b4
      have b4 : KBd _ e := b4
      rw [q2]
      refine ⟨_, ⟨fun _ _ => rfl, fun _ _ _ _ => rfl, fun _ _ _ => rfl⟩, b4, Or.inr ⟨some (.int 0), none, fun s' q => (nomatch q), fun Q => ?_⟩⟩
      simp only [u210_70, u210_71, u210_74, u210_75, u210_76, eq_self, q_nl0, q_nlI, q_nlR, not_false_eq_true, q_nz0, q_nz1, q_zv0, q_zv1, q_tl1, q_tl0, q_wif, q_swc, q_swn, List.cons_append, List.nil_append, if_true, if_false, e10, e01, Bool.false_eq_true, sh_195, k_ngood b4, Option.toList]
    | inr s1 =>
      have q0 : exW V L 6 (nmP V L (τ 12) (τ 0 1) (.inr (nx V L s))) = .inr s1 := q
      rw [q0] at b4
      obtain ⟨g3, c1, c2, c3⟩ := k_mloop (X := X) (d := d) (ν := τ 11) (n0 := τ 0 0) hR hn h4 (nmA_c A) 4 0 s1 _ none (by decide) (by omega) b4 ((t2 _ _ (by omega) (by omega)).trans hb) ((t2 _ _ (by omega) (by omega)).trans D.2.1.1) hm z2
      have q2 : mP2 V L s τ = crL V L (τ 11) (τ 0 0) 4 (0 ||| (cnP V L (τ 11) (τ 0 0) 0 (.inr s1)).2) (cnP V L (τ 11) (τ 0 0) 0 (.inr s1)).1 := by
        unfold mP2 mP1
        rw [q, Nat.zero_or]
      rw [← q2] at c2 c3
      have st : ∀ Q : QT, wq X (d + 5) 210 70 [some (.ref 195), some (.int (nI (7 * R + τ 0 1))), none, none] [] (m_sI g2 208 (7 * R + τ 0 1) 0) Q = wq X (d + 5) 210 75 [some (.ref 195), some (.int (nI (7 * R + τ 0 1))), some (.int 1), none] [] (m_sI g2 208 (7 * R + τ 0 1) 0) Q := fun Q => by
        generalize hz : wq X (d + 5) 210 75 [some (.ref 195), some (.int (nI (7 * R + τ 0 1))), some (.int 1), none] [] (m_sI g2 208 (7 * R + τ 0 1) 0) Q = Z
        simp only [u210_70, u210_71, u210_74, eq_self, q_nl0, q_nlI, q_nlR, not_false_eq_true, q_nz0, q_nz1, q_zv0, q_zv1, q_tl1, q_tl0, q_wif, q_swc, q_swn, List.cons_append, List.nil_append, if_true, if_false, e10, e01, Bool.false_eq_true, sh_195, k_good b4.2, Option.toList]
        exact hz
      refine ⟨g3, c1, c2, ?_⟩
      rcases c3 with ⟨e, q3, c3⟩ | ⟨s', x, q3, q4, c3⟩
      · exact Or.inl ⟨e, q3, fun Q => (st Q).trans (c3 Q)⟩
      · exact Or.inr ⟨_, _, fun _ _ => q4, fun Q => (st Q).trans (c3 Q)⟩
  obtain ⟨g3, c1, c2, c3⟩ := cr
  have f3 : FrL R h g3 := FrL_tr f2 ⟨c1.1, fun c k x => c1.2.1 c k (by unfold exK at x; omega) (by unfold exK at x; omega), fun c k x => c1.2.2 c k (by omega)⟩
  have el : liM V L s τ = fiL (mP6 V L s τ).1 (upM τ (wd V L (nx V L s)) (mP2 V L s τ).2 (mP3 V L s τ).2 (mP4 V L s τ).2 (mP5 V L s τ).2 (mP6 V L s τ).2) := if_neg (by omega)
  rw [el]
  rcases c3 with ⟨e, q, c3⟩ | ⟨x, y, q, c3⟩
  · have q6 : mP6 V L s τ = (.inl e, 0) := by
      unfold mP6 mP5 mP4 mP3
      rw [q]
      rfl
    rw [q6]
    rw [q] at c2
    exact ⟨g3, f3, c2, fun Q => (go Q).trans (c3 Q)⟩
  · have hp3 : Ptr g3 := Ptr_of hp f3.1
    obtain ⟨g4, d1, d2, d3⟩ := k_afterP (X := X) (d := d) (i := 7) (m := 20) (c := 119225632318835) c2 (by decide) (by decide +kernel) (by decide)
    have d4 := KP_sI (c := 209) (k := 7 * R + τ 0 1) (v := nI (mP3 V L s τ).2) d2 (by decide)
    have hp4 : Ptr g4 := Ptr_of hp3 d1.1
    obtain ⟨g5, e1, e2, e3⟩ := k_afterP (X := X) (d := d) (i := 8) (m := 99) (c := 1684365940) d4 (by decide) (by decide +kernel) (by decide)
    have e4 := KP_sI (c := 210) (k := 7 * R + τ 0 1) (v := nI (mP4 V L s τ).2) e2 (by decide)
    have hp5 : Ptr g5 := Ptr_of hp4 e1.1
    obtain ⟨g6, o1, o2, o3⟩ := k_otherM (X := X) (d := d) e4
    have o4 := KP_sI (c := 211) (k := 7 * R + τ 0 1) (v := nI (mP5 V L s τ).2) o2 (by decide)
    have hp6 : Ptr g6 := Ptr_of hp5 o1.1
    have t6 : ∀ c k, ¬ (c = 195 ∧ 4 ≤ k ∧ k ≤ 9) → ¬ (208 ≤ c ∧ c ≤ 211 ∧ k = 7 * R + τ 0 1) → m_gI (m_sI g6 211 (7 * R + τ 0 1) (nI (mP5 V L s τ).2)) c k = m_gI h c k := fun c k x y => by
      rw [gI_sI, if_neg (by omega), o1.2.1 c k x, gI_sI, if_neg (by omega), e1.2.1 c k x, gI_sI, if_neg (by omega), d1.2.1 c k x, c1.2.1 c k x (by omega), t2 c k x (by omega)]
    have hp6' : Ptr (m_sI g6 211 (7 * R + τ 0 1) (nI (mP5 V L s τ).2)) := hp6
    obtain ⟨g7, p1, p2, p9, p3⟩ := k_outM (X := X) (d := d) o4 hp6' hR ((t6 _ _ (by omega) (by omega)).trans hb) ((t6 _ _ (by omega) (by omega)).trans D.2.1.2.2.2.2.2.2) ((t6 _ _ (by omega) (by omega)).trans n0) (show τ 0 1 < 8 by omega)
    have hp7 : Ptr g7 := Ptr_of hp6 p1.1
    have p5 := KP_sI (c := 199) (k := R) (v := nI (τ 0 1 + 1)) p2 (by decide)
    have eI : ∀ c k, ¬ (c = 195 ∧ 4 ≤ k ∧ k ≤ 9) → ¬ (208 ≤ c ∧ c ≤ 211 ∧ k = 7 * R + τ 0 1) → ¬ ((c = 199 ∨ c = 205) ∧ k = R) → m_gI (m_sI g7 199 R (nI (τ 0 1 + 1))) c k = m_gI h c k := fun c k x y z => by
      rw [gI_sI, if_neg (by omega), p1.2.1 c k x (by omega), t6 c k x y]
    have eL : ∀ c k, c ≠ 195 ∨ k ≠ 10 → m_gL (m_sI g7 199 R (nI (τ 0 1 + 1))) c k = m_gL (m_sI g2 208 (7 * R + τ 0 1) 0) c k := fun c k x => by
      rw [gL_sI, p1.2.2 c k x, gL_sI, o1.2.2 c k x, gL_sI, e1.2.2 c k x, gL_sI, d1.2.2 c k x, c1.2.2 c k x]
    have q3 : ∀ s', (mP2 V L s τ).1 = .inr s' → m_gI (m_sI g7 199 R (nI (τ 0 1 + 1))) 208 (7 * R + τ 0 1) = nI (mP2 V L s τ).2 := fun s' w => by
      rw [gI_sI, if_neg (by omega), p1.2.1 _ _ (by omega) (by omega), gI_sI, if_neg (by omega), o1.2.1 _ _ (by omega), gI_sI, if_neg (by omega), e1.2.1 _ _ (by omega), gI_sI, if_neg (by omega), d1.2.1 _ _ (by omega)]
      exact q s' w
    have q4 : m_gI (m_sI g7 199 R (nI (τ 0 1 + 1))) 209 (7 * R + τ 0 1) = nI (mP3 V L s τ).2 := by
      rw [gI_sI, if_neg (by omega), p1.2.1 _ _ (by omega) (by omega), gI_sI, if_neg (by omega), o1.2.1 _ _ (by omega), gI_sI, if_neg (by omega), e1.2.1 _ _ (by omega), gI_sI, if_pos ⟨rfl, rfl⟩]
    have q5 : m_gI (m_sI g7 199 R (nI (τ 0 1 + 1))) 210 (7 * R + τ 0 1) = nI (mP4 V L s τ).2 := by
      rw [gI_sI, if_neg (by omega), p1.2.1 _ _ (by omega) (by omega), gI_sI, if_neg (by omega), o1.2.1 _ _ (by omega), gI_sI, if_pos ⟨rfl, rfl⟩]
    have q6 : m_gI (m_sI g7 199 R (nI (τ 0 1 + 1))) 211 (7 * R + τ 0 1) = nI (mP5 V L s τ).2 := by
      rw [gI_sI, if_neg (by omega), p1.2.1 _ _ (by omega) (by omega), gI_sI, if_pos ⟨rfl, rfl⟩]
    have n7 : m_gI g7 199 R = nI (τ 0 1) := by
      rw [p1.2.1 _ _ (by omega) (by omega), t6 _ _ (by omega) (by omega)]
      exact n0
    have b7 : m_gI g7 195 41 = nI R := by
      rw [p1.2.1 _ _ (by omega) (by omega), t6 _ _ (by omega) (by omega)]
      exact hb
    refine ⟨m_sI g7 199 R (nI (τ 0 1 + 1)), ⟨fun c k => ?_, fun c k w => eI c k (by unfold exK at w; omega) (by unfold exK at w; omega) (by unfold exK at w; omega), fun c k w => ?_⟩, ?_, fun Q => ?_⟩
    · rw [gR_sI, p1.1, gR_sI, o1.1, gR_sI, e1.1, gR_sI, d1.1]
      exact f3.1 c k
    · rw [eL c k (by omega)]
      exact t2L c k (by omega) (by omega)
    · change KP _ L V (mP6 V L s τ).1 at p5
      change ∀ s', (mP6 V L s τ).1 = .inr s' → m_gI g7 205 R = nI (if (mP6 V L s τ).2 = 1 then τ 0 6 ||| 2 ^ τ 0 1 else τ 0 6) at p9
      cases w : (mP6 V L s τ).1 with
      | inl e =>
        rw [w] at p5
        exact p5
      | inr s' =>
        rw [w] at p5
        have isn : isN V L (nx V L s) = true := mP_isn w
        have hw : m_gL h 195 10 = nL (cv (wd V L (nx V L s))) := ht.2.2.2.2.2.1 (isN_1 isn)
        have w2 : ∃ s2, (mP2 V L s τ).1 = .inr s2 := by
          obtain ⟨x1, y1, z1⟩ := ouP_i w
          obtain ⟨x2, y2, z2⟩ := otP_i y1
          obtain ⟨x3, y3, -⟩ := nuP_i y2
          obtain ⟨x4, y4, -⟩ := exW_i y3
          obtain ⟨x5, y5, -⟩ := nuP_i y4
          obtain ⟨x6, y6, -⟩ := exW_i y5
          exact ⟨x6, y6⟩
        obtain ⟨s2, w2⟩ := w2
        refine ⟨p5, ⟨hR, (eI _ _ (by omega) (by omega) (by omega)).trans hb⟩, ⟨?_, ?_, ?_, ?_, ?_, ?_, ?_⟩, ⟨?_, ?_, ?_, ?_, ?_, ?_, ?_, ?_⟩, ⟨?_, ?_, ?_, ?_⟩, ⟨?_, ?_, ?_⟩, ?_, ?_, ?_⟩
        · exact (eI _ _ (by omega) (by omega) (by omega)).trans D.2.1.1
        · show _ = nI (τ 0 1 + 1)
          rw [gI_sI, if_pos ⟨rfl, rfl⟩]
        · exact (eI _ _ (by omega) (by omega) (by omega)).trans D.2.1.2.2.1
        · exact (eI _ _ (by omega) (by omega) (by omega)).trans D.2.1.2.2.2.1
        · exact (eI _ _ (by omega) (by omega) (by omega)).trans D.2.1.2.2.2.2.1
        · exact (eI _ _ (by omega) (by omega) (by omega)).trans D.2.1.2.2.2.2.2.1
        · show _ = nI (if (mP6 V L s τ).2 = 1 then τ 0 6 ||| 2 ^ τ 0 1 else τ 0 6)
          rw [gI_sI, if_neg (by omega)]
          exact p9 s' w
        · exact fun i hi => (eI _ _ (by omega) (by omega) (by omega)).trans (D.2.2.1.1 i hi)
        · exact fun i hi => (eI _ _ (by omega) (by omega) (by omega)).trans (D.2.2.1.2.1 i hi)
        · exact row_upK (f := fun k => m_gI _ _ k) (fun i hi => (eI _ _ (by omega) (by omega) (by omega)).trans (D.2.2.1.2.2.1 i hi)) (q3 s2 w2)
        · exact row_upK (f := fun k => m_gI _ _ k) (fun i hi => (eI _ _ (by omega) (by omega) (by omega)).trans (D.2.2.1.2.2.2.1 i hi)) q4
        · exact row_upK (f := fun k => m_gI _ _ k) (fun i hi => (eI _ _ (by omega) (by omega) (by omega)).trans (D.2.2.1.2.2.2.2.1 i hi)) q5
        · exact row_upK (f := fun k => m_gI _ _ k) (fun i hi => (eI _ _ (by omega) (by omega) (by omega)).trans (D.2.2.1.2.2.2.2.2.1 i hi)) q6
        · exact fun i hi => (eI _ _ (by omega) (by omega) (by omega)).trans (D.2.2.1.2.2.2.2.2.2.1 i hi)
        · exact fun i hi => (eI _ _ (by omega) (by omega) (by omega)).trans (D.2.2.1.2.2.2.2.2.2.2 i hi)
        · exact (eI _ _ (by omega) (by omega) (by omega)).trans D.2.2.2.1.1
        · exact (eI _ _ (by omega) (by omega) (by omega)).trans D.2.2.2.1.2.1
        · exact fun q => ⟨(eI _ _ (by omega) (by omega) (by omega)).trans (D.2.2.2.1.2.2.1 q).1, (eI _ _ (by omega) (by omega) (by omega)).trans (D.2.2.2.1.2.2.1 q).2⟩
        · exact fun i hi => ⟨(eI _ _ (by omega) (by omega) (by omega)).trans (D.2.2.2.1.2.2.2 i hi).1, (eI _ _ (by omega) (by omega) (by omega)).trans (D.2.2.2.1.2.2.2 i hi).2⟩
        · exact fun i hi => ((eL _ _ (by omega)).trans (t2L _ _ (by omega) (by omega))).trans (D.2.2.2.2.1.1 i hi)
        · exact row_upKL (f := fun k => m_gL _ _ k) (fun i hi => ((eL _ _ (by omega)).trans (t2L _ _ (by omega) (by omega))).trans (D.2.2.2.2.1.2.1 i hi)) (((eL _ _ (by omega)).trans t2N).trans hw)
        · exact fun i hi => ((eL _ _ (by omega)).trans (t2L _ _ (by omega) (by omega))).trans (D.2.2.2.2.1.2.2 i hi)
        · exact (eI _ _ (by omega) (by omega) (by omega)).trans D.2.2.2.2.2.1
        · exact (eI _ _ (by omega) (by omega) (by omega)).trans D.2.2.2.2.2.2.1
        · exact (eI _ _ (by omega) (by omega) (by omega)).trans D.2.2.2.2.2.2.2
    · refine (go Q).trans ((c3 Q).trans ?_)
      simp only [u210_154, u210_155, u210_158, u210_159, u210_160, u210_163, u210_164, u210_166, eq_self, q_nl0, q_nlI, q_nlR, not_false_eq_true, q_nz0, q_nz1, q_zv0, q_zv1, q_tl1, q_tl0, q_wif, q_swc, q_swn, List.cons_append, List.nil_append, if_true, if_false, e10, e01, Bool.false_eq_true, sh_195, p_195_22 hp3]
      refine (d3 _).trans ?_
      change wq X (d + 5) 210 169 _ [.int (nI (mP3 V L s τ).2), _, _] _ Q = _
      simp only [u210_169, u210_170, u210_171, u210_174, u210_175, u210_176, u210_179, u210_180, u210_182, eq_self, q_nl0, q_nlI, q_nlR, not_false_eq_true, q_nz0, q_nz1, q_zv0, q_zv1, q_tl1, q_tl0, q_wif, q_swc, q_swn, List.cons_append, List.nil_append, if_true, if_false, e10, e01, Bool.false_eq_true, sh_195, sh_209, mC, cC, p_195_23 hp4, gR_sI]
      refine (e3 _).trans ?_
      change wq X (d + 5) 210 185 _ [.int (nI (mP4 V L s τ).2), _, _] _ Q = _
      simp only [u210_185, u210_186, u210_187, u210_190, eq_self, q_nl0, q_nlI, q_nlR, not_false_eq_true, q_nz0, q_nz1, q_zv0, q_zv1, q_tl1, q_tl0, q_wif, q_swc, q_swn, List.cons_append, List.nil_append, if_true, if_false, e10, e01, Bool.false_eq_true, sh_195, sh_210, mC, cC, p_195_24 hp5, gR_sI]
      rw [o3]
      change wq X (d + 5) 210 222 _ [.int (nI (mP5 V L s τ).2), _, _] _ Q = _
      simp only [u210_222, eq_self, q_nl0, q_nlI, q_nlR, not_false_eq_true, q_nz0, q_nz1, q_zv0, q_zv1, q_tl1, q_tl0, q_wif, q_swc, q_swn, List.cons_append, List.nil_append, if_true, if_false, e10, e01, Bool.false_eq_true, sh_195, sh_211, mC, cC]
      rw [p3]
      simp only [u210_267, u210_268, u210_271, u210_272, u210_275, u210_276, u210_277, u210_278, u210_279, u210_280, eq_self, q_nl0, q_nlI, q_nlR, not_false_eq_true, q_nz0, q_nz1, q_zv0, q_zv1, q_tl1, q_tl0, q_wif, q_swc, q_swn, List.cons_append, List.nil_append, if_true, if_false, e10, e01, Bool.false_eq_true, sh_195, sh_199, p_195_12 hp7, b7, m2, cR, n7, nI_1]
