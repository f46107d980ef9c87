/-! THE CLASS'S LINE OF A MAN -/
theorem cnP_16 {V ν : Nat → Nat} {L n t : Nat} {r : RP} (hn : n ≤ 4) : (cnP V L ν n t r).2 < 16 := by
  cases r with
  | inl e => exact Nat.lt_of_lt_of_le (show 0 < 1 by decide) (by decide)
  | inr s =>
    unfold cnP
    dsimp only
    by_cases z : isN V L s = true
    · rw [if_pos z]
      by_cases y : fp (wP ν (wd V L s)) n 0 < n
      · rw [if_pos y]
        by_cases x : t.testBit (fp (wP ν (wd V L s)) n 0) = true
        · rw [if_pos x]
          exact (by decide : (0 : Nat) < 16)
        · rw [if_neg x]
          exact Nat.lt_of_le_of_lt (Nat.pow_le_pow_right (n := 2) (j := 3) (by decide) (show fp (wP ν (wd V L s)) n 0 ≤ 3 by omega)) (by decide)
      · rw [if_neg y]
        exact (by decide : (0 : Nat) < 16)
    · rw [if_neg z]
      exact (by decide : (0 : Nat) < 16)
theorem or_16 {a b : Nat} (ha : a < 16) (hb : b < 16) : a ||| b < 16 := Nat.or_lt_two_pow (n := 4) ha hb
theorem c_crL {X : XT} {d C L n : Nat} {V ν : Nat → Nat} {m : Int32} (hn : n ≤ 4) (hν : nmK ν n) : ∀ k i t (r : RP) (h : HT), i + k = 4 → t < 16 → CP h C L V r → m_gI h C 0 = nI n → (∀ j, j < n → m_gL h 20 j = nL (ν j)) → ∃ g x, FrP h g ∧ CP g C L V (crL V L ν n k t r).1 ∧ (crL V L ν n k t r).2 < 16 ∧ ∀ Q : QT, wq X (d + 7) 60 60 [some (.ref 4), some (.int m), some (.int (nI t)), some (.int (nI i))] [] h Q = wq X (d + 7) 60 96 [some (.ref 4), some (.int m), some (.int (nI (crL V L ν n k t r).2)), some (.int x)] [] g Q := by
  intro k
  induction k with
  | zero =>
    intro i t r h e ht H h0 hm
    have : i = 4 := by omega
    subst this
    refine ⟨h, nI 4, FrP_rf, H, ht, fun Q => ?_⟩
    have c1 : (nI 4 < (4 : Int32)) = False := eq_false (by decide)
    simp only [u60_60, u60_61, u60_62, eq_self, q_nl0, q_nlI, q_nlR, not_false_eq_true, q_nz0, q_nz1, q_zv0, q_zv1, q_tl1, q_tl0, q_wif, q_swc, q_swn, List.cons_append, List.nil_append, if_true, if_false, e10, e01, Bool.false_eq_true, c1]
    rfl
  | succ k ih =>
    intro i t r h e ht H h0 hm
    have c1 : (nI i < 4) = True := eq_true (nI_lt (b := 4) (by omega) (by decide))
    obtain ⟨hp, hu, hU⟩ := CP_p H
    have hC : C = 5 ∨ C = 23 := hU
    cases r with
    | inl b =>
      have HB : CB h C L V b := H
      refine ⟨h, nI i, FrP_rf, H, ht, fun Q => ?_⟩
      simp only [u60_60, u60_61, u60_62, u60_65, u60_66, u60_69, eq_self, q_nl0, q_nlI, q_nlR, not_false_eq_true, q_nz0, q_nz1, q_zv0, q_zv1, q_tl1, q_tl0, q_wif, q_swc, q_swn, List.cons_append, List.nil_append, if_true, if_false, e10, e01, Bool.false_eq_true, c1, sh_4, HB.2.2.1, CP_bad HB]
      rfl
    | inr s =>
      have nm := fun (Q : QT) => c_nameAt (X := X) (d := d + 2) (Q := Q) H.1
      by_cases z : isN V L s = true
      · obtain ⟨g1, a1, a2, a3⟩ := c_craftName (X := X) (d := d + 1) (ν := ν) (t := t) H h0 hn ht hν hm
        obtain ⟨g, x, b1, b2, b3, b4⟩ := ih (i + 1) (t ||| (cnP V L ν n t (.inr s)).2) _ g1 (by omega) (or_16 ht (cnP_16 hn)) a2 ((a1.2.1 C 0 (by omega) (by omega)).trans h0) (fun j hj => (a1.2.2 20 j (by decide)).trans (hm j hj))
        have ec : crL V L ν n (k + 1) t (.inr s) = crL V L ν n k (t ||| (cnP V L ν n t (.inr s)).2) (cnP V L ν n t (.inr s)).1 := if_pos z
        rw [ec]
        refine ⟨g, x, FrP_tr a1 b1, b2, b3, fun Q => ?_⟩
        rw [← b4]
        generalize hz : wq X (d + 7) 60 60 [some (.ref 4), some (.int m), some (.int (nI (t ||| (cnP V L ν n t (.inr s)).2))), some (.int (nI (i + 1)))] [] g1 Q = Z
        simp only [u60_60, u60_61, u60_62, u60_65, u60_66, u60_69, u60_72, u60_73, u60_76, u60_79, u60_82, u60_83, u60_84, u60_85, eq_self, q_nl0, q_nlI, q_nlR, not_false_eq_true, q_nz0, q_nz1, q_zv0, q_zv1, q_tl1, q_tl0, q_wif, q_swc, q_swn, List.cons_append, List.nil_append, if_true, if_false, e10, e01, Bool.false_eq_true, c1, sh_2, sh_4, H.2.2, p_4_0 hp, nm, z, Option.toList]
        refine (a3 _).trans ?_
        simp only [u60_88, u60_89, u60_90, u60_93, eq_self, q_nl0, q_nlI, q_nlR, not_false_eq_true, q_nz0, q_nz1, q_zv0, q_zv1, q_tl1, q_tl0, q_wif, q_swc, q_swn, List.cons_append, List.nil_append, if_true, if_false, e10, e01, Bool.false_eq_true, nI_or, nI_1]
        exact hz
      · refine ⟨h, nI i, FrP_rf, ?_⟩
        have ec : crL V L ν n (k + 1) t (.inr s) = (.inr s, t) := if_neg z
        rw [ec]
        refine ⟨H, ht, fun Q => ?_⟩
        simp only [u60_60, u60_61, u60_62, u60_65, u60_66, u60_69, u60_72, u60_73, u60_76, u60_79, u60_82, u60_83, u60_84, u60_85, eq_self, q_nl0, q_nlI, q_nlR, not_false_eq_true, q_nz0, q_nz1, q_zv0, q_zv1, q_tl1, q_tl0, q_wif, q_swc, q_swn, List.cons_append, List.nil_append, if_true, if_false, e10, e01, Bool.false_eq_true, c1, sh_2, sh_4, H.2.2, p_4_0 hp, nm, z, Option.toList]
theorem c_others {X : XT} {d C L : Nat} {h : HT} {V : Nat → Nat} {r : RP} (H : CP h C L V r) : ∃ g, FrP h g ∧ CP g C L V (otP V L r).1 ∧ ∀ (Q : QT) (a x y : Int32) (b : Nat), wq X (d + 7) 60 148 [some (.ref 4), some (.int x), some (.int a), some (.int y)] [.int x, .ref b] h Q = wq X (d + 7) 60 172 [some (.ref 4), some (.int x), some (.int a), some (.int y)] [.int (nI (otP V L r).2), .int x, .ref b] g Q := by
  have hp := (CP_p H).1
  have wi := fun (Q : QT) => c_wordAt (X := X) (d := d + 2) (r := 10019) (i := 9) (Q := Q) (CP_k H) rfl (by decide)
  obtain ⟨g, a1, a2, a3⟩ := c_numB (X := X) (d := d) (i := 9) (m := 6) (r0 := 10019) H rfl (by decide) (by decide)
  cases r with
  | inl e =>
    by_cases z : isW V L (rpS (.inl e)) 9 = true
    · refine ⟨g, a1, a2, fun Q a x y b => ?_⟩
      simp only [u60_148, u60_149, u60_152, u60_154, u60_157, u60_160, u60_161, u60_163, u60_165, u60_168, u60_171, eq_self, q_nl0, q_nlI, q_nlR, not_false_eq_true, q_nz0, q_nz1, q_zv0, q_zv1, q_tl1, q_tl0, q_wif, q_swc, q_swn, List.cons_append, List.nil_append, if_true, if_false, e10, e01, Bool.false_eq_true, sh_2, sh_4, p_4_0 hp, wi, z, Option.toList]
      refine (a3 _).trans ?_
      simp only [u60_168, u60_171, eq_self, q_nl0, q_nlI, q_nlR, not_false_eq_true, q_nz0, q_nz1, q_zv0, q_zv1, q_tl1, q_tl0, q_wif, q_swc, q_swn, List.cons_append, List.nil_append, if_true, if_false, e10, e01, Bool.false_eq_true]
      rfl
    · refine ⟨h, FrP_rf, H, fun Q a x y b => ?_⟩
      simp only [u60_148, u60_149, u60_152, u60_154, u60_157, u60_160, u60_161, u60_163, u60_165, u60_168, u60_171, eq_self, q_nl0, q_nlI, q_nlR, not_false_eq_true, q_nz0, q_nz1, q_zv0, q_zv1, q_tl1, q_tl0, q_wif, q_swc, q_swn, List.cons_append, List.nil_append, if_true, if_false, e10, e01, Bool.false_eq_true, sh_2, sh_4, p_4_0 hp, wi, z, Option.toList]
      rfl
  | inr s =>
    have wi : ∀ Q : QT, _ := wi
    by_cases z : isW V L s 9 = true
    · rw [show otP V L (.inr s) = nuP V L 6 (exW V L 9 (.inr s)) from if_pos z]
      refine ⟨g, a1, a2, fun Q a x y b => ?_⟩
      simp only [u60_148, u60_149, u60_152, u60_154, u60_157, u60_160, u60_161, u60_163, u60_165, u60_168, u60_171, eq_self, q_nl0, q_nlI, q_nlR, not_false_eq_true, q_nz0, q_nz1, q_zv0, q_zv1, q_tl1, q_tl0, q_wif, q_swc, q_swn, List.cons_append, List.nil_append, if_true, if_false, e10, e01, Bool.false_eq_true, sh_2, sh_4, p_4_0 hp, wi, show rpS (.inr s) = s from rfl, z, Option.toList]
      refine (a3 _).trans ?_
      simp only [u60_168, u60_171, eq_self, q_nl0, q_nlI, q_nlR, not_false_eq_true, q_nz0, q_nz1, q_zv0, q_zv1, q_tl1, q_tl0, q_wif, q_swc, q_swn, List.cons_append, List.nil_append, if_true, if_false, e10, e01, Bool.false_eq_true]
    · rw [show otP V L (.inr s) = (.inr s, 0) from if_neg z]
      refine ⟨h, FrP_rf, H, fun Q a x y b => ?_⟩
      simp only [u60_148, u60_149, u60_152, u60_154, u60_157, u60_160, u60_161, u60_163, u60_165, u60_168, u60_171, eq_self, q_nl0, q_nlI, q_nlR, not_false_eq_true, q_nz0, q_nz1, q_zv0, q_zv1, q_tl1, q_tl0, q_wif, q_swc, q_swn, List.cons_append, List.nil_append, if_true, if_false, e10, e01, Bool.false_eq_true, sh_2, sh_4, p_4_0 hp, wi, show rpS (.inr s) = s from rfl, z, Option.toList]
      rfl
def FrO (C : Nat) (h g : HT) : Prop := (∀ c k, m_gR g c k = m_gR h c k) ∧ (∀ c k, c ≠ 2 ∨ k = 1 → c ≠ 4 ∨ k ≠ 2 ∧ k ≠ 3 → ¬ (c = C ∧ k = 9) → m_gI g c k = m_gI h c k) ∧ ∀ c k, c ≠ 2 → m_gL g c k = m_gL h c k
theorem c_out1 {X : XT} {d C L u n : Nat} {h : HT} {V : Nat → Nat} {r : RP} (H : CP h C L V r) (h9 : m_gI h C 9 = nI u) (hn : n < 8) : ∃ g, FrO C h g ∧ CP g C L V (ouP V L r).1 ∧ (∀ s', (ouP V L r).1 = .inr s' → m_gI g C 9 = nI (if (ouP V L r).2 = 1 then u ||| 2 ^ n else u)) ∧ ∀ (Q : QT) (a y : Int32), wq X (d + 7) 60 173 [some (.ref 4), some (.int (nI n)), some (.int a), some (.int y)] [] h Q = wq X (d + 7) 60 206 [some (.ref 4), some (.int (nI n)), some (.int a), some (.int y)] [] g Q := by
  obtain ⟨hp, hu, hU⟩ := CP_p H
  have hC : C = 5 ∨ C = 23 := hU
  have wi := fun (Q : QT) => c_wordAt (X := X) (d := d + 2) (r := 10020) (i := 10) (Q := Q) (CP_k H) rfl (by decide)
  obtain ⟨g, a1, a2, a3⟩ := c_expW (X := X) (d := d + 1) (i := 10) (r0 := 10020) H rfl (by decide)
  have hu2 := (CP_p a2).2.1
  have b2 := CP_sI (c := C) (k := 9) (v := nI (u ||| 2 ^ n)) a2 (by omega)
  have h9' : m_gI g C 9 = nI u := (a1.2.1 C 9 (by omega) (by omega)).trans h9
  have fo : FrO C h (m_sI g C 9 (nI (u ||| 2 ^ n))) := ⟨a1.1, fun c k x y z => by rw [gI_sI, if_neg z]; exact a1.2.1 c k x y, a1.2.2⟩
  have frf : FrO C h h := ⟨fun _ _ => rfl, fun _ _ _ _ _ => rfl, fun _ _ _ => rfl⟩
  cases r with
  | inl e =>
    by_cases z : isW V L (rpS (.inl e)) 10 = true
    · refine ⟨_, fo, b2, fun s' q => (nomatch q), fun Q a y => ?_⟩
      simp only [u60_173, u60_174, u60_177, u60_179, u60_182, u60_185, u60_186, u60_188, u60_191, u60_192, u60_195, u60_196, u60_199, u60_200, u60_201, u60_202, u60_203, eq_self, q_nl0, q_nlI, q_nlR, not_false_eq_true, q_nz0, q_nz1, q_zv0, q_zv1, q_tl1, q_tl0, q_wif, q_swc, q_swn, List.cons_append, List.nil_append, if_true, if_false, e10, e01, Bool.false_eq_true, sh_2, sh_4, p_4_0 hp, wi, z, Option.toList]
      refine (a3 _).trans ?_
      simp only [u60_191, u60_192, u60_195, u60_196, u60_199, u60_200, u60_201, u60_202, u60_203, eq_self, q_nl0, q_nlI, q_nlR, not_false_eq_true, q_nz0, q_nz1, q_zv0, q_zv1, q_tl1, q_tl0, q_wif, q_swc, q_swn, List.cons_append, List.nil_append, if_true, if_false, e10, e01, Bool.false_eq_true, sh_4, shT_0 hU, hu2, h9', nI_sh n hn, nI_or]
    · refine ⟨h, frf, H, fun s' q => (nomatch q), fun Q a y => ?_⟩
      simp only [u60_173, u60_174, u60_177, u60_179, u60_182, u60_185, u60_186, u60_188, u60_191, u60_192, u60_195, u60_196, u60_199, u60_200, u60_201, u60_202, u60_203, eq_self, q_nl0, q_nlI, q_nlR, not_false_eq_true, q_nz0, q_nz1, q_zv0, q_zv1, q_tl1, q_tl0, q_wif, q_swc, q_swn, List.cons_append, List.nil_append, if_true, if_false, e10, e01, Bool.false_eq_true, sh_2, sh_4, p_4_0 hp, wi, z, Option.toList]
  | inr s =>
    by_cases z : isW V L s 10 = true
    · rw [show exW V L 10 (.inr s) = .inr (nx V L s) from if_pos z] at b2
      rw [show ouP V L (.inr s) = (.inr (nx V L s), 1) from if_pos z]
      refine ⟨_, fo, b2, fun s' _ => ?_, fun Q a y => ?_⟩
      · rw [gI_sI, if_pos ⟨rfl, rfl⟩]
        rfl
      · simp only [u60_173, u60_174, u60_177, u60_179, u60_182, u60_185, u60_186, u60_188, u60_191, u60_192, u60_195, u60_196, u60_199, u60_200, u60_201, u60_202, u60_203, eq_self, q_nl0, q_nlI, q_nlR, not_false_eq_true, q_nz0, q_nz1, q_zv0, q_zv1, q_tl1, q_tl0, q_wif, q_swc, q_swn, List.cons_append, List.nil_append, if_true, if_false, e10, e01, Bool.false_eq_true, sh_2, sh_4, p_4_0 hp, wi, show rpS (.inr s) = s from rfl, z, Option.toList]
        refine (a3 _).trans ?_
        simp only [u60_191, u60_192, u60_195, u60_196, u60_199, u60_200, u60_201, u60_202, u60_203, eq_self, q_nl0, q_nlI, q_nlR, not_false_eq_true, q_nz0, q_nz1, q_zv0, q_zv1, q_tl1, q_tl0, q_wif, q_swc, q_swn, List.cons_append, List.nil_append, if_true, if_false, e10, e01, Bool.false_eq_true, sh_4, shT_0 hU, hu2, h9', nI_sh n hn, nI_or]
    · rw [show ouP V L (.inr s) = (.inr s, 0) from if_neg z]
      refine ⟨h, frf, H, fun s' _ => h9, fun Q a y => ?_⟩
      simp only [u60_173, u60_174, u60_177, u60_179, u60_182, u60_185, u60_186, u60_188, u60_191, u60_192, u60_195, u60_196, u60_199, u60_200, u60_201, u60_202, u60_203, eq_self, q_nl0, q_nlI, q_nlR, not_false_eq_true, q_nz0, q_nz1, q_zv0, q_zv1, q_tl1, q_tl0, q_wif, q_swc, q_swn, List.cons_append, List.nil_append, if_true, if_false, e10, e01, Bool.false_eq_true, sh_2, sh_4, p_4_0 hp, wi, show rpS (.inr s) = s from rfl, z, Option.toList]
theorem c_readMan {X : XT} {d C L s : Nat} {h : HT} {V : Nat → Nat} {τ : CT} (H : CP h C L V (.inr s)) (D : CD h C τ) (A : nmA τ) (h4 : τ 0 0 ≤ 4) (h7 : τ 0 1 ≤ 7) : ∃ g, FrC C h g ∧ CLr g C L V (liM V L s τ) ∧ ∀ Q : QT, wq X (d + 7) 60 0 [some (.ref 4), none, none, none] [] h Q = Q none g := by
  have hp := (CP_p H).1
  have hu := H.2.1.1
  have hU := H.2.1.2
  have hC : C = 5 ∨ C = 23 := hU
  have n0 := D.1.2.1
  have c0 : (nI (τ 0 1) < 0) = False := eq_false (nI_nlt (b := 0) (Nat.zero_le _) (by omega))
  have c1 : (nI (τ 0 1) < 7) = (τ 0 1 < 7) := nI_ltB (b := 7) (by omega) (by decide)
  by_cases full : 7 ≤ τ 0 1
  · obtain ⟨g, a1, a2, a3⟩ := c_refP (X := X) (d := d + 6) (k := 2) H (by decide)
    rw [show liM V L s τ = .inl (kdO V L s 2, s) from if_pos full]
    refine ⟨g, FrC_P a1, a2, fun Q => ?_⟩
    simp only [u60_0, u60_1, u60_4, u60_7, u60_8, u60_9, u60_12, u60_13, u60_15, u60_18, u60_19, u60_20, eq_self, q_nl0, q_nlI, q_nlR, not_false_eq_true, q_nz0, q_nz1, q_zv0, q_zv1, q_tl1, q_tl0, q_wif, q_swc, q_swn, List.cons_append, List.nil_append, if_true, if_false, e10, e01, Bool.false_eq_true, sh_4, shT_0 hU, hu, n0, c0, c1, eq_false (show ¬ τ 0 1 < 7 by omega)]
    refine (a3 _).trans ?_
    simp only [u60_23, eq_self, q_nl0, q_nlI, q_nlR, not_false_eq_true, q_nz0, q_nz1, q_zv0, q_zv1, q_tl1, q_tl0, q_wif, q_swc, q_swn, List.cons_append, List.nil_append, if_true, if_false, e10, e01, Bool.false_eq_true]
  · have f1 : τ 0 1 < 7 := by omega
    have i4 : m_in (nI (τ 0 1)) 7 = true := q_in f1 (by decide)
    have cl : (nI (τ 0 1)).toNatClampNeg = τ 0 1 := q_cl (by omega)
    obtain ⟨g1, a1, a2, a3⟩ := c_avP (X := X) (d := d + 2) H
    have hp1 := (CP_p a2).1
    obtain ⟨g2, b1, b2, b3⟩ := c_newName (X := X) (d := d + 1) (ν := τ 12) (n := τ 0 1) a2 sh_21 (by decide) h7 (nmA_m A) (fun i hi => (a1.2.2 21 i (by decide)).trans (D.2.2.2.1.2.1 i hi))
    have b4 := CP_sL (c := 21) (k := τ 0 1) (v := m_gL g1 2 5) b2 (by decide)
    obtain ⟨g3, c1', c2, c3⟩ := c_expW (X := X) (d := d + 1) (i := 6) (r0 := 10016) b4 rfl (by decide)
    -- cell C, and the crafts' names, from h to g3
    have t3 : ∀ c k, (c ≠ 2 ∨ k = 1) → (c ≠ 4 ∨ k ≠ 2 ∧ k ≠ 3) → m_gI g3 c k = m_gI h c k := fun c k x y => by
      rw [c1'.2.1 c k x y, gI_sL, b1.2.1 c k x y, a1.2.1 c k x y]
    have t3L : ∀ c k, c ≠ 2 → ¬ (c = 21 ∧ k = τ 0 1) → m_gL g3 c k = m_gL h c k := fun c k x y => by
      rw [c1'.2.2 c k x, gL_sL, if_neg y, b1.2.2 c k x, a1.2.2 c k x]
    have k0 : m_gI g3 C 0 = nI (τ 0 0) := (t3 _ _ (by omega) (by omega)).trans D.1.1
    have kn : ∀ j, j < τ 0 0 → m_gL g3 20 j = nL (τ 11 j) := fun j hj => (t3L 20 j (by decide) (by omega)).trans (D.2.2.2.1.1 j hj)
    obtain ⟨g4, d1, d2, d3⟩ := c_craftName (X := X) (d := d + 1) (ν := τ 11) (n := τ 0 0) (t := 0) c2 k0 h4 (by decide) (nmA_c A) kn
    obtain ⟨g5, x5, e1, e2, e2', e3⟩ := c_crL (X := X) (d := d) (C := C) (L := L) (V := V) (ν := τ 11) (n := τ 0 0) (m := nI (τ 0 1)) h4 (nmA_c A) 4 0 (mP1 V L s τ).2 _ g4 rfl (cnP_16 h4) d2 ((d1.2.1 C 0 (by omega) (by omega)).trans k0) (fun j hj => (d1.2.2 20 j (by decide)).trans (kn j hj))
    have hp5 := (CP_p e2).1
    have hu5 := (CP_p e2).2.1
    have e4 := CP_sI (c := C + 4) (k := τ 0 1) (v := nI (mP2 V L s τ).2) e2 (by omega)
    have hp5' := (CP_p e4).1
    have hu5' := (CP_p e4).2.1
    obtain ⟨g6, l1, l2, l3⟩ := c_numB (X := X) (d := d) (i := 7) (m := 20) (r0 := 10017) e4 rfl (by decide) (by decide)
    have l4 := CP_sI (c := C + 5) (k := τ 0 1) (v := nI (mP3 V L s τ).2) l2 (by omega)
    have hp6 := (CP_p l4).1
    have hu6 := (CP_p l4).2.1
    obtain ⟨g7, m1, m2, m3⟩ := c_numB (X := X) (d := d) (i := 8) (m := 99) (r0 := 10018) l4 rfl (by decide) (by decide)
    have m4 := CP_sI (c := C + 6) (k := τ 0 1) (v := nI (mP4 V L s τ).2) m2 (by omega)
    have hp7 := (CP_p m4).1
    have hu7 := (CP_p m4).2.1
    obtain ⟨g8, o1, o2, o3⟩ := c_others (X := X) (d := d) m4
    have o4 := CP_sI (c := C + 7) (k := τ 0 1) (v := nI (mP5 V L s τ).2) o2 (by omega)
    have h9 : m_gI (m_sI g8 (C + 7) (τ 0 1) (nI (mP5 V L s τ).2)) C 9 = nI (τ 0 6) := by
      rw [gI_sI, if_neg (by omega), o1.2.1 _ _ (by omega) (by omega), gI_sI, if_neg (by omega), m1.2.1 _ _ (by omega) (by omega), gI_sI, if_neg (by omega), l1.2.1 _ _ (by omega) (by omega), gI_sI, if_neg (by omega), e1.2.1 _ _ (by omega) (by omega), d1.2.1 _ _ (by omega) (by omega), t3 _ _ (by omega) (by omega)]
      exact D.1.2.2.2.2.2.2
    obtain ⟨g9, p1, p2, p9, p3⟩ := c_out1 (X := X) (d := d) o4 h9 (show τ 0 1 < 8 by omega)
    have hu9 := (CP_p p2).2.1
    have p5 := CP_sI (c := C) (k := 4) (v := nI (τ 0 1 + 1)) p2 (by omega)
    -- what is where, in the end
    have eI : ∀ c k, (c ≠ 2 ∨ k = 1) → (c ≠ 4 ∨ k ≠ 2 ∧ k ≠ 3) → ¬ (c = C ∧ (k = 4 ∨ k = 9)) → ¬ (C + 4 ≤ c ∧ c ≤ C + 7 ∧ k = τ 0 1) → m_gI (m_sI g9 C 4 (nI (τ 0 1 + 1))) c k = m_gI h c k := fun c k x y z w => by
      rw [gI_sI, if_neg (by omega), p1.2.1 c k x y (by omega), gI_sI, if_neg (by omega), o1.2.1 _ _ x y, gI_sI, if_neg (by omega), m1.2.1 _ _ x y, gI_sI, if_neg (by omega), l1.2.1 _ _ x y, gI_sI, if_neg (by omega), e1.2.1 _ _ x y, d1.2.1 _ _ x y, t3 _ _ x y]
    have eL : ∀ c k, c ≠ 2 → m_gL (m_sI g9 C 4 (nI (τ 0 1 + 1))) c k = m_gL g3 c k := fun c k x => by
      rw [gL_sI, p1.2.2 c k x, gL_sI, o1.2.2 c k x, gL_sI, m1.2.2 c k x, gL_sI, l1.2.2 c k x, gL_sI, e1.2.2 c k x, d1.2.2 c k x]
    have eN : m_gL g3 21 (τ 0 1) = m_gL g1 2 5 := by
      rw [c1'.2.2 21 _ (by decide), gL_sL, if_pos ⟨rfl, rfl⟩]
    have q3 : m_gI (m_sI g9 C 4 (nI (τ 0 1 + 1))) (C + 4) (τ 0 1) = nI (mP2 V L s τ).2 := by
      rw [gI_sI, if_neg (by omega), p1.2.1 _ _ (by omega) (by omega) (by omega), gI_sI, if_neg (by omega), o1.2.1 _ _ (by omega) (by omega), gI_sI, if_neg (by omega), m1.2.1 _ _ (by omega) (by omega), gI_sI, if_neg (by omega), l1.2.1 _ _ (by omega) (by omega), gI_sI, if_pos ⟨rfl, rfl⟩]
    have q4 : m_gI (m_sI g9 C 4 (nI (τ 0 1 + 1))) (C + 5) (τ 0 1) = nI (mP3 V L s τ).2 := by
      rw [gI_sI, if_neg (by omega), p1.2.1 _ _ (by omega) (by omega) (by omega), gI_sI, if_neg (by omega), o1.2.1 _ _ (by omega) (by omega), gI_sI, if_neg (by omega), m1.2.1 _ _ (by omega) (by omega), gI_sI, if_pos ⟨rfl, rfl⟩]
    have q5 : m_gI (m_sI g9 C 4 (nI (τ 0 1 + 1))) (C + 6) (τ 0 1) = nI (mP4 V L s τ).2 := by
      rw [gI_sI, if_neg (by omega), p1.2.1 _ _ (by omega) (by omega) (by omega), gI_sI, if_neg (by omega), o1.2.1 _ _ (by omega) (by omega), gI_sI, if_pos ⟨rfl, rfl⟩]
    have q6 : m_gI (m_sI g9 C 4 (nI (τ 0 1 + 1))) (C + 7) (τ 0 1) = nI (mP5 V L s τ).2 := by
      rw [gI_sI, if_neg (by omega), p1.2.1 _ _ (by omega) (by omega) (by omega), gI_sI, if_pos ⟨rfl, rfl⟩]
    have n9 : m_gI g9 C 4 = nI (τ 0 1) := by
      rw [p1.2.1 _ _ (by omega) (by omega) (by omega), gI_sI, if_neg (by omega), o1.2.1 _ _ (by omega) (by omega), gI_sI, if_neg (by omega), m1.2.1 _ _ (by omega) (by omega), gI_sI, if_neg (by omega), l1.2.1 _ _ (by omega) (by omega), gI_sI, if_neg (by omega), e1.2.1 _ _ (by omega) (by omega), d1.2.1 _ _ (by omega) (by omega), t3 _ _ (by omega) (by omega)]
      exact n0
    refine ⟨m_sI g9 C 4 (nI (τ 0 1 + 1)), ⟨fun c k => ?_, fun c k x => eI c k (by unfold exC at x; omega) (by unfold exC at x; omega) (by unfold exC at x; omega) (by unfold exC at x; omega), fun c k x => ?_⟩, ?_, fun Q => ?_⟩
    · rw [gR_sI, p1.1, gR_sI, o1.1, gR_sI, m1.1, gR_sI, l1.1, gR_sI, e1.1, d1.1, c1'.1, gR_sL, b1.1, a1.1]
    · rw [eL c k x.1]
      exact t3L c k x.1 (by omega)
    · rw [show liM V L s τ = fiL (mP6 V L s τ).1 (upM τ (wd V L (nx V L s)) (mP2 V L s τ).2 (mP3 V L s τ).2 (mP4 V L s τ).2 (mP5 V L s τ).2 (mP6 V L s τ).2) from if_neg full]
      change CP _ C L V (mP6 V L s τ).1 at p5
      change ∀ s', (mP6 V L s τ).1 = .inr s' → m_gI g9 C 9 = nI (if (mP6 V L s τ).2 = 1 then τ 0 6 ||| 2 ^ τ 0 1 else τ 0 6) at p9
      cases q : (mP6 V L s τ).1 with
      | inl e =>
        rw [q] at p5
        exact p5
      | inr s' =>
        rw [q] at p5
        have isn : isN V L (nx V L s) = true := mP_isn q
        have hw : m_gL g1 2 5 = nL (wd V L (nx V L s)) := a2.1.2.2.2.2.2.1 (isN_1 isn)
        refine ⟨p5, ⟨?_, ?_, ?_, ?_, ?_, ?_, ?_⟩, ⟨?_, ?_, ?_, ?_, ?_, ?_, ?_, ?_⟩, ⟨?_, ?_, ?_⟩, ⟨?_, ?_, ?_⟩, ?_, ?_, ?_⟩
        · exact (eI _ _ (by omega) (by omega) (by omega) (by omega)).trans D.1.1
        · show _ = nI (τ 0 1 + 1)
          rw [gI_sI, if_pos ⟨rfl, rfl⟩]
        · exact (eI _ _ (by omega) (by omega) (by omega) (by omega)).trans D.1.2.2.1
        · exact (eI _ _ (by omega) (by omega) (by omega) (by omega)).trans D.1.2.2.2.1
        · exact (eI _ _ (by omega) (by omega) (by omega) (by omega)).trans D.1.2.2.2.2.1
        · exact (eI _ _ (by omega) (by omega) (by omega) (by omega)).trans D.1.2.2.2.2.2.1
        · show _ = nI (if (mP6 V L s τ).2 = 1 then τ 0 6 ||| 2 ^ τ 0 1 else τ 0 6)
          rw [gI_sI, if_neg (by omega)]
          exact p9 s' q
        · exact fun i hi => (eI _ _ (by omega) (by omega) (by omega) (by omega)).trans (D.2.1.1 i hi)
        · exact fun i hi => (eI _ _ (by omega) (by omega) (by omega) (by omega)).trans (D.2.1.2.1 i hi)
        · exact row_up (fun i hi => (eI _ _ (by omega) (by omega) (by omega) (by omega)).trans (D.2.1.2.2.1 i hi)) q3
        · exact row_up (fun i hi => (eI _ _ (by omega) (by omega) (by omega) (by omega)).trans (D.2.1.2.2.2.1 i hi)) q4
        · exact row_up (fun i hi => (eI _ _ (by omega) (by omega) (by omega) (by omega)).trans (D.2.1.2.2.2.2.1 i hi)) q5
        · exact row_up (fun i hi => (eI _ _ (by omega) (by omega) (by omega) (by omega)).trans (D.2.1.2.2.2.2.2.1 i hi)) q6
        · exact fun i hi => (eI _ _ (by omega) (by omega) (by omega) (by omega)).trans (D.2.1.2.2.2.2.2.2.1 i hi)
        · exact fun i hi => (eI _ _ (by omega) (by omega) (by omega) (by omega)).trans (D.2.1.2.2.2.2.2.2.2 i hi)
        · exact (eI _ _ (by omega) (by omega) (by omega) (by omega)).trans D.2.2.1.1
        · exact (eI _ _ (by omega) (by omega) (by omega) (by omega)).trans D.2.2.1.2.1
        · exact fun i hi => (eI _ _ (by omega) (by omega) (by omega) (by omega)).trans (D.2.2.1.2.2 i hi)
        · exact fun i hi => ((eL _ _ (by omega)).trans (t3L _ _ (by omega) (by omega))).trans (D.2.2.2.1.1 i hi)
        · exact row_upL (fun i hi => ((eL _ _ (by omega)).trans (t3L _ _ (by omega) (by have : i < τ 0 1 := hi; omega))).trans (D.2.2.2.1.2.1 i hi)) (((eL _ _ (by omega)).trans eN).trans hw)
        · exact fun i hi => ((eL _ _ (by omega)).trans (t3L _ _ (by omega) (by omega))).trans (D.2.2.2.1.2.2 i hi)
        · exact (eI _ _ (by omega) (by omega) (by omega) (by omega)).trans D.2.2.2.2.1
        · exact (eI _ _ (by omega) (by omega) (by omega) (by omega)).trans D.2.2.2.2.2.1
        · exact (eI _ _ (by omega) (by omega) (by omega) (by omega)).trans D.2.2.2.2.2.2
    · simp only [u60_0, u60_1, u60_4, u60_7, u60_8, u60_9, u60_12, u60_13, u60_15, u60_18, u60_19, u60_20, u60_23, u60_24, u60_25, u60_28, u60_31, u60_32, u60_35, u60_36, u60_37, u60_38, u60_41, u60_42, u60_45, eq_self, q_nl0, q_nlI, q_nlR, not_false_eq_true, q_nz0, q_nz1, q_zv0, q_zv1, q_tl1, q_tl0, q_wif, q_swc, q_swn, List.cons_append, List.nil_append, if_true, if_false, e10, e01, Bool.false_eq_true, sh_2, sh_4, shT_0 hU, hu, n0, c0, c1, eq_true f1, p_4_0 hp]
      refine (a3 _).trans ?_
      simp only [u60_31, u60_32, u60_35, u60_36, u60_37, u60_38, u60_41, u60_42, u60_45, eq_self, q_nl0, q_nlI, q_nlR, not_false_eq_true, q_nz0, q_nz1, q_zv0, q_zv1, q_tl1, q_tl0, q_wif, q_swc, q_swn, List.cons_append, List.nil_append, if_true, if_false, e10, e01, Bool.false_eq_true, sh_2, sh_4, shT_0 hU, p_4_5 hp1]
      refine (b3 _).trans ?_
      simp only [u60_45, u60_46, u60_47, u60_49, eq_self, q_nl0, q_nlI, q_nlR, not_false_eq_true, q_nz0, q_nz1, q_zv0, q_zv1, q_tl1, q_tl0, q_wif, q_swc, q_swn, List.cons_append, List.nil_append, if_true, if_false, e10, e01, Bool.false_eq_true, sh_4, sh_21, i4, cl]
      refine (c3 _).trans ?_
      simp only [u60_52, u60_53, u60_54, eq_self, q_nl0, q_nlI, q_nlR, not_false_eq_true, q_nz0, q_nz1, q_zv0, q_zv1, q_tl1, q_tl0, q_wif, q_swc, q_swn, List.cons_append, List.nil_append, if_true, if_false, e10, e01, Bool.false_eq_true, sh_4]
      refine (d3 _).trans ?_
      simp only [u60_57, u60_58, u60_59, eq_self, q_nl0, q_nlI, q_nlR, not_false_eq_true, q_nz0, q_nz1, q_zv0, q_zv1, q_tl1, q_tl0, q_wif, q_swc, q_swn, List.cons_append, List.nil_append, if_true, if_false, e10, e01, Bool.false_eq_true]
      refine (e3 _).trans ?_
      change wq X (d + 7) 60 96 [_, _, some (.int (nI (mP2 V L s τ).2)), _] [] _ Q = _
      simp only [u60_96, u60_97, u60_100, u60_103, u60_104, u60_105, u60_106, u60_107, u60_110, u60_113, u60_114, u60_115, u60_117, u60_119, eq_self, q_nl0, q_nlI, q_nlR, not_false_eq_true, q_nz0, q_nz1, q_zv0, q_zv1, q_tl1, q_tl0, q_wif, q_swc, q_swn, List.cons_append, List.nil_append, if_true, if_false, e10, e01, Bool.false_eq_true, sh_4, shT_0 hU, shT_4 hU, i4, cl, hu5, pT_5 hU hp5, hu5', pT_6 hU hp5']
      refine (l3 _).trans ?_
      change wq X (d + 7) 60 122 _ [.int (nI (mP3 V L s τ).2), _, _] _ Q = _
      simp only [u60_122, u60_123, u60_124, u60_127, u60_130, u60_131, u60_132, u60_134, u60_136, eq_self, q_nl0, q_nlI, q_nlR, not_false_eq_true, q_nz0, q_nz1, q_zv0, q_zv1, q_tl1, q_tl0, q_wif, q_swc, q_swn, List.cons_append, List.nil_append, if_true, if_false, e10, e01, Bool.false_eq_true, sh_4, shT_0 hU, shT_5 hU, i4, cl, hu6, pT_7 hU hp6]
      refine (m3 _).trans ?_
      change wq X (d + 7) 60 139 _ [.int (nI (mP4 V L s τ).2), _, _] _ Q = _
      simp only [u60_139, u60_140, u60_141, u60_144, u60_147, eq_self, q_nl0, q_nlI, q_nlR, not_false_eq_true, q_nz0, q_nz1, q_zv0, q_zv1, q_tl1, q_tl0, q_wif, q_swc, q_swn, List.cons_append, List.nil_append, if_true, if_false, e10, e01, Bool.false_eq_true, sh_4, shT_0 hU, shT_6 hU, i4, cl, hu7, pT_8 hU hp7]
      rw [o3]
      change wq X (d + 7) 60 172 _ [.int (nI (mP5 V L s τ).2), _, _] _ Q = _
      simp only [u60_172, eq_self, q_nl0, q_nlI, q_nlR, not_false_eq_true, q_nz0, q_nz1, q_zv0, q_zv1, q_tl1, q_tl0, q_wif, q_swc, q_swn, List.cons_append, List.nil_append, if_true, if_false, e10, e01, Bool.false_eq_true, sh_4, shT_7 hU, i4, cl]
      rw [p3]
      simp only [u60_206, u60_207, u60_210, u60_211, u60_214, u60_215, u60_216, u60_219, eq_self, q_nl0, q_nlI, q_nlR, not_false_eq_true, q_nz0, q_nz1, q_zv0, q_zv1, q_tl1, q_tl0, q_wif, q_swc, q_swn, List.cons_append, List.nil_append, if_true, if_false, e10, e01, Bool.false_eq_true, sh_4, shT_0 hU, hu9, n9, nI_1]
