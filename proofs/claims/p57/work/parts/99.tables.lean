/-! THE CLASS'S TABLES, the rest -/
def mmZ (h : HT) (C c : Nat) : Nat := zM (m_gI h (C + 4)) c (min 7 (m_gI h C 4).toNatClampNeg)
theorem mmZ_lt {h : HT} {C c : Nat} : mmZ h C c < 128 := Nat.lt_of_lt_of_le (zM_lt _) (Nat.pow_le_pow_right (n := 2) (j := 7) (by decide) (by omega))
theorem zS_lt {nd : Nat → Int32} {mm : Nat → Nat} {o : Nat} : ∀ c, zS nd mm o c < 2 ^ c
  | 0 => Nat.lt_succ_self 0
  | c + 1 => by
    have := zS_lt (nd := nd) (mm := mm) (o := o) c
    have h2 : zS nd mm o c < 2 ^ (c + 1) := Nat.lt_of_lt_of_le this (Nat.pow_le_pow_right (by decide) (by omega))
    unfold zS
    split
    · exact orb h2 (by omega)
    · exact h2
def zB (h : HT) (C : Nat) (b : Nat → Int32) (n : Nat) : Nat → Int32 := fun k => if k < n then nI (zS (m_gI h (C + 1)) (mmZ h C) k (min 4 (m_gI h C 0).toNatClampNeg)) else b k
def zE (h : HT) (C : Nat) (e : Nat → Int32) (n : Nat) : Nat → Int32 := fun k => if k < n then zL (m_gI h (C + 2)) k 4 else e k
section TABLES
variable {X : XT} {d C : Nat} {h : HT} {Q : QT}
theorem z_in2 {o : Nat} {a b e : Nat → Int32} (hp : Ptr h) (hU : isT C) (ho : o < 128) (ha : ∀ c, c < 4 → a c = nI (mmZ h C c)) : ∀ k i, i + k = min 4 (m_gI h C 0).toNatClampNeg → wq X (d + 2) 72 81 [some (.ref C), some (.int (nI o)), some (.int (nI i))] [] (hZ h C a (up b o (nI (zS (m_gI h (C + 1)) (mmZ h C) o i))) e) Q = wq X (d + 2) 72 127 [some (.ref C), some (.int (nI o)), some (.int (nI (i + k)))] [] (hZ h C a (up b o (nI (zS (m_gI h (C + 1)) (mmZ h C) o (i + k)))) e) Q := by
  have hp' : ∀ a b e, Ptr (hZ h C a b e) := fun a b e => hp
  have m128 : m_in (nI o) 128 = true := q_in ho (by decide)
  have co : (nI o).toNatClampNeg = o := q_cl (by omega)
  have g0 : ∀ a b e, m_gI (hZ h C a b e) C 0 = m_gI h C 0 := fun a b e => gI_hZo (by omega)
  have g1 : ∀ a b e i, m_gI (hZ h C a b e) (C + 1) i = m_gI h (C + 1) i := fun a b e i => gI_hZo (by omega)
  intro k
  induction k with
  | zero =>
    intro i hi
    have hi : i = min 4 (m_gI h C 0).toNatClampNeg := hi
    have c1 := cl_lt (x := m_gI h C 0) (i := i) (by omega)
    have c2 : (nI i < 4) = (i < 4) := nI_ltB (b := 4) (by omega) (by decide)
    rw [u72_81]
    by_cases z : i < (m_gI h C 0).toNatClampNeg
    · have y : ¬ i < 4 := by omega
      simp only [u72_82, u72_83, u72_86, u72_89, u72_90, u72_91, eq_self, q_nl0, q_nlI, q_nlR, not_false_eq_true, q_nz0, q_nz1, q_zv0, q_zv1, q_tl1, q_tl0, q_wif, q_swc, q_swn, List.cons_append, List.nil_append, if_true, if_false, e10, e01, Bool.false_eq_true, shT_0 hU, g0, c1, c2, z, y, Nat.add_zero]
    · simp only [u72_82, u72_83, u72_86, u72_89, u72_90, u72_91, eq_self, q_nl0, q_nlI, q_nlR, not_false_eq_true, q_nz0, q_nz1, q_zv0, q_zv1, q_tl1, q_tl0, q_wif, q_swc, q_swn, List.cons_append, List.nil_append, if_true, if_false, e10, e01, Bool.false_eq_true, shT_0 hU, g0, c1, c2, z, Nat.add_zero]
  | succ k ih =>
    intro i hi
    have z : i < (m_gI h C 0).toNatClampNeg := by omega
    have y : i < 4 := by omega
    have c1 := cl_lt (x := m_gI h C 0) (i := i) (by omega)
    have c2 : (nI i < 4) = (i < 4) := nI_ltB (b := 4) (by omega) (by decide)
    have m4 : m_in (nI i) 4 = true := q_in y (by decide)
    have ci : (nI i).toNatClampNeg = i := q_cl (by omega)
    have hh := fun (Q : QT) => z_hands (X := X) (d := d) (Q := Q) (h := hZ h C a (up b o (nI (zS (m_gI h (C + 1)) (mmZ h C) o i))) e) (c := i) (n := o) (m := mmZ h C i) (hp' _ _ _) hU y ho mmZ_lt (gI_hZ3.trans (ha i y))
    rw [show i + (k + 1) = i + 1 + k by omega, ← ih (i + 1) (by omega), u72_81]
    generalize hz : wq X (d + 2) 72 81 [some (.ref C), some (.int (nI o)), some (.int (nI (i + 1)))] [] (hZ h C a (up b o (nI (zS (m_gI h (C + 1)) (mmZ h C) o (i + 1)))) e) Q = Z
    unfold zS at hz
    by_cases w : nI (pcN (mmZ h C i &&& (127 ^^^ o))) < m_gI h (C + 1) i
    · rw [if_pos w] at hz
      simp only [u72_82, u72_83, u72_86, u72_89, u72_90, u72_91, u72_94, u72_95, u72_96, u72_97, u72_100, u72_101, u72_104, u72_105, u72_106, u72_109, u72_110, u72_113, u72_114, u72_115, u72_116, u72_117, u72_118, u72_119, u72_120, u72_121, u72_124, eq_self, q_nl0, q_nlI, q_nlR, not_false_eq_true, q_nz0, q_nz1, q_zv0, q_zv1, q_tl1, q_tl0, q_wif, q_swc, q_swn, List.cons_append, List.nil_append, if_true, if_false, e10, e01, Bool.false_eq_true, shT_0 hU, shT_1 hU, shT_13 hU, pT_1 hU (hp' _ _ _), pT_17 hU (hp' _ _ _), g0, g1, gI_hZ13, sI_hZ13, up_s, up_up, c1, c2, z, y, hh, w, m4, ci, m128, co, nI_sh i (show i < 8 by omega), nI_or, nI_1, Option.toList]
      exact hz
    · rw [if_neg w] at hz
      simp only [u72_82, u72_83, u72_86, u72_89, u72_90, u72_91, u72_94, u72_95, u72_96, u72_97, u72_100, u72_101, u72_104, u72_105, u72_106, u72_109, u72_110, u72_113, u72_114, u72_115, u72_116, u72_117, u72_118, u72_119, u72_120, u72_121, u72_124, eq_self, q_nl0, q_nlI, q_nlR, not_false_eq_true, q_nz0, q_nz1, q_zv0, q_zv1, q_tl1, q_tl0, q_wif, q_swc, q_swn, List.cons_append, List.nil_append, if_true, if_false, e10, e01, Bool.false_eq_true, shT_0 hU, shT_1 hU, shT_13 hU, pT_1 hU (hp' _ _ _), g0, g1, c1, c2, z, y, hh, w, m4, ci, nI_1, Option.toList]
      exact hz
theorem z_l2 {a b e : Nat → Int32} (hp : Ptr h) (hU : isT C) (ha : ∀ c, c < 4 → a c = nI (mmZ h C c)) : ∀ k o (y : Option Value), o + k = 128 → ∃ y', wq X (d + 2) 72 65 [some (.ref C), some (.int (nI o)), y] [] (hZ h C a (zB h C b o) e) Q = wq X (d + 2) 72 133 [some (.ref C), some (.int (nI 128)), y'] [] (hZ h C a (zB h C b 128) e) Q := by
  have hp' : ∀ a b e, Ptr (hZ h C a b e) := fun a b e => hp
  intro k
  induction k with
  | zero =>
    intro o y hc
    have : o = 128 := by omega
    subst this
    refine ⟨y, ?_⟩
    have c1 : (nI 128 < (128 : Int32)) = False := eq_false (by decide)
    rw [u72_65]
    simp only [u72_66, u72_69, eq_self, q_nl0, q_nlI, q_nlR, not_false_eq_true, q_nz0, q_nz1, q_zv0, q_zv1, q_tl1, q_tl0, q_wif, q_swc, q_swn, List.cons_append, List.nil_append, if_true, if_false, e10, e01, Bool.false_eq_true, c1]
  | succ k ih =>
    intro o y hc
    have c1 : (nI o < 128) = True := eq_true (nI_lt (b := 128) (by omega) (by decide))
    have m4 : m_in (nI o) 128 = true := q_in (by omega) (by decide)
    have cc : (nI o).toNatClampNeg = o := q_cl (by omega)
    obtain ⟨y', e'⟩ := ih (o + 1) (some (.int (nI (0 + min 4 (m_gI h C 0).toNatClampNeg)))) (by omega)
    refine ⟨y', ?_⟩
    rw [← e']
    have t := z_in2 (X := X) (d := d) (Q := Q) (a := a) (b := zB h C b o) (e := e) hp hU (show o < 128 by omega) ha (min 4 (m_gI h C 0).toNatClampNeg) 0 (by omega)
    have za : up (zB h C b o) o (nI (zS (m_gI h (C + 1)) (mmZ h C) o (0 + min 4 (m_gI h C 0).toNatClampNeg))) = zB h C b (o + 1) := by
      funext j
      show (if j = o then _ else if j < o then _ else b j) = if j < o + 1 then _ else b j
      by_cases w : j = o
      · rw [if_pos w, if_pos (by omega), w, Nat.zero_add]
      · rw [if_neg w]
        by_cases v : j < o
        · rw [if_pos v, if_pos (by omega)]
        · rw [if_neg v, if_neg (by omega)]
    rw [za] at t
    generalize hz : wq X (d + 2) 72 65 [some (.ref C), some (.int (nI (o + 1))), some (.int (nI (0 + min 4 (m_gI h C 0).toNatClampNeg)))] [] (hZ h C a (zB h C b (o + 1)) e) Q = Z
    rw [u72_65]
    simp only [u72_66, u72_69, u72_72, u72_73, u72_76, u72_77, u72_78, u72_79, u72_80, eq_self, q_nl0, q_nlI, q_nlR, not_false_eq_true, q_nz0, q_nz1, q_zv0, q_zv1, q_tl1, q_tl0, q_wif, q_swc, q_swn, List.cons_append, List.nil_append, if_true, if_false, e10, e01, Bool.false_eq_true, c1, shT_0 hU, shT_13 hU, pT_17 hU (hp' _ _ _), m4, cc, sI_hZ13]
    refine Eq.trans t ?_
    simp only [u72_127, u72_130, eq_self, q_nl0, q_nlI, q_nlR, not_false_eq_true, q_nz0, q_nz1, q_zv0, q_zv1, q_tl1, q_tl0, q_wif, q_swc, q_swn, List.cons_append, List.nil_append, if_true, if_false, e10, e01, Bool.false_eq_true, nI_1]
    exact hz
theorem z_l3 {a b e : Nat → Int32} {y : Option Value} (hp : Ptr h) (hU : isT C) : wq X (d + 2) 72 135 [some (.ref C), some (.int (nI 0)), y] [] (hZ h C a b (zE h C e 0)) Q = wq X (d + 2) 72 135 [some (.ref C), some (.int (nI 16)), y] [] (hZ h C a b (zE h C e 16)) Q := by
  have hp' : ∀ a b e, Ptr (hZ h C a b e) := fun a b e => hp
  have g2 : ∀ a b e, m_gI (hZ h C a b e) (C + 2) = m_gI h (C + 2) := fun a b e => funext fun i => gI_hZo (by omega)
  refine q_loop (fun o => wq X (d + 2) 72 135 [some (.ref C), some (.int (nI o)), y] [] (hZ h C a b (zE h C e o)) Q) 16 (fun o ho => ?_)
  have c1 : (nI o < 16) = True := eq_true (nI_lt (b := 16) ho (by decide))
  have m4 : m_in (nI o) 16 = true := q_in ho (by decide)
  have cc : (nI o).toNatClampNeg = o := q_cl (by omega)
  have zs := fun (Q : QT) => z_sum (X := X) (d := d + 1) (Q := Q) (h := hZ h C a b (zE h C e o)) (s := o) (R := C + 2) (shT_2 hU) ho
  have za : up (zE h C e o) o (zL (m_gI h (C + 2)) o 4) = zE h C e (o + 1) := by
    funext j
    show (if j = o then _ else if j < o then _ else e j) = if j < o + 1 then _ else e j
    by_cases w : j = o
    · rw [if_pos w, if_pos (by omega), w]
    · rw [if_neg w]
      by_cases v : j < o
      · rw [if_pos v, if_pos (by omega)]
      · rw [if_neg v, if_neg (by omega)]
  show wq X (d + 2) 72 135 [some (.ref C), some (.int (nI o)), y] [] (hZ h C a b (zE h C e o)) Q = wq X (d + 2) 72 135 [some (.ref C), some (.int (nI (o + 1))), y] [] (hZ h C a b (zE h C e (o + 1))) Q
  generalize hz : wq X (d + 2) 72 135 [some (.ref C), some (.int (nI (o + 1))), y] [] (hZ h C a b (zE h C e (o + 1))) Q = Z
  rw [u72_135]
  rw [g2] at zs
  generalize hv : zL (m_gI h (C + 2)) o 4 = v at zs za
  simp only [u72_136, u72_138, u72_141, u72_142, u72_145, u72_146, u72_147, u72_150, u72_151, u72_154, u72_155, u72_158, eq_self, q_nl0, q_nlI, q_nlR, not_false_eq_true, q_nz0, q_nz1, q_zv0, q_zv1, q_tl1, q_tl0, q_wif, q_swc, q_swn, List.cons_append, List.nil_append, if_true, if_false, e10, e01, Bool.false_eq_true, c1, shT_0 hU, shT_2 hU, shT_14 hU, pT_2 hU (hp' _ _ _), pT_18 hU (hp' _ _ _), m4, cc, zs, sI_hZ14, za, nI_1, Option.toList]
  exact hz
theorem c_settle (hp : Ptr h) (hU : isT C) : ∃ a b e, (∀ c, c < 4 → a c = nI (mmZ h C c)) ∧ (∀ o, o < 128 → b o = nI (zS (m_gI h (C + 1)) (mmZ h C) o (min 4 (m_gI h C 0).toNatClampNeg))) ∧ (∀ s, s < 16 → e s = zL (m_gI h (C + 2)) s 4) ∧ ∀ Q : QT, wq X (d + 2) 72 0 [some (.ref C), none, none] [] h Q = Q none (hZ h C a b e) := by
  refine ⟨zA h C (m_gI h (C + 3)) 4, zB h C (m_gI h (C + 13)) 128, zE h C (m_gI h (C + 14)) 16, fun c hc => if_pos hc, fun o ho => if_pos ho, fun s hs => if_pos hs, fun Q => ?_⟩
  have za : zA h C (m_gI h (C + 3)) 0 = m_gI h (C + 3) := funext fun j => if_neg (by omega)
  have zb : zB h C (m_gI h (C + 13)) 0 = m_gI h (C + 13) := funext fun j => if_neg (by omega)
  have ze : zE h C (m_gI h (C + 14)) 0 = m_gI h (C + 14) := funext fun j => if_neg (by omega)
  obtain ⟨y1, t1⟩ := z_l1 (X := X) (d := d + 2) (Q := Q) (a := m_gI h (C + 3)) (b := m_gI h (C + 13)) (e := m_gI h (C + 14)) hp hU 4 0 none rfl
  obtain ⟨y2, t2⟩ := z_l2 (X := X) (d := d) (Q := Q) (a := zA h C (m_gI h (C + 3)) 4) (b := m_gI h (C + 13)) (e := m_gI h (C + 14)) hp hU (fun c hc => if_pos hc) 128 0 y1 rfl
  have t3 := z_l3 (X := X) (d := d) (Q := Q) (a := zA h C (m_gI h (C + 3)) 4) (b := zB h C (m_gI h (C + 13)) 128) (e := m_gI h (C + 14)) (y := y2) hp hU
  rw [za, hZ_id] at t1
  rw [zb] at t2
  rw [ze] at t3
  rw [u72_0, u72_1]
  refine Eq.trans t1 ?_
  rw [u72_63, u72_64]
  refine Eq.trans t2 ?_
  rw [u72_133, u72_134]
  refine Eq.trans t3 ?_
  have c1 : (nI 16 < (16 : Int32)) = False := eq_false (by decide)
  rw [u72_135]
  simp only [u72_136, u72_138, u72_161, eq_self, q_nl0, q_nlI, q_nlR, not_false_eq_true, q_nz0, q_nz1, q_zv0, q_zv1, q_tl1, q_tl0, q_wif, q_swc, q_swn, List.cons_append, List.nil_append, if_true, if_false, e10, e01, Bool.false_eq_true, c1]
/-- the tables of a city that is told well -/
theorem CCity_Z {τ : CT} {a b e : Nat → Int32} (hC : C = 5 ∨ C = 23) (D : CD h C τ) (O : cOk τ) (ha : ∀ c, c < 4 → a c = nI (mmZ h C c)) (hb : ∀ o, o < 128 → b o = nI (zS (m_gI h (C + 1)) (mmZ h C) o (min 4 (m_gI h C 0).toNatClampNeg))) (he : ∀ s, s < 16 → e s = zL (m_gI h (C + 2)) s 4) : CCity (hZ h C a b e) C τ := by
  have h4 := o_cr O
  have h7 := o_mn O
  have n7 : min 7 (m_gI h C 4).toNatClampNeg = τ 0 1 := by
    rw [D.1.2.1, q_cl (show τ 0 1 < 2 ^ 31 by omega)]
    omega
  have n4 : min 4 (m_gI h C 0).toNatClampNeg = τ 0 0 := by
    rw [D.1.1, q_cl (show τ 0 0 < 2 ^ 31 by omega)]
    omega
  have eM : ∀ c, c < 4 → ∀ i, i ≤ τ 0 1 → zM (m_gI h (C + 4)) c i = sMenL τ c i := by
    intro c hc i
    induction i with
    | zero => intro _; rfl
    | succ i ih =>
      intro hi
      have sk := D.2.1.2.2.1 i (by omega)
      have k16 := o_sk O i
      show (if (m_gI h (C + 4) i >>> (nI c &&& 31)) &&& 1 = 1 then _ else _) = if (τ 3 i).testBit c then _ else _
      rw [ih (by omega), sk]
      simp only [nI_bit4 (τ 3 i) (by omega) c (by omega)]
  have eMM : ∀ c, c < 4 → mmZ h C c = sMen τ c := fun c hc => by
    unfold mmZ
    rw [n7]
    exact eM c hc _ (Nat.le_refl _)
  have eS : ∀ o, ∀ c, c ≤ τ 0 0 → zS (m_gI h (C + 1)) (mmZ h C) o c = sShortL τ o c := by
    intro o c
    induction c with
    | zero => intro _; rfl
    | succ c ih =>
      intro hc
      have nd := D.2.1.1 c (by omega)
      have b7 := O.2.2.2.2.2.2.2.2.1 c
      have p7 := pcN_le (mmZ h C c &&& (127 ^^^ o)) (Nat.lt_of_le_of_lt Nat.and_le_left mmZ_lt)
      show (if nI (pcN (mmZ h C c &&& (127 ^^^ o))) < m_gI h (C + 1) c then _ else _) = if pcN (sMen τ c &&& (127 ^^^ o)) < τ 1 c then _ else _
      rw [eMM c (by omega)] at p7 ⊢
      rw [ih (by omega), nd]
      simp only [nI_ltB (show pcN (sMen τ c &&& (127 ^^^ o)) < 2 ^ 31 by omega) (show τ 1 c < 2 ^ 31 by omega)]
  have eL1 : ∀ s, ∀ i, i ≤ τ 0 0 → zL (m_gI h (C + 2)) s i = nI (sLossL τ s i) := by
    intro s i
    induction i with
    | zero => intro _; rfl
    | succ i ih =>
      intro hi
      have hm := D.2.1.2.1 i (by omega)
      show (if s.testBit i = true then zL _ s i + m_gI h (C + 2) i else zL _ s i) = nI (if s.testBit i then sLossL τ s i + τ 2 i else sLossL τ s i)
      rw [ih (by omega), hm]
      by_cases w : s.testBit i = true
      · rw [if_pos w, if_pos w, nI_add]
      · rw [if_neg w, if_neg w]
  have eL2 : ∀ s, s < 2 ^ τ 0 0 → ∀ k, zL (m_gI h (C + 2)) s (τ 0 0 + k) = zL (m_gI h (C + 2)) s (τ 0 0) := by
    intro s hs k
    induction k with
    | zero => rfl
    | succ k ih =>
      have w : s.testBit (τ 0 0 + k) = false := Nat.testBit_lt_two_pow (Nat.lt_of_lt_of_le hs (Nat.pow_le_pow_right (by decide) (by omega)))
      show (if s.testBit (τ 0 0 + k) = true then _ else zL _ s (τ 0 0 + k)) = _
      rw [w]
      exact ih
  have eL : ∀ s, s < 2 ^ τ 0 0 → zL (m_gI h (C + 2)) s 4 = nI (sLossOf τ s) := fun s hs => by
    have := eL2 s hs (4 - τ 0 0)
    rw [show τ 0 0 + (4 - τ 0 0) = 4 by omega] at this
    rw [this]
    exact eL1 s _ (Nat.le_refl _)
  have g : ∀ c k, c ≠ C + 3 ∧ c ≠ C + 13 ∧ c ≠ C + 14 → m_gI (hZ h C a b e) c k = m_gI h c k := fun c k n => gI_hZo n
  refine ⟨⟨?_, ?_, ?_, ?_, ?_, ?_, ?_⟩, ?_, ?_, ?_, ?_, ?_, ?_, ?_, ?_, ?_, ⟨?_, ?_⟩, ?_, ?_, ?_⟩
  · exact (g _ _ (by omega)).trans D.1.1
  · exact (g _ _ (by omega)).trans D.1.2.1
  · exact (g _ _ (by omega)).trans D.1.2.2.1
  · exact (g _ _ (by omega)).trans D.1.2.2.2.1
  · exact (g _ _ (by omega)).trans D.1.2.2.2.2.1
  · exact (g _ _ (by omega)).trans D.1.2.2.2.2.2.1
  · exact (g _ _ (by omega)).trans D.1.2.2.2.2.2.2
  · exact fun i hi => (g _ _ (by omega)).trans (D.2.1.1 i hi)
  · exact fun i hi => (g _ _ (by omega)).trans (D.2.1.2.1 i hi)
  · exact fun c hc => by rw [gI_hZ3, ha c (by omega), eMM c (by omega)]
  · exact fun i hi => (g _ _ (by omega)).trans (D.2.1.2.2.1 i hi)
  · exact fun i hi => (g _ _ (by omega)).trans (D.2.1.2.2.2.1 i hi)
  · exact fun i hi => (g _ _ (by omega)).trans (D.2.1.2.2.2.2.1 i hi)
  · exact fun i hi => (g _ _ (by omega)).trans (D.2.1.2.2.2.2.2.1 i hi)
  · exact fun i hi => (g _ _ (by omega)).trans (D.2.1.2.2.2.2.2.2.1 i hi)
  · exact fun i hi => (g _ _ (by omega)).trans (D.2.1.2.2.2.2.2.2.2 i hi)
  · exact (g _ _ (by omega)).trans D.2.2.1.1
  · exact (g _ _ (by omega)).trans D.2.2.1.2.1
  · exact fun i hi => (g _ _ (by omega)).trans (D.2.2.1.2.2 i hi)
  · intro n hn
    rw [gI_hZ13, hb n hn, n4, eS n _ (Nat.le_refl _)]
    rfl
  · intro s hs
    have p16 : 2 ^ τ 0 0 ≤ 2 ^ 4 := Nat.pow_le_pow_right (by decide) h4
    rw [gI_hZ14, he s (by omega), eL s hs]
end TABLES
