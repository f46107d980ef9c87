/-! THE LAW WRITES A CITY: all men, all demands -/
theorem mRow_at {t : Nat → Int32} {w : Int32} {n m k : Nat} : mRow t w n m k = if k = 7 then (if mHu w = true then t 7 ||| nI (2 ^ m) else t 7) else if k = 20 + 4 * m then nI (skS w n n) else if k = 21 + 4 * m then nI (mLv w) else if k = 22 + 4 * m then nI (mDe w) else if k = 23 + 4 * m then (if mHo w = true then nI (mOt w) else t k) else t k := by
  unfold mRow up
  by_cases k7 : k = 7
  · subst k7
    cases mHo w <;> cases mHu w <;> simp only [if_true, if_false, Bool.false_eq_true, show ¬ 7 = 20 + 4 * m by omega, show ¬ 7 = 21 + 4 * m by omega, show ¬ 7 = 22 + 4 * m by omega, show ¬ 7 = 23 + 4 * m by omega]
  · by_cases k0 : k = 20 + 4 * m
    · cases mHo w <;> cases mHu w <;> simp only [if_true, if_false, Bool.false_eq_true, k7, k0, show ¬ 20 + 4 * m = 7 by omega, show ¬ 20 + 4 * m = 21 + 4 * m by omega, show ¬ 20 + 4 * m = 22 + 4 * m by omega, show ¬ 20 + 4 * m = 23 + 4 * m by omega]
    · by_cases k1 : k = 21 + 4 * m
      · cases mHo w <;> cases mHu w <;> simp only [if_true, if_false, Bool.false_eq_true, k1, show ¬ 21 + 4 * m = 7 by omega, show ¬ 21 + 4 * m = 20 + 4 * m by omega, show ¬ 21 + 4 * m = 22 + 4 * m by omega, show ¬ 21 + 4 * m = 23 + 4 * m by omega]
      · by_cases k2 : k = 22 + 4 * m
        · cases mHo w <;> cases mHu w <;> simp only [if_true, if_false, Bool.false_eq_true, k2, show ¬ 22 + 4 * m = 7 by omega, show ¬ 22 + 4 * m = 20 + 4 * m by omega, show ¬ 22 + 4 * m = 21 + 4 * m by omega, show ¬ 22 + 4 * m = 23 + 4 * m by omega]
        · by_cases k3 : k = 23 + 4 * m
          · cases mHo w <;> cases mHu w <;> simp only [if_true, if_false, Bool.false_eq_true, k3, show ¬ 23 + 4 * m = 7 by omega, show ¬ 23 + 4 * m = 20 + 4 * m by omega, show ¬ 23 + 4 * m = 21 + 4 * m by omega, show ¬ 23 + 4 * m = 22 + 4 * m by omega]
          · cases mHo w <;> cases mHu w <;> simp only [if_true, if_false, Bool.false_eq_true, k7, k0, k1, k2, k3]
def ouN (X : XT) : Nat → Nat
  | 0 => 0
  | m + 1 => if mHu (mW X m) = true then ouN X m ||| 2 ^ m else ouN X m
theorem ouN_lt {X : XT} : ∀ m, ouN X m < 2 ^ m
  | 0 => Nat.one_pos
  | m + 1 => by
    have ih := ouN_lt (X := X) m
    have h2 : 2 ^ m < 2 ^ (m + 1) := Nat.pow_lt_pow_right (by decide) (Nat.lt_succ_self m)
    show (if mHu (mW X m) = true then ouN X m ||| 2 ^ m else ouN X m) < 2 ^ (m + 1)
    split
    · exact orb (Nat.lt_trans ih h2) (Nat.lt_succ_self m)
    · exact Nat.lt_trans ih h2
def mLX (X : XT) (n m : Nat) (U : List Nat) : List Nat := mLn m (skS (mW X m) n n) (mLv (mW X m)) (mDe (mW X m)) (mHo (mW X m)) (mOt (mW X m)) (mHu (mW X m)) U
def bAm (X : XT) (n : Nat) : Nat → List Nat
  | 0 => []
  | m + 1 => bAm X n m ++ mLX X n m []
def RM (X : XT) (t : Nat → Int32) (c : Int32) (n M m : Nat) : Prop := t 0 = nI n ∧ t 1 = nI M ∧ t 7 = nI (ouN X m) ∧ (∀ j, 2 ≤ j → j < 10 → j ≠ 7 → t j = 0) ∧ (∀ j, j < n → t (10 + 2 * j) = nI (crN c j) ∧ t (11 + 2 * j) = nI (crV c j)) ∧ (∀ j, j < m → t (20 + 4 * j) = nI (skS (mW X j) n n) ∧ t (21 + 4 * j) = nI (mLv (mW X j)) ∧ t (22 + 4 * j) = nI (mDe (mW X j)) ∧ t (23 + 4 * j) = nI (if mHo (mW X j) = true then mOt (mW X j) else 0)) ∧ ∀ j, 20 + 4 * m ≤ j → j < 70 → t j = 0
theorem RM_up {X : XT} {t : Nat → Int32} {c : Int32} {n M m : Nat} (hn : n ≤ 3) (hm : m < 5) (R : RM X t c n M m) : RM X (mRow t (mW X m) n m) c n M (m + 1) := by
  obtain ⟨r0, r1, r7, rz, rc, rm, re⟩ := R
  have oth : ∀ k, k ≠ 7 → (k < 20 + 4 * m ∨ 24 + 4 * m ≤ k) → mRow t (mW X m) n m k = t k := fun k h1 h2 => by
    rw [mRow_at, if_neg h1, if_neg (by omega), if_neg (by omega), if_neg (by omega), if_neg (by omega)]
  refine ⟨(oth 0 (by decide) (by omega)).trans r0, (oth 1 (by decide) (by omega)).trans r1, ?_, fun j h1 h2 h3 => (oth j h3 (by omega)).trans (rz j h1 h2 h3), fun j hj => ⟨(oth _ (by omega) (by omega)).trans (rc j hj).1, (oth _ (by omega) (by omega)).trans (rc j hj).2⟩, fun j hj => ?_, fun j h1 h2 => (oth j (by omega) (by omega)).trans (re j (by omega) h2)⟩
  · rw [mRow_at, if_pos rfl, r7]
    show _ = nI (if mHu (mW X m) = true then ouN X m ||| 2 ^ m else ouN X m)
    split
    · exact nI_or _ _
    · rfl
  · by_cases e : j = m
    · subst e
      refine ⟨?_, ?_, ?_, ?_⟩
      · rw [mRow_at, if_neg (by omega), if_pos rfl]
      · rw [mRow_at, if_neg (by omega), if_neg (by omega), if_pos rfl]
      · rw [mRow_at, if_neg (by omega), if_neg (by omega), if_neg (by omega), if_pos rfl]
      · rw [mRow_at, if_neg (by omega), if_neg (by omega), if_neg (by omega), if_neg (by omega), if_pos rfl, re _ (by omega) (by omega)]
        cases mHo (mW X j)
        · rfl
        · rfl
    · obtain ⟨y1, y2, y3, y4⟩ := rm j (by omega)
      exact ⟨(oth _ (by omega) (by omega)).trans y1, (oth _ (by omega) (by omega)).trans y2, (oth _ (by omega) (by omega)).trans y3, (oth _ (by omega) (by omega)).trans y4⟩
theorem mLX_0 {X : XT} {n m : Nat} (hn : n ≤ 3) : mLX X n m [] = tb 31 ++ ([97 + m, 32] ++ tb 32) ++ skN (mW X m) n n ++ (tb 33 ++ (dg (mLv (mW X m)) ++ ([32] ++ (tb 34 ++ (dg (mDe (mW X m)) ++ [32]))))) ++ otL (mHo (mW X m)) (mOt (mW X m)) [] ++ (ouL (mHu (mW X m)) [] ++ tb 30) := by
  unfold mLX mLn
  rw [nmL_app, segs_3 n hn _ (skS_lt n), ← skN_e, otL_0, ouL_0 (U := tb 30 ++ [])]
  simp only [List.append_assoc, List.append_nil]
theorem mLX_len {X : XT} {n m : Nat} (hn : n ≤ 3) : (mLX X n m []).length ≤ 60 := by
  rw [mLX_0 hn]
  have h1 := skN_len (w := mW X m) (n := n) n
  have h2 := otL_len (ho := mHo (mW X m)) (ot := mOt (mW X m))
  have h3 := ouL_len (hu := mHu (mW X m))
  have h4 := dg_len (mLv (mW X m))
  have h5 := dg_len (mDe (mW X m))
  simp only [List.length_append, tl_31, tl_32, tl_33, tl_34, tl_30, List.length_cons, List.length_nil]
  omega
theorem bAm_len {X : XT} {n : Nat} (hn : n ≤ 3) : ∀ m, (bAm X n m).length ≤ 60 * m
  | 0 => Nat.le_refl _
  | m + 1 => by
    have := ln_app (bAm_len (X := X) hn m) (mLX_len (X := X) (m := m) hn)
    show (bAm X n m ++ mLX X n m []).length ≤ 60 * (m + 1)
    omega
section BO
variable {X : XT} {d : Nat} {h : HT} {t : Nat → Int32}
theorem bo_man (hX1 : X.1 ≤ 260) {T : List Nat} (W : TW h T t) {c : Int32} {n M m : Nat} (hn : n ≤ 3) (hn0 : 0 < n) (hm : m < M) (hM : M ≤ 5) (R : RM X t c n M m) (hT : T.length ≤ 1000) {l6 l7 l8 : Option Value} : ∃ g l6' l7' l8', TW g (T ++ mLX X n m []) (mRow t (mW X m) n m) ∧ ∀ Q : QT, wq X (d + 13) 102 182 [some (.ref 1), some (.ref 195), some (.ref 10000), some (.int c), some (.int (nI T.length)), some (.int (nI m)), l6, l7, l8] [] h Q = wq X (d + 13) 102 182 [some (.ref 1), some (.ref 195), some (.ref 10000), some (.int c), some (.int (nI (T ++ mLX X n m []).length)), some (.int (nI (m + 1))), l6', l7', l8'] [] g Q := by
  obtain ⟨r0, r1, r7, rz, rc, rm, re⟩ := R
  obtain ⟨g1, W1, q1⟩ := bn_1 (X := X) (d := d) (c := c) (l6 := l6) (l7 := l7) (l8 := l8) hX1 W hm hM r1 (by omega)
  have b1 : (T ++ (tb 31 ++ ([97 + m, 32] ++ tb 32))).length ≤ 1009 := by
    simp only [List.length_append, tl_31, tl_32, List.length_cons, List.length_nil]
    omega
  obtain ⟨g2, W2, q2⟩ := bl_sk (X := X) (d := d) (c := c) (w := mW X m) (l8 := none) W1 hn hn0 (show m < 5 by omega) r0 (re _ (by omega) (by omega)) (by omega)
  have b2 := ln_app b1 (skN_len (w := mW X m) (n := n) n)
  obtain ⟨g3, W3, q3⟩ := bn_2 (X := X) (d := d) (c := c) (w := mW X m) (m := m) (l8 := some (.int (nI n))) W2 (by omega) (by omega)
  have hd1 := dg_len (mLv (mW X m))
  have hd2 := dg_len (mDe (mW X m))
  have b3 := ln_app b2 (show (tb 33 ++ (dg (mLv (mW X m)) ++ ([32] ++ (tb 34 ++ (dg (mDe (mW X m)) ++ [32]))))).length ≤ 30 by
    simp only [List.length_append, tl_33, tl_34, List.length_cons, List.length_nil]
    omega)
  obtain ⟨g4, W4, q4⟩ := bn_3 (X := X) (d := d) (c := c) (w := mW X m) (m := m) (l8 := some (.int (nI n))) W3 (by omega) (by omega)
  have b4 := ln_app b3 (otL_len (ho := mHo (mW X m)) (ot := mOt (mW X m)))
  obtain ⟨g5, W5, q5⟩ := bn_4 (X := X) (d := d) (c := c) (w := mW X m) (m := m) (l7 := some (.int (nI (20 + 4 * m)))) (l8 := some (.int (nI n))) W4 (by omega) (by omega)
  have eT : T ++ (tb 31 ++ ([97 + m, 32] ++ tb 32)) ++ skN (mW X m) n n ++ (tb 33 ++ (dg (mLv (mW X m)) ++ ([32] ++ (tb 34 ++ (dg (mDe (mW X m)) ++ [32]))))) ++ otL (mHo (mW X m)) (mOt (mW X m)) [] ++ (ouL (mHu (mW X m)) [] ++ tb 30) = T ++ mLX X n m [] := by
    rw [mLX_0 hn]
    simp only [List.append_assoc]
  rw [eT] at W5 q5
  exact ⟨g5, _, _, _, W5, fun Q => (q1 Q).trans ((q2 Q).trans ((q3 Q).trans ((q4 Q).trans (q5 Q))))⟩
theorem bo_men (hX1 : X.1 ≤ 260) {C : List Nat} (W : TW h C t) {c : Int32} {n M : Nat} (hn : n ≤ 3) (hn0 : M = 0 ∨ 0 < n) (hM : M ≤ 5) (R : RM X t c n M 0) (hC : C.length ≤ 200) {l6 l7 l8 : Option Value} : ∃ g t' l6' l7' l8', TW g (C ++ bAm X n M) t' ∧ RM X t' c n M M ∧ ∀ Q : QT, wq X (d + 13) 102 182 [some (.ref 1), some (.ref 195), some (.ref 10000), some (.int c), some (.int (nI C.length)), some (.int 0), l6, l7, l8] [] h Q = wq X (d + 13) 102 470 [some (.ref 1), some (.ref 195), some (.ref 10000), some (.int c), some (.int (nI (C ++ bAm X n M).length)), some (.int (nI M)), l6', l7', l8'] [] g Q := by
  obtain ⟨l', ⟨W', R'⟩, e⟩ := q_loopI (α := HT × (Nat → Int32) × Option Value × Option Value × Option Value) (fun m l => fun (Q : QT) => wq X (d + 13) 102 182 [some (.ref 1), some (.ref 195), some (.ref 10000), some (.int c), some (.int (nI (C ++ bAm X n m).length)), some (.int (nI m)), l.2.2.1, l.2.2.2.1, l.2.2.2.2] [] l.1 Q) (fun m l => TW l.1 (C ++ bAm X n m) l.2.1 ∧ RM X l.2.1 c n M m) M (by
    rintro m hm ⟨h, t, j6, j7, j8⟩ ⟨W, R⟩
    have hl := ln_app hC (bAm_len (X := X) hn m)
    obtain ⟨g, k6, k7, k8, W1, q⟩ := bo_man (X := X) (d := d) (l6 := j6) (l7 := j7) (l8 := j8) hX1 W hn (by omega) hm hM R (by omega)
    rw [List.append_assoc] at W1 q
    exact ⟨⟨g, _, k6, k7, k8⟩, ⟨W1, RM_up hn (by omega) R⟩, funext q⟩) ⟨h, t, l6, l7, l8⟩ ⟨by
      show TW h (C ++ []) t
      rw [List.append_nil]
      exact W, R⟩
  refine ⟨l'.1, l'.2.1, l'.2.2.1, l'.2.2.2.1, l'.2.2.2.2, W', R', fun Q => ?_⟩
  have e' := congrFun e Q
  have r1 : m_gI l'.1 195 1 = nI M := (congrFun (tw_r W') 1).trans R'.2.1
  have a0 : C ++ bAm X n 0 = C := List.append_nil C
  refine Eq.trans (b := wq X (d + 13) 102 182 [some (.ref 1), some (.ref 195), some (.ref 10000), some (.int c), some (.int (nI (C ++ bAm X n 0).length)), some (.int (nI 0)), l6, l7, l8] [] h Q) (by rw [a0]; rfl) (e'.trans ?_)
  show wq X (d + 13) 102 182 _ _ _ _ = _
  rw [u102_182]
  simp only [u102_184, u102_185, u102_186, u102_187, eq_self, q_nl0, q_nlI, q_nlR, not_false_eq_true, q_nz0, q_nz1, q_zv0, q_zv1, q_tl1, q_tl0, q_wif, q_swc, q_swn, List.cons_append, List.nil_append, if_true, if_false, e10, e01, Bool.false_eq_true, sh_195, t_in1, t_cl1, r1, eq_false (nI_nlt (Nat.le_refl M) (show M < 2 ^ 31 by omega))]
/-- demands -/
def dmN (X : XT) (k : Nat) : Nat := mkN 127 (drC X 4 >>> (nI (8 * k) &&& 31))
def dmV (X : XT) (k : Nat) : Nat := mkN 15 (drC X 4 >>> (nI (7 + 6 * k) &&& 31))
def RD (X : XT) (t : Nat → Int32) (c : Int32) (n M D k : Nat) : Prop := t 0 = nI n ∧ t 1 = nI M ∧ t 2 = nI D ∧ t 7 = nI (ouN X M) ∧ (∀ j, 3 ≤ j → j < 7 → t j = 0) ∧ (∀ j, j < n → t (10 + 2 * j) = nI (crN c j) ∧ t (11 + 2 * j) = nI (crV c j)) ∧ (∀ j, j < M → t (20 + 4 * j) = nI (skS (mW X j) n n) ∧ t (21 + 4 * j) = nI (mLv (mW X j)) ∧ t (22 + 4 * j) = nI (mDe (mW X j)) ∧ t (23 + 4 * j) = nI (if mHo (mW X j) = true then mOt (mW X j) else 0)) ∧ ∀ j, j < k → t (50 + 2 * j) = nI (dmN X j) ∧ t (51 + 2 * j) = nI (dmV X j)
theorem bo_dems (hX1 : X.1 ≤ 260) {C : List Nat} (W : TW h C t) {c : Int32} {n M D : Nat} (hn : n ≤ 3) (hM : M ≤ 5) (hD : D ≤ 3) (R : RD X t c n M D 0) (hCl : C.length ≤ 600) {l6 l7 l8 : Option Value} : ∃ g t', TW g (C ++ dA (dmN X) (dmV X) D) t' ∧ RD X t' c n M D D ∧ ∀ Q : QT, wq X (d + 13) 102 482 [some (.ref 1), some (.ref 195), some (.ref 10000), some (.int c), some (.int (nI C.length)), some (.int 0), l6, l7, l8] [] h Q = wq X (d + 13) 102 608 [some (.ref 1), some (.ref 195), some (.ref 10000), some (.int c), some (.int (nI (C ++ dA (dmN X) (dmV X) D).length)), some (.int (nI D)), l6, l7, l8] [] g Q := by
  obtain ⟨l', ⟨W', R'⟩, e⟩ := q_loopI (α := HT × (Nat → Int32)) (fun k l => fun (Q : QT) => wq X (d + 13) 102 482 [some (.ref 1), some (.ref 195), some (.ref 10000), some (.int c), some (.int (nI (C ++ dA (dmN X) (dmV X) k).length)), some (.int (nI k)), l6, l7, l8] [] l.1 Q) (fun k l => TW l.1 (C ++ dA (dmN X) (dmV X) k) l.2 ∧ RD X l.2 c n M D k) D (by
    rintro k hk ⟨h, t⟩ ⟨W, R⟩
    obtain ⟨r0, r1, r2, r7, rz, rc, rm, rd⟩ := R
    have f1 : (nI k < nI D) = True := eq_true (nI_lt hk (by omega))
    have e1 : m_in (nI (50 + 2 * k)) 70 = true := t_in (by omega)
    have e2 : (nI (50 + 2 * k)).toNatClampNeg = 50 + 2 * k := t_cl (by omega)
    have e3 : m_in (nI (51 + 2 * k)) 70 = true := t_in (by omega)
    have e4 : (nI (51 + 2 * k)).toNatClampNeg = 51 + 2 * k := t_cl (by omega)
    have m1 := (mk_e 127 (drC X 4 >>> (nI (8 * k) &&& 31)) (by decide))
    have m2 := (mk_e 15 (drC X 4 >>> (nI (7 + 6 * k) &&& 31)) (by decide))
    have a8 : (8 : Int32) * nI k = nI (8 * k) := pk_mul 8 k
    have a6 : (6 : Int32) * nI k = nI (6 * k) := pk_mul 6 k
    have a7 : (7 : Int32) + nI (6 * k) = nI (7 + 6 * k) := nI_add 7 _
    have a97 : (97 : Int32) + nI k = nI (97 + k) := nI_add 97 _
    have x1 : drC X 4 >>> (nI (8 * k) &&& 31) &&& 127 = nI (dmN X k) := m1.1
    have x2 : drC X 4 >>> (nI (7 + 6 * k) &&& 31) &&& 15 = nI (dmV X k) := m2.1
    have v1 : dmN X k ≤ 127 := m1.2
    have v2 : dmV X k ≤ 15 := m2.2
    have lc : ∀ (h : HT) (Q : QT), wq X (d + 12) 80 0 [some (.ref 10000), some (.int 4)] [] h Q = Q (some (.int (drC X 4))) h := fun h Q => l_cell (X := X) (d := d + 12) (h := h) (n := 4) hX1 (by decide) Q
    have hl := ln_app hCl (dA_len (f := dmN X) (g := dmV X) k)
    have Wt := tw_t W (up (up t (50 + 2 * k) (nI (dmN X k))) (51 + 2 * k) (nI (dmV X k)))
    obtain ⟨g1, g2, g3, g4, g5, g6, g7, W7, p3, p5, q1, q2, q3, q4, q5, q6, q7⟩ := l_line (X := X) (d := d) (i := 37) (j := 38) (p := 39) (k := k) (a := dmN X k) (l := dmV X k) Wt hl (by omega) (by omega) (by omega) (by omega) ⟨by decide, by decide, by rw [tl_37]; decide⟩ ⟨by decide, by decide, by rw [tl_38]; decide⟩ ⟨by decide, by decide, by rw [tl_39]; decide⟩
    have w3 : m_gI g3 195 (50 + 2 * k) = nI (dmN X k) := (congrFun p3 _).trans ((up_o (by omega)).trans up_s)
    have w5 : m_gI g5 195 (51 + 2 * k) = nI (dmV X k) := (congrFun p5 _).trans up_s
    rw [← dLn_0] at W7 q7
    have eA : C ++ dA (dmN X) (dmV X) k ++ dLn k (dmN X k) (dmV X k) [] = C ++ dA (dmN X) (dmV X) (k + 1) := List.append_assoc _ _ _
    rw [eA] at W7 q7
    have t2 : m_gI h 195 2 = nI D := (congrFun (tw_r W) 2).trans r2
    have hr1 : m_sI h 195 (50 + 2 * k) (nI (dmN X k)) = hC h 195 (up t (50 + 2 * k) (nI (dmN X k))) := hrow1 W
    have hr2 : m_sI (hC h 195 (up t (50 + 2 * k) (nI (dmN X k)))) 195 (51 + 2 * k) (nI (dmV X k)) = hC h 195 (up (up t (50 + 2 * k) (nI (dmN X k))) (51 + 2 * k) (nI (dmV X k))) := sI_hC
    refine ⟨⟨g7, _⟩, ⟨W7, ?_⟩, funext fun Q => ?_⟩
    · have oth : ∀ j, j ≠ 50 + 2 * k → j ≠ 51 + 2 * k → up (up t (50 + 2 * k) (nI (dmN X k))) (51 + 2 * k) (nI (dmV X k)) j = t j := fun j h1 h2 => (up_o h2).trans (up_o h1)
      refine ⟨(oth _ (by omega) (by omega)).trans r0, (oth _ (by omega) (by omega)).trans r1, (oth _ (by omega) (by omega)).trans r2, (oth _ (by omega) (by omega)).trans r7, fun j h1 h2 => (oth _ (by omega) (by omega)).trans (rz j h1 h2), fun j hj => ⟨(oth _ (by omega) (by omega)).trans (rc j hj).1, (oth _ (by omega) (by omega)).trans (rc j hj).2⟩, fun j hj => ?_, fun j hj => ?_⟩
      · obtain ⟨y1, y2, y3, y4⟩ := rm j hj
        exact ⟨(oth _ (by omega) (by omega)).trans y1, (oth _ (by omega) (by omega)).trans y2, (oth _ (by omega) (by omega)).trans y3, (oth _ (by omega) (by omega)).trans y4⟩
      · by_cases e : j = k
        · rw [e]
          exact ⟨(up_o (by omega)).trans up_s, up_s⟩
        · obtain ⟨y1, y2⟩ := rd j (by omega)
          exact ⟨(oth _ (by omega) (by omega)).trans y1, (oth _ (by omega) (by omega)).trans y2⟩
    · show wq X (d + 13) 102 482 _ _ _ _ = _
      rw [u102_482]
      simp only [u102_484, u102_485, u102_486, u102_487, u102_490, u102_491, u102_493, u102_494, u102_496, u102_497, u102_498, u102_499, u102_500, eq_self, q_nl0, q_nlI, q_nlR, not_false_eq_true, q_nz0, q_nz1, q_zv0, q_zv1, q_tl1, q_tl0, q_wif, q_swc, q_swn, List.cons_append, List.nil_append, if_true, if_false, e10, e01, Bool.false_eq_true, sh_195, t_in2, t_cl2, t2, f1, lc]
      simp only [u102_503, u102_505, u102_507, u102_508, u102_509, u102_511, u102_512, u102_513, u102_514, u102_516, u102_517, u102_519, u102_520, u102_521, u102_522, u102_523, eq_self, q_nl0, q_nlI, q_nlR, not_false_eq_true, q_nz0, q_nz1, q_zv0, q_zv1, q_tl1, q_tl0, q_wif, q_swc, q_swn, List.cons_append, List.nil_append, if_true, if_false, e10, e01, Bool.false_eq_true, sh_195, l_m2, l_a50, l_a51, a8, e1, e2, x1, hr1, lc]
      simp only [u102_526, u102_528, u102_530, u102_532, u102_533, u102_534, u102_535, u102_537, u102_538, u102_539, u102_540, u102_541, u102_542, u102_543, u102_544, u102_545, u102_546, u102_548, u102_550, eq_self, q_nl0, q_nlI, q_nlR, not_false_eq_true, q_nz0, q_nz1, q_zv0, q_zv1, q_tl1, q_tl0, q_wif, q_swc, q_swn, List.cons_append, List.nil_append, if_true, if_false, e10, e01, Bool.false_eq_true, sh_195, a6, a7, e3, e4, x2, hr2, q1]
      simp only [u102_553, u102_555, u102_557, u102_558, eq_self, q_nl0, q_nlI, q_nlR, not_false_eq_true, q_nz0, q_nz1, q_zv0, q_zv1, q_tl1, q_tl0, q_wif, q_swc, q_swn, List.cons_append, List.nil_append, if_true, if_false, e10, e01, Bool.false_eq_true, a97, q2]
      simp only [u102_561, u102_563, eq_self, q_nl0, q_nlI, q_nlR, not_false_eq_true, q_nz0, q_nz1, q_zv0, q_zv1, q_tl1, q_tl0, q_wif, q_swc, q_swn, List.cons_append, List.nil_append, if_true, if_false, e10, e01, Bool.false_eq_true, q3]
      simp only [u102_566, u102_567, u102_569, u102_570, u102_572, u102_573, u102_574, u102_575, eq_self, q_nl0, q_nlI, q_nlR, not_false_eq_true, q_nz0, q_nz1, q_zv0, q_zv1, q_tl1, q_tl0, q_wif, q_swc, q_swn, List.cons_append, List.nil_append, if_true, if_false, e10, e01, Bool.false_eq_true, sh_195, l_m2, l_a50, e1, e2, w3, q4]
      simp only [u102_578, u102_580, eq_self, q_nl0, q_nlI, q_nlR, not_false_eq_true, q_nz0, q_nz1, q_zv0, q_zv1, q_tl1, q_tl0, q_wif, q_swc, q_swn, List.cons_append, List.nil_append, if_true, if_false, e10, e01, Bool.false_eq_true, q5]
      simp only [u102_583, u102_584, u102_586, u102_587, u102_589, u102_590, u102_591, u102_592, eq_self, q_nl0, q_nlI, q_nlR, not_false_eq_true, q_nz0, q_nz1, q_zv0, q_zv1, q_tl1, q_tl0, q_wif, q_swc, q_swn, List.cons_append, List.nil_append, if_true, if_false, e10, e01, Bool.false_eq_true, sh_195, l_m2, l_a51, e3, e4, w5, q6]
      simp only [u102_595, u102_597, eq_self, q_nl0, q_nlI, q_nlR, not_false_eq_true, q_nz0, q_nz1, q_zv0, q_zv1, q_tl1, q_tl0, q_wif, q_swc, q_swn, List.cons_append, List.nil_append, if_true, if_false, e10, e01, Bool.false_eq_true, q7]
      simp only [u102_600, u102_602, u102_605, eq_self, q_nl0, q_nlI, q_nlR, not_false_eq_true, q_nz0, q_nz1, q_zv0, q_zv1, q_tl1, q_tl0, q_wif, q_swc, q_swn, List.cons_append, List.nil_append, if_true, if_false, e10, e01, Bool.false_eq_true, nI_1]) ⟨h, t⟩ ⟨by
      show TW h (C ++ []) t
      rw [List.append_nil]
      exact W, R⟩
  refine ⟨l'.1, l'.2, W', R', fun Q => ?_⟩
  have e' := congrFun e Q
  have t2 : m_gI l'.1 195 2 = nI D := (congrFun (tw_r W') 2).trans R'.2.2.1
  have a0 : C ++ dA (dmN X) (dmV X) 0 = C := List.append_nil C
  refine Eq.trans (b := wq X (d + 13) 102 482 [some (.ref 1), some (.ref 195), some (.ref 10000), some (.int c), some (.int (nI (C ++ dA (dmN X) (dmV X) 0).length)), some (.int (nI 0)), l6, l7, l8] [] h Q) (by rw [a0]; rfl) (e'.trans ?_)
  show wq X (d + 13) 102 482 _ _ _ _ = _
  rw [u102_482]
  simp only [u102_484, u102_485, u102_486, u102_487, eq_self, q_nl0, q_nlI, q_nlR, not_false_eq_true, q_nz0, q_nz1, q_zv0, q_zv1, q_tl1, q_tl0, q_wif, q_swc, q_swn, List.cons_append, List.nil_append, if_true, if_false, e10, e01, Bool.false_eq_true, sh_195, t_in2, t_cl2, t2, eq_false (nI_nlt (Nat.le_refl D) (show D < 2 ^ 31 by omega))]
end BO
