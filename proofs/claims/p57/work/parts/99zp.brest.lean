/-! THE LAW WRITES A CITY: the beginning, the rule, foes, a draw -/
def nC (X : XT) : Nat := mkN 3 (drC X 0)
def nM (X : XT) : Nat := if nC X = 0 then 0 else mkN 7 (drC X 0 >>> 17) % 6
def nD (X : XT) : Nat := mkN 3 (drC X 0 >>> 20)
def nB (X : XT) : Nat := mkN 3 (drC X 0 >>> 22)
def isF (X : XT) : Bool := decide (bt1 (drC X 0) 24 = 1)
def nF (X : XT) : Nat := mkN 127 (drC X 5) % 101
def nR (X : XT) : Nat := mkN 63 (drC X 5 >>> 7)
def isD (X : XT) : Bool := decide (bt1 (drC X 0) 25 = 1)
def nW (X : XT) : Nat := mkN 511 (drC X 5 >>> 13)
theorem nC_3 {X : XT} : nC X ≤ 3 := (mk_e 3 _ (by decide)).2
theorem nM_5 {X : XT} : nM X ≤ 5 := by
  unfold nM
  split <;> omega
theorem nD_3 {X : XT} : nD X ≤ 3 := (mk_e 3 _ (by decide)).2
theorem nB_3 {X : XT} : nB X ≤ 3 := (mk_e 3 _ (by decide)).2
theorem nF_100 {X : XT} : nF X ≤ 100 := by
  unfold nF
  omega
theorem nR_63 {X : XT} : nR X ≤ 63 := (mk_e 63 _ (by decide)).2
theorem nW_511 {X : XT} : nW X ≤ 511 := (mk_e 511 _ (by decide)).2
def bkL (b : Nat) (U : List Nat) : List Nat := if b = 0 then U else tb (39 + b) ++ U
def foL' (X : XT) (U : List Nat) : List Nat := if isF X = true then fLn (nF X) (nR X) U else U
def drL' (X : XT) (U : List Nat) : List Nat := if isD X = true then wLn (nW X) U else U
section BP
variable {X : XT} {d : Nat} {h : HT} {T : List Nat} {t : Nat → Int32}
theorem drc_c (hX1 : X.1 ≤ 260) {n : Nat} (hn : n < 1000) (h : HT) (Q : QT) : wq X (d + 12) 80 0 [some (.ref 10000), some (.int (nI n))] [] h Q = Q (some (.int (drC X n))) h := l_cell hX1 hn Q
theorem bp_0 (hX1 : X.1 ≤ 260) (W : TW h [] t) : ∃ g t', TW g [] t' ∧ RC t' (drC X 0) 0 ∧ ∀ Q : QT, wq X (d + 13) 102 0 [some (.ref 1), some (.ref 195), some (.ref 10000), none, none, none, none, none, none] [] h Q = wq X (d + 13) 102 39 [some (.ref 1), some (.ref 195), some (.ref 10000), some (.int (drC X 0)), some (.int 0), some (.int 0), none, none, none] [] g Q := by
  have lc : ∀ (h : HT) (Q : QT), wq X (d + 12) 80 0 [some (.ref 10000), some (.int 0)] [] h Q = Q (some (.int (drC X 0))) h := fun h Q => drc_c (n := 0) hX1 (by decide) h Q
  obtain ⟨l', ⟨W', R'⟩, e⟩ := q_loopI (α := HT × (Nat → Int32)) (fun k l => fun (Q : QT) => wq X (d + 13) 102 9 [some (.ref 1), some (.ref 195), some (.ref 10000), some (.int (drC X 0)), some (.int (nI k)), none, none, none, none] [] l.1 Q) (fun k l => TW l.1 [] l.2 ∧ ∀ j, j < k → l.2 j = 0) 70 (by
    rintro k hk ⟨h, t⟩ ⟨W, R⟩
    have f1 : (nI k < 70) = True := eq_true (nI_lt (b := 70) hk (by decide))
    have e1 : m_in (nI k) 70 = true := t_in (by omega)
    have e2 : (nI k).toNatClampNeg = k := t_cl (by omega)
    refine ⟨⟨hC h 195 (up t k 0), up t k 0⟩, ⟨tw_t W _, fun j hj => ?_⟩, funext fun Q => ?_⟩
    · by_cases e : j = k
      · rw [e]
        exact up_s
      · exact (up_o e).trans (R j (by omega))
    · show wq X (d + 13) 102 9 _ _ _ _ = _
      rw [u102_9]
      simp only [u102_11, u102_13, u102_16, u102_17, u102_19, u102_20, u102_21, u102_24, eq_self, q_nl0, q_nlI, q_nlR, not_false_eq_true, q_nz0, q_nz1, q_zv0, q_zv1, q_tl1, q_tl0, q_wif, q_swc, q_swn, List.cons_append, List.nil_append, if_true, if_false, e10, e01, Bool.false_eq_true, sh_195, f1, e1, e2, hrow1 W, nI_1]) ⟨h, t⟩ ⟨W, fun j hj => absurd hj (Nat.not_lt_zero j)⟩
  have m1 := mk_e 3 (drC X 0) (by decide)
  have x1 : drC X 0 &&& 3 = nI (mkN 3 (drC X 0)) := m1.1
  refine ⟨hC l'.1 195 (up l'.2 0 (nI (mkN 3 (drC X 0)))), _, tw_t W' _, ⟨up_s, fun j h1 h2 => (up_o (by omega)).trans (R' j (by omega)), fun j hj => absurd hj (Nat.not_lt_zero j), fun j h1 h2 => (up_o (by omega)).trans (R' j (by omega))⟩, fun Q => ?_⟩
  have e' := congrFun e Q
  simp only [u102_0, u102_1, u102_2, eq_self, q_nl0, q_nlI, q_nlR, not_false_eq_true, q_nz0, q_nz1, q_zv0, q_zv1, q_tl1, q_tl0, q_wif, q_swc, q_swn, List.cons_append, List.nil_append, if_true, if_false, e10, e01, Bool.false_eq_true, lc]
  simp only [u102_5, u102_6, u102_7, eq_self, q_nl0, q_nlI, q_nlR, not_false_eq_true, q_nz0, q_nz1, q_zv0, q_zv1, q_tl1, q_tl0, q_wif, q_swc, q_swn, List.cons_append, List.nil_append, if_true, if_false, e10, e01, Bool.false_eq_true]
  refine Eq.trans (b := wq X (d + 13) 102 9 [some (.ref 1), some (.ref 195), some (.ref 10000), some (.int (drC X 0)), some (.int (nI 0)), none, none, none, none] [] h Q) rfl (e'.trans ?_)
  show wq X (d + 13) 102 9 _ _ _ _ = _
  rw [u102_9]
  simp only [u102_11, u102_13, u102_27, u102_28, u102_29, u102_30, u102_31, u102_32, u102_33, u102_34, u102_36, u102_37, eq_self, q_nl0, q_nlI, q_nlR, not_false_eq_true, q_nz0, q_nz1, q_zv0, q_zv1, q_tl1, q_tl0, q_wif, q_swc, q_swn, List.cons_append, List.nil_append, if_true, if_false, e10, e01, Bool.false_eq_true, sh_195, eq_false (show ¬ nI 70 < 70 by decide), t_in0, t_cl0, x1, hrow1 W']
theorem bp_1 (W : TW h T t) (R : RC t (drC X 0) (nC X)) {l4 l5 : Int32} : ∃ g t', TW g T t' ∧ RM X t' (drC X 0) (nC X) (nM X) 0 ∧ ∀ Q : QT, wq X (d + 13) 102 156 [some (.ref 1), some (.ref 195), some (.ref 10000), some (.int (drC X 0)), some (.int l4), some (.int l5), none, none, none] [] h Q = wq X (d + 13) 102 182 [some (.ref 1), some (.ref 195), some (.ref 10000), some (.int (drC X 0)), some (.int l4), some (.int 0), none, none, none] [] g Q := by
  obtain ⟨r0, r1, r2, r3⟩ := R
  have h3 := nC_3 (X := X)
  have t0 : m_gI h 195 0 = nI (nC X) := (congrFun (tw_r W) 0).trans r0
  have z0 : (nI (nC X) = 0) = (nC X = 0) := nI_eqB (b := 0) (by omega) (by decide)
  have m1 := mk_e 7 (drC X 0 >>> 17) (by decide)
  have x1 : drC X 0 >>> 17 &&& (7 : Int32) = nI (mkN 7 (drC X 0 >>> 17)) := m1.1
  have s17 : (17 : Int32) &&& 31 = 17 := by decide
  have v1 : mkN 7 (drC X 0 >>> 17) ≤ 7 := m1.2
  have n6 : ¬ (6 : Int32) = 0 := by decide
  have e6 : nI (mkN 7 (drC X 0 >>> 17)) - nI (mkN 7 (drC X 0 >>> 17)) / (6 : Int32) * (6 : Int32) = nI (mkN 7 (drC X 0 >>> 17) % 6) := pk_rem (a := mkN 7 (drC X 0 >>> 17)) (d := 6) (by omega) (by decide) (by decide)
  refine ⟨hC h 195 (up t 1 (nI (nM X))), _, tw_t W _, ⟨(up_o (by decide)).trans r0, up_s, (up_o (by decide)).trans (r1 7 (by decide) (by decide)), fun j h1 h2 h3 => (up_o (by omega)).trans (r1 j (by omega) h2), fun j hj => ⟨(up_o (by omega)).trans (r2 j hj).1, (up_o (by omega)).trans (r2 j hj).2⟩, fun j hj => absurd hj (Nat.not_lt_zero j), fun j h1 h2 => (up_o (by omega)).trans (r3 j (by omega) h2)⟩, fun Q => ?_⟩
  by_cases z : nC X = 0
  · have eM : nM X = 0 := if_pos z
    rw [eM]
    simp only [u102_156, u102_157, u102_158, u102_159, u102_160, u102_161, u102_164, u102_165, u102_168, u102_169, u102_171, u102_172, u102_174, u102_175, u102_177, u102_178, u102_179, u102_180, eq_self, q_nl0, q_nlI, q_nlR, not_false_eq_true, q_nz0, q_nz1, q_zv0, q_zv1, q_tl1, q_tl0, q_wif, q_swc, q_swn, List.cons_append, List.nil_append, if_true, if_false, e10, e01, Bool.false_eq_true, sh_195, t_in0, t_cl0, t_in1, t_cl1, t0, z0, eq_true z, hrow1 W]
    rfl
  · have eM : nM X = mkN 7 (drC X 0 >>> 17) % 6 := if_neg z
    rw [eM]
    simp only [u102_156, u102_157, u102_158, u102_159, u102_160, u102_161, u102_164, u102_165, u102_168, u102_169, u102_171, u102_172, u102_174, u102_175, u102_177, u102_178, u102_179, u102_180, eq_self, q_nl0, q_nlI, q_nlR, not_false_eq_true, q_nz0, q_nz1, q_zv0, q_zv1, q_tl1, q_tl0, q_wif, q_swc, q_swn, List.cons_append, List.nil_append, if_true, if_false, e10, e01, Bool.false_eq_true, sh_195, t_in0, t_cl0, t_in1, t_cl1, t0, z0, z, s17, x1, n6, not_false_eq_true, e6, hrow1 W]
theorem bp_2 (W : TW h T t) (R : RM X t (drC X 0) (nC X) (nM X) (nM X)) {l4 l5 : Int32} {l6 l7 l8 : Option Value} : ∃ g t', TW g T t' ∧ RD X t' (drC X 0) (nC X) (nM X) (nD X) 0 ∧ ∀ Q : QT, wq X (d + 13) 102 470 [some (.ref 1), some (.ref 195), some (.ref 10000), some (.int (drC X 0)), some (.int l4), some (.int l5), l6, l7, l8] [] h Q = wq X (d + 13) 102 482 [some (.ref 1), some (.ref 195), some (.ref 10000), some (.int (drC X 0)), some (.int l4), some (.int 0), l6, l7, l8] [] g Q := by
  obtain ⟨r0, r1, r7, rz, rc, rm, re⟩ := R
  have m1 := mk_e 3 (drC X 0 >>> 20) (by decide)
  have x1 : drC X 0 >>> 20 &&& 3 = nI (nD X) := m1.1
  have s20 : (20 : Int32) &&& 31 = 20 := by decide
  refine ⟨hC h 195 (up t 2 (nI (nD X))), _, tw_t W _, ⟨(up_o (by decide)).trans r0, (up_o (by decide)).trans r1, up_s, (up_o (by decide)).trans r7, fun j h1 h2 => (up_o (by omega)).trans (rz j (by omega) (by omega) (by omega)), fun j hj => ⟨(up_o (by omega)).trans (rc j hj).1, (up_o (by omega)).trans (rc j hj).2⟩, fun j hj => ?_, fun j hj => absurd hj (Nat.not_lt_zero j)⟩, fun Q => ?_⟩
  · obtain ⟨y1, y2, y3, y4⟩ := rm j hj
    exact ⟨(up_o (by omega)).trans y1, (up_o (by omega)).trans y2, (up_o (by omega)).trans y3, (up_o (by omega)).trans y4⟩
  · simp only [u102_470, u102_471, u102_472, u102_473, u102_475, u102_476, u102_477, u102_478, u102_479, u102_480, eq_self, q_nl0, q_nlI, q_nlR, not_false_eq_true, q_nz0, q_nz1, q_zv0, q_zv1, q_tl1, q_tl0, q_wif, q_swc, q_swn, List.cons_append, List.nil_append, if_true, if_false, e10, e01, Bool.false_eq_true, sh_195, t_in2, t_cl2, s20, x1, hrow1 W]
/-- the rule -/
theorem bp_3 (W : TW h T t) (hT : T.length ≤ 1400) {l4 : Int32} (h4 : l4 = nI T.length) {l5 l6 l7 l8 : Option Value} : ∃ g, TW g (T ++ bkL (nB X) []) (up t 3 (nI (nB X))) ∧ ∀ Q : QT, wq X (d + 13) 102 608 [some (.ref 1), some (.ref 195), some (.ref 10000), some (.int (drC X 0)), some (.int l4), l5, l6, l7, l8] [] h Q = wq X (d + 13) 102 657 [some (.ref 1), some (.ref 195), some (.ref 10000), some (.int (drC X 0)), some (.int (nI (T ++ bkL (nB X) []).length)), l5, l6, l7, l8] [] g Q := by
  subst h4
  have m1 := mk_e 3 (drC X 0 >>> 22) (by decide)
  have x1 : drC X 0 >>> 22 &&& 3 = nI (nB X) := m1.1
  have v1 := nB_3 (X := X)
  have s22 : (22 : Int32) &&& 31 = 22 := by decide
  have Wt := tw_t W (up t 3 (nI (nB X)))
  have r3 : m_gI (hC h 195 (up t 3 (nI (nB X)))) 195 3 = nI (nB X) := gI_hC.trans up_s
  have p0 : (0 < nI (nB X)) = (0 < nB X) := ev_0 _ (by omega)
  have p1 : (nI (nB X) = 1) = (nB X = 1) := nI_eqB (b := 1) (by omega) (by decide)
  have p2 : (nI (nB X) = 2) = (nB X = 2) := nI_eqB (b := 2) (by omega) (by decide)
  by_cases z : nB X = 0
  · have eb : bkL (nB X) [] = [] := if_pos z
    have np : ¬ 0 < nB X := by omega
    rw [eb, List.append_nil]
    refine ⟨_, Wt, fun Q => ?_⟩
    simp only [u102_608, u102_609, u102_610, u102_611, u102_613, u102_614, u102_615, u102_616, u102_617, u102_618, u102_619, u102_620, eq_self, q_nl0, q_nlI, q_nlR, not_false_eq_true, q_nz0, q_nz1, q_zv0, q_zv1, q_tl1, q_tl0, q_wif, q_swc, q_swn, List.cons_append, List.nil_append, if_true, if_false, e10, e01, Bool.false_eq_true, sh_195, t_in3, t_cl3, s22, x1, hrow1 W, r3, p0, np]
  · have eb : bkL (nB X) [] = tb (39 + nB X) := (if_neg z).trans (List.append_nil _)
    have np : 0 < nB X := by omega
    have c3 : nB X = 1 ∨ nB X = 2 ∨ nB X = 3 := by omega
    rcases c3 with e | e | e
    · have eb' : bkL (nB X) [] = tb 40 := by rw [eb, e]
      rw [eb']
      obtain ⟨g, W1, q1⟩ := l_says (X := X) (d := d) (i := 40) Wt (by decide) (by decide) (by omega)
      refine ⟨g, W1, fun Q => ?_⟩
      simp only [u102_608, u102_609, u102_610, u102_611, u102_613, u102_614, u102_615, u102_616, u102_617, u102_618, u102_619, u102_620, u102_623, u102_624, u102_626, u102_627, u102_628, u102_629, u102_630, u102_633, u102_635, u102_638, u102_639, u102_640, u102_641, u102_642, u102_645, u102_647, u102_650, u102_652, eq_self, q_nl0, q_nlI, q_nlR, not_false_eq_true, q_nz0, q_nz1, q_zv0, q_zv1, q_tl1, q_tl0, q_wif, q_swc, q_swn, List.cons_append, List.nil_append, if_true, if_false, e10, e01, Bool.false_eq_true, sh_195, t_in3, t_cl3, s22, x1, hrow1 W, r3, p0, np, p1, eq_true e, q1]
      simp only [u102_655, eq_self, q_nl0, q_nlI, q_nlR, not_false_eq_true, q_nz0, q_nz1, q_zv0, q_zv1, q_tl1, q_tl0, q_wif, q_swc, q_swn, List.cons_append, List.nil_append, if_true, if_false, e10, e01, Bool.false_eq_true]
    · have eb' : bkL (nB X) [] = tb 41 := by rw [eb, e]
      have n1 : ¬ nB X = 1 := by omega
      rw [eb']
      obtain ⟨g, W1, q1⟩ := l_says (X := X) (d := d) (i := 41) Wt (by decide) (by decide) (by omega)
      refine ⟨g, W1, fun Q => ?_⟩
      simp only [u102_608, u102_609, u102_610, u102_611, u102_613, u102_614, u102_615, u102_616, u102_617, u102_618, u102_619, u102_620, u102_623, u102_624, u102_626, u102_627, u102_628, u102_629, u102_630, u102_633, u102_635, u102_638, u102_639, u102_640, u102_641, u102_642, u102_645, u102_647, u102_650, u102_652, eq_self, q_nl0, q_nlI, q_nlR, not_false_eq_true, q_nz0, q_nz1, q_zv0, q_zv1, q_tl1, q_tl0, q_wif, q_swc, q_swn, List.cons_append, List.nil_append, if_true, if_false, e10, e01, Bool.false_eq_true, sh_195, t_in3, t_cl3, s22, x1, hrow1 W, r3, p0, np, p1, n1, p2, eq_true e, q1]
      simp only [u102_655, eq_self, q_nl0, q_nlI, q_nlR, not_false_eq_true, q_nz0, q_nz1, q_zv0, q_zv1, q_tl1, q_tl0, q_wif, q_swc, q_swn, List.cons_append, List.nil_append, if_true, if_false, e10, e01, Bool.false_eq_true]
    · have eb' : bkL (nB X) [] = tb 42 := by rw [eb, e]
      have n1 : ¬ nB X = 1 := by omega
      have n2 : ¬ nB X = 2 := by omega
      rw [eb']
      obtain ⟨g, W1, q1⟩ := l_says (X := X) (d := d) (i := 42) Wt (by decide) (by decide) (by omega)
      refine ⟨g, W1, fun Q => ?_⟩
      simp only [u102_608, u102_609, u102_610, u102_611, u102_613, u102_614, u102_615, u102_616, u102_617, u102_618, u102_619, u102_620, u102_623, u102_624, u102_626, u102_627, u102_628, u102_629, u102_630, u102_633, u102_635, u102_638, u102_639, u102_640, u102_641, u102_642, u102_645, u102_647, u102_650, u102_652, eq_self, q_nl0, q_nlI, q_nlR, not_false_eq_true, q_nz0, q_nz1, q_zv0, q_zv1, q_tl1, q_tl0, q_wif, q_swc, q_swn, List.cons_append, List.nil_append, if_true, if_false, e10, e01, Bool.false_eq_true, sh_195, t_in3, t_cl3, s22, x1, hrow1 W, r3, p0, np, p1, n1, p2, n2, q1]
      simp only [u102_655, eq_self, q_nl0, q_nlI, q_nlR, not_false_eq_true, q_nz0, q_nz1, q_zv0, q_zv1, q_tl1, q_tl0, q_wif, q_swc, q_swn, List.cons_append, List.nil_append, if_true, if_false, e10, e01, Bool.false_eq_true]
/-- foes -/
theorem bp_4 (hX1 : X.1 ≤ 260) (W : TW h T t) (hT : T.length ≤ 1400) {l5 l6 l7 l8 : Option Value} : ∃ g, TW g (T ++ foL' X []) (if isF X = true then up (up t 4 (nI (nF X))) 5 (nI (nR X)) else t) ∧ ∀ Q : QT, wq X (d + 13) 102 657 [some (.ref 1), some (.ref 195), some (.ref 10000), some (.int (drC X 0)), some (.int (nI T.length)), l5, l6, l7, l8] [] h Q = wq X (d + 13) 102 731 [some (.ref 1), some (.ref 195), some (.ref 10000), some (.int (drC X 0)), some (.int (nI (T ++ foL' X []).length)), l5, l6, l7, l8] [] g Q := by
  have bo := b_o1 (w := drC X 0) (k := 24)
  rw [show nI 24 = (24 : Int32) from rfl] at bo
  have lc : ∀ (h : HT) (Q : QT), wq X (d + 12) 80 0 [some (.ref 10000), some (.int 5)] [] h Q = Q (some (.int (drC X 5))) h := fun h Q => drc_c (n := 5) hX1 (by decide) h Q
  unfold foL' isF
  by_cases z : bt1 (drC X 0) 24 = 1
  · have m1 := mk_e 127 (drC X 5) (by decide)
    have x1 : drC X 5 &&& 127 = nI (mkN 127 (drC X 5)) := m1.1
    have v1 : mkN 127 (drC X 5) ≤ 127 := m1.2
    have m2 := mk_e 63 (drC X 5 >>> 7) (by decide)
    have x2 : drC X 5 >>> 7 &&& 63 = nI (nR X) := m2.1
    have v2 := nR_63 (X := X)
    have v3 := nF_100 (X := X)
    have s7 : (7 : Int32) &&& 31 = 7 := by decide
    have n101 : ¬ (101 : Int32) = 0 := by decide
    have e101 : nI (mkN 127 (drC X 5)) - nI (mkN 127 (drC X 5)) / (101 : Int32) * 101 = nI (nF X) := pk_rem (a := mkN 127 (drC X 5)) (d := 101) (by omega) (by decide) (by decide)
    have hr2 : m_sI (hC h 195 (up t 4 (nI (nF X)))) 195 5 (nI (nR X)) = hC h 195 (up (up t 4 (nI (nF X))) 5 (nI (nR X))) := sI_hC
    have Wt := tw_t W (up (up t 4 (nI (nF X))) 5 (nI (nR X)))
    have b1 := ln_app hT (Nat.le_refl (tb 43).length)
    have b2 := ln_app b1 (ln_dg (v := nF X))
    have b3 := ln_app b2 (Nat.le_refl (tb 44).length)
    have b4 := ln_app b3 (ln_dg (v := nR X))
    rw [tl_43] at b1 b2 b3 b4
    rw [tl_44] at b3 b4
    obtain ⟨g1, W1, q1⟩ := l_says (X := X) (d := d) (i := 43) Wt (by decide) (by decide) (by omega)
    obtain ⟨g2, W2, q2⟩ := l_digits (X := X) (d := d) (v := nF X) W1 (by omega) (by omega)
    obtain ⟨g3, W3, q3⟩ := l_says (X := X) (d := d) (i := 44) W2 (by decide) (by decide) (by omega)
    obtain ⟨g4, W4, q4⟩ := l_digits (X := X) (d := d) (v := nR X) W3 (by omega) (by omega)
    obtain ⟨g5, W5, q5⟩ := l_says (X := X) (d := d) (i := 30) W4 (by decide) (by decide) (by omega)
    have w1 : m_gI g1 195 4 = nI (nF X) := (congrFun (tw_r W1) _).trans ((up_o (by decide)).trans up_s)
    have w3 : m_gI g3 195 5 = nI (nR X) := (congrFun (tw_r W3) _).trans up_s
    have eT : T ++ tb 43 ++ (dg (nF X) ++ [32]) ++ tb 44 ++ (dg (nR X) ++ [32]) ++ tb 30 = T ++ fLn (nF X) (nR X) [] := by
      unfold fLn
      simp only [List.append_assoc, List.append_nil]
    rw [eT] at W5 q5
    rw [decide_eq_true z]
    refine ⟨g5, W5, fun Q => ?_⟩
    simp only [u102_657, u102_658, u102_660, u102_661, u102_662, u102_663, u102_664, u102_667, u102_668, u102_669, u102_670, u102_671, eq_self, q_nl0, q_nlI, q_nlR, not_false_eq_true, q_nz0, q_nz1, q_zv0, q_zv1, q_tl1, q_tl0, q_wif, q_swc, q_swn, List.cons_append, List.nil_append, if_true, if_false, e10, e01, Bool.false_eq_true, bo, eq_true z, lc]
    simp only [u102_674, u102_676, u102_677, u102_679, u102_680, u102_681, u102_682, u102_683, u102_684, u102_685, eq_self, q_nl0, q_nlI, q_nlR, not_false_eq_true, q_nz0, q_nz1, q_zv0, q_zv1, q_tl1, q_tl0, q_wif, q_swc, q_swn, List.cons_append, List.nil_append, if_true, if_false, e10, e01, Bool.false_eq_true, sh_195, x1, n101, not_false_eq_true, e101, t_in4, t_cl4, hrow1 W, lc]
    simp only [u102_688, u102_690, u102_691, u102_693, u102_694, u102_695, u102_696, u102_697, u102_698, u102_699, u102_700, u102_702, u102_704, eq_self, q_nl0, q_nlI, q_nlR, not_false_eq_true, q_nz0, q_nz1, q_zv0, q_zv1, q_tl1, q_tl0, q_wif, q_swc, q_swn, List.cons_append, List.nil_append, if_true, if_false, e10, e01, Bool.false_eq_true, sh_195, s7, x2, t_in5, t_cl5, hr2, q1]
    simp only [u102_707, u102_708, u102_709, u102_710, eq_self, q_nl0, q_nlI, q_nlR, not_false_eq_true, q_nz0, q_nz1, q_zv0, q_zv1, q_tl1, q_tl0, q_wif, q_swc, q_swn, List.cons_append, List.nil_append, if_true, if_false, e10, e01, Bool.false_eq_true, sh_195, t_in4, t_cl4, w1, q2]
    simp only [u102_713, u102_715, eq_self, q_nl0, q_nlI, q_nlR, not_false_eq_true, q_nz0, q_nz1, q_zv0, q_zv1, q_tl1, q_tl0, q_wif, q_swc, q_swn, List.cons_append, List.nil_append, if_true, if_false, e10, e01, Bool.false_eq_true, q3]
    simp only [u102_718, u102_719, u102_720, u102_721, eq_self, q_nl0, q_nlI, q_nlR, not_false_eq_true, q_nz0, q_nz1, q_zv0, q_zv1, q_tl1, q_tl0, q_wif, q_swc, q_swn, List.cons_append, List.nil_append, if_true, if_false, e10, e01, Bool.false_eq_true, sh_195, t_in5, t_cl5, w3, q4]
    simp only [u102_724, u102_726, eq_self, q_nl0, q_nlI, q_nlR, not_false_eq_true, q_nz0, q_nz1, q_zv0, q_zv1, q_tl1, q_tl0, q_wif, q_swc, q_swn, List.cons_append, List.nil_append, if_true, if_false, e10, e01, Bool.false_eq_true, q5]
    simp only [u102_729, eq_self, q_nl0, q_nlI, q_nlR, not_false_eq_true, q_nz0, q_nz1, q_zv0, q_zv1, q_tl1, q_tl0, q_wif, q_swc, q_swn, List.cons_append, List.nil_append, if_true, if_false, e10, e01, Bool.false_eq_true]
  · rw [decide_eq_false z]
    refine ⟨h, ?_, fun Q => ?_⟩
    · show TW h (T ++ []) (if false = true then _ else t)
      rw [List.append_nil, if_neg (by decide)]
      exact W
    · show _ = wq X (d + 13) 102 731 [some (.ref 1), some (.ref 195), some (.ref 10000), some (.int (drC X 0)), some (.int (nI (T ++ []).length)), l5, l6, l7, l8] [] h Q
      rw [List.append_nil]
      simp only [u102_657, u102_658, u102_660, u102_661, u102_662, u102_663, u102_664, eq_self, q_nl0, q_nlI, q_nlR, not_false_eq_true, q_nz0, q_nz1, q_zv0, q_zv1, q_tl1, q_tl0, q_wif, q_swc, q_swn, List.cons_append, List.nil_append, if_true, if_false, e10, e01, Bool.false_eq_true, bo, z]
theorem bp_5 (hX1 : X.1 ≤ 260) (W : TW h T t) (hT : T.length ≤ 1450) {l5 l6 l7 l8 : Option Value} : ∃ g, TW g (T ++ drL' X []) (if isD X = true then up t 6 (nI (nW X)) else t) ∧ ∀ Q : QT, wq X (d + 13) 102 731 [some (.ref 1), some (.ref 195), some (.ref 10000), some (.int (drC X 0)), some (.int (nI T.length)), l5, l6, l7, l8] [] h Q = wq X (d + 13) 102 781 [some (.ref 1), some (.ref 195), some (.ref 10000), some (.int (drC X 0)), some (.int (nI (T ++ drL' X []).length)), l5, l6, l7, l8] [] g Q := by
  have bo := b_o1 (w := drC X 0) (k := 25)
  rw [show nI 25 = (25 : Int32) from rfl] at bo
  have lc : ∀ (h : HT) (Q : QT), wq X (d + 12) 80 0 [some (.ref 10000), some (.int 5)] [] h Q = Q (some (.int (drC X 5))) h := fun h Q => drc_c (n := 5) hX1 (by decide) h Q
  unfold drL' isD
  by_cases z : bt1 (drC X 0) 25 = 1
  · have m2 := mk_e 511 (drC X 5 >>> 13) (by decide)
    have x2 : drC X 5 >>> 13 &&& 511 = nI (nW X) := m2.1
    have v2 := nW_511 (X := X)
    have s13 : (13 : Int32) &&& 31 = 13 := by decide
    have b1 := ln_app hT (Nat.le_refl (tb 45).length)
    have b2 := ln_app b1 (ln_dg (v := nW X))
    rw [tl_45] at b1 b2
    obtain ⟨g1, W1, q1⟩ := l_says (X := X) (d := d) (i := 45) (tw_t W (up t 6 (nI (nW X)))) (by decide) (by decide) (by omega)
    obtain ⟨g2, W2, q2⟩ := l_digits (X := X) (d := d) (v := nW X) W1 (by omega) (by omega)
    obtain ⟨g5, W5, q5⟩ := l_says (X := X) (d := d) (i := 30) W2 (by decide) (by decide) (by omega)
    have w1 : m_gI g1 195 6 = nI (nW X) := (congrFun (tw_r W1) _).trans up_s
    have eT : T ++ tb 45 ++ (dg (nW X) ++ [32]) ++ tb 30 = T ++ wLn (nW X) [] := by
      unfold wLn
      simp only [List.append_assoc, List.append_nil]
    rw [eT] at W5 q5
    rw [decide_eq_true z]
    refine ⟨g5, W5, fun Q => ?_⟩
    simp only [u102_731, u102_732, u102_734, u102_735, u102_736, u102_737, u102_738, u102_741, u102_742, u102_744, u102_745, u102_746, eq_self, q_nl0, q_nlI, q_nlR, not_false_eq_true, q_nz0, q_nz1, q_zv0, q_zv1, q_tl1, q_tl0, q_wif, q_swc, q_swn, List.cons_append, List.nil_append, if_true, if_false, e10, e01, Bool.false_eq_true, bo, eq_true z, lc]
    simp only [u102_749, u102_751, u102_752, u102_755, u102_756, u102_757, u102_758, u102_759, u102_760, u102_762, u102_764, eq_self, q_nl0, q_nlI, q_nlR, not_false_eq_true, q_nz0, q_nz1, q_zv0, q_zv1, q_tl1, q_tl0, q_wif, q_swc, q_swn, List.cons_append, List.nil_append, if_true, if_false, e10, e01, Bool.false_eq_true, sh_195, s13, x2, t_in6, t_cl6, hrow1 W, q1]
    simp only [u102_767, u102_768, u102_770, u102_771, eq_self, q_nl0, q_nlI, q_nlR, not_false_eq_true, q_nz0, q_nz1, q_zv0, q_zv1, q_tl1, q_tl0, q_wif, q_swc, q_swn, List.cons_append, List.nil_append, if_true, if_false, e10, e01, Bool.false_eq_true, sh_195, t_in6, t_cl6, w1, q2]
    simp only [u102_774, u102_776, eq_self, q_nl0, q_nlI, q_nlR, not_false_eq_true, q_nz0, q_nz1, q_zv0, q_zv1, q_tl1, q_tl0, q_wif, q_swc, q_swn, List.cons_append, List.nil_append, if_true, if_false, e10, e01, Bool.false_eq_true, q5]
    simp only [u102_779, eq_self, q_nl0, q_nlI, q_nlR, not_false_eq_true, q_nz0, q_nz1, q_zv0, q_zv1, q_tl1, q_tl0, q_wif, q_swc, q_swn, List.cons_append, List.nil_append, if_true, if_false, e10, e01, Bool.false_eq_true]
  · rw [decide_eq_false z]
    refine ⟨h, ?_, fun Q => ?_⟩
    · show TW h (T ++ []) (if false = true then _ else t)
      rw [List.append_nil, if_neg (by decide)]
      exact W
    · show _ = wq X (d + 13) 102 781 [some (.ref 1), some (.ref 195), some (.ref 10000), some (.int (drC X 0)), some (.int (nI (T ++ []).length)), l5, l6, l7, l8] [] h Q
      rw [List.append_nil]
      simp only [u102_731, u102_732, u102_734, u102_735, u102_736, u102_737, u102_738, eq_self, q_nl0, q_nlI, q_nlR, not_false_eq_true, q_nz0, q_nz1, q_zv0, q_zv1, q_tl1, q_tl0, q_wif, q_swc, q_swn, List.cons_append, List.nil_append, if_true, if_false, e10, e01, Bool.false_eq_true, bo, z]
end BP
