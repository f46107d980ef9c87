/-! THE LAW: the spark, what stops a craft, the press -/
theorem ev_0 (k : Nat) (h : k < 2 ^ 31) : (0 < nI k) = (0 < k) := nI_ltB (a := 0) (by decide) h
theorem nI_n0 : nI 0 = (0 : Int32) := rfl
section LAW2
variable {X : XT} {d : Nat} {h : HT} {τ : CT} {b : Nat} {A : Nat → Int32} {j : Nat} {A0 : Nat → Int32} {Z : Option (Nat → Int32)}
theorem lw_sp (L : LB τ b) (W : WW h τ b A A j A0 Z) {i : Nat} {k11 : Int32} {l12 l13 l14 l15 l16 l17 l18 l19 l20 l21 l22 : Option Value} : ∃ g v, WW g τ b A A j A0 Z ∧ ∀ Q : QT, wq X (d + 12) 315 513 [some (.ref 10000), some (.ref 1), some (.ref 195), some (.int 1), some (.ref 196), some (.int (nI (sAll τ))), some (.int (nI i)), some (.int (A 18)), some (.int (nI (aN A))), some (.int (nI (sShort τ (aN A)))), some (.int (nI (sLoss τ (aN A)))), some (.int k11), l12, l13, l14, l15, l16, l17, l18, l19, l20, l21, l22] [] h Q = wq X (d + 12) 315 578 [some (.ref 10000), some (.ref 1), some (.ref 195), some (.int 1), some (.ref 196), some (.int (nI (sAll τ))), some (.int (nI i)), some (.int (A 18)), some (.int (nI (aN A))), some (.int (nI (sShort τ (aN A)))), some (.int (nI (sLoss τ (aN A)))), some (.int v), some (.int 0), l13, l14, l15, l16, l17, l18, l19, l20, l21, l22] [] g Q := by
  have K := ww_a W
  have hn := aN_lt L.1 K
  have h7 := o_mn L.1
  have hw := K.1.2
  have P1 : ∃ best g, fL (miS (spP τ (aN A))) none (2 ^ τ 0 1) = some best ∧ best < 128 ∧ WW g τ b A A j A0 Z ∧ ∀ Q : QT, wq X (d + 1 + 10) 132 0 [some (.ref 1), some (.int 1), none, none] [] h Q = Q (some (.int (nI best))) g := by
    obtain ⟨T, H⟩ := ww_q W
    obtain ⟨best, e, lt, P⟩ := a_spark1 (X := X) (d := d + 1) (w := 1) H rfl
    obtain ⟨g, W1, q⟩ := w_q W P
    exact ⟨best, g, e, lt, W1, q⟩
  obtain ⟨best, g1, e1, lt, W1, q1⟩ := P1
  have P2 : ∃ g, WW g τ b A A j A0 Z ∧ ∀ Q : QT, wq X (d + 1 + 10) 132 0 [some (.ref 1), some (.int 0), none, none] [] g1 Q = Q (some (.int (nI (pcN best)))) g := by
    obtain ⟨T, H⟩ := ww_q W1
    obtain ⟨best', e, lt, P⟩ := a_spark0 (X := X) (d := d + 1) (w := 0) H rfl
    rw [e1] at e
    cases e
    exact w_q W1 P
  obtain ⟨g2, W2, q2⟩ := P2
  have hs := miS_sat _ _ e1
  unfold spP at hs
  rw [Bool.and_eq_true, decide_eq_true_eq, decide_eq_true_eq] at hs
  obtain ⟨s1, s2⟩ := hs
  rw [city_sub h7 lt] at s1
  obtain ⟨s3, s4⟩ := s1
  obtain ⟨g3, W3, q3⟩ := w_ask W2 (fun T H => a_spread (X := X) (d := d + 1) H s3)
  obtain ⟨g4, W4, q4⟩ := w_ask W3 (fun T H => a_spread (X := X) (d := d + 1) (s := 0) H (Nat.two_pow_pos _))
  rw [s2] at q3
  rw [Nat.or_zero] at q4
  simp only [nI_n0] at q4
  have f1 : sSpread τ (aN A) &&& aN A = aN A := by
    apply Nat.eq_of_testBit_eq
    intro k
    rw [Nat.testBit_and]
    cases z : (aN A).testBit k with
    | false => rw [Bool.and_false]
    | true =>
      have : (sSpread τ (aN A)).testBit k = true := spr_sup z 8
      rw [this]
      rfl
  refine ⟨g4, nI best, W4, fun Q => ?_⟩
  simp only [u315_513, u315_514, u315_515, eq_self, q_nl0, q_nlI, q_nlR, not_false_eq_true, q_nz0, q_nz1, q_zv0, q_zv1, q_tl1, q_tl0, q_wif, q_swc, q_swn, List.cons_append, List.nil_append, if_true, if_false, e10, e01, Bool.false_eq_true, sh_1, q1]
  simp only [u315_518, u315_520, u315_521, u315_524, u315_525, u315_526, eq_self, q_nl0, q_nlI, q_nlR, not_false_eq_true, q_nz0, q_nz1, q_zv0, q_zv1, q_tl1, q_tl0, q_wif, q_swc, q_swn, List.cons_append, List.nil_append, if_true, if_false, e10, e01, Bool.false_eq_true, sh_1, q2]
  simp only [u315_529, u315_531, u315_534, u315_537, u315_539, u315_541, u315_542, u315_545, u315_546, u315_548, eq_self, q_nl0, q_nlI, q_nlR, not_false_eq_true, q_nz0, q_nz1, q_zv0, q_zv1, q_tl1, q_tl0, q_wif, q_swc, q_swn, List.cons_append, List.nil_append, if_true, if_false, e10, e01, Bool.false_eq_true, sh_1, c_bitCount lt, nI_and, s4, nI_n0, q3]
  simp only [u315_551, u315_553, u315_556, u315_557, u315_558, eq_self, q_nl0, q_nlI, q_nlR, not_false_eq_true, q_nz0, q_nz1, q_zv0, q_zv1, q_tl1, q_tl0, q_wif, q_swc, q_swn, List.cons_append, List.nil_append, if_true, if_false, e10, e01, Bool.false_eq_true, sh_1, q4]
  simp only [u315_561, u315_563, u315_564, u315_566, u315_569, u315_570, u315_573, u315_574, u315_575, u315_576, eq_self, q_nl0, q_nlI, q_nlR, not_false_eq_true, q_nz0, q_nz1, q_zv0, q_zv1, q_tl1, q_tl0, q_wif, q_swc, q_swn, List.cons_append, List.nil_append, if_true, if_false, e10, e01, Bool.false_eq_true, nI_and, f1]
/-- those of a set leave, one behind the other -/
def lvA (A : Nat → Int32) (s : Nat) : Nat → Nat → Int32
  | 0 => A
  | m + 1 => if s.testBit m = true then plA (lvA A s m) (2 ^ m) else lvA A s m
theorem lvA_n {A : Nat → Int32} {s : Nat} (hn : aN A < 128) (hs : s < 128) : ∀ m, m ≤ 7 → aN (lvA A s m) = aN A ||| s % 2 ^ m
  | 0, _ => by
    show aN A = aN A ||| s % 1
    rw [Nat.mod_one, Nat.or_zero]
  | m + 1, hm => by
    have ih := lvA_n hn hs m (by omega)
    have l1 : aN A ||| s % 2 ^ m < 128 := or_128 hn (Nat.lt_of_le_of_lt (Nat.mod_le _ _) hs)
    have es : s % 2 ^ (m + 1) = if s.testBit m = true then s % 2 ^ m ||| 2 ^ m else s % 2 ^ m := by
      apply Nat.eq_of_testBit_eq
      intro k
      by_cases z : s.testBit m = true
      · rw [if_pos z, Nat.testBit_or, Nat.testBit_mod_two_pow, Nat.testBit_mod_two_pow, Nat.testBit_two_pow]
        by_cases e : m = k
        · rw [← e, z]
          simp
        · rw [decide_eq_false e, Bool.or_false]
          have : decide (k < m + 1) = decide (k < m) := decide_eq_decide.mpr (by omega)
          rw [this]
      · rw [if_neg z, Nat.testBit_mod_two_pow, Nat.testBit_mod_two_pow]
        by_cases e : m = k
        · rw [← e, show s.testBit m = false by simpa using z, Bool.and_false, Bool.and_false]
        · have : decide (k < m + 1) = decide (k < m) := decide_eq_decide.mpr (by omega)
          rw [this]
    rw [es]
    by_cases z : s.testBit m = true
    · rw [show lvA A s (m + 1) = plA (lvA A s m) (2 ^ m) from if_pos z, if_pos z, plA_n (by rw [ih]; exact l1) (p2_lt (by omega)), ih, Nat.or_assoc]
    · rw [show lvA A s (m + 1) = lvA A s m from if_neg z, if_neg z, ih]
theorem mod_bit {s m : Nat} : (s % 2 ^ m).testBit m = false := by
  rw [Nat.testBit_mod_two_pow, decide_eq_false (Nat.lt_irrefl m)]
  rfl
theorem and_not {a c m : Nat} (h : a &&& c = 0) (y : a.testBit m = true) : c.testBit m = false := by
  have := congrArg (fun z => z.testBit m) h
  simp only [Nat.testBit_and, y, Bool.true_and, Nat.zero_testBit] at this
  exact this
theorem bit_j {n i : Nat} (hn : n < 128) (hi : i < 8) : (nI n >>> (nI i &&& 31) &&& 1 = 0) = (n.testBit i = false) := by
  rw [bit_i hn hi]
  cases n.testBit i <;> decide
/-- what a craft needs to stop: the leavers of one set -/
theorem lw_so1 (L : LB τ b) (W : WW h τ b A A j A0 Z) {i s : Nat} (hs : s < 2 ^ τ 0 1) (s0 : 0 < s) (ha : s &&& aN A = 0) {k11 k12 : Int32} {l14 l15 l16 l17 l18 l19 l20 l21 l22 : Option Value} : ∃ g Z', WW g τ b A (lvA A s (τ 0 1)) j A0 Z' ∧ ∀ Q : QT, wq X (d + 12) 315 604 [some (.ref 10000), some (.ref 1), some (.ref 195), some (.int 1), some (.ref 196), some (.int (nI (sAll τ))), some (.int (nI i)), some (.int (A 18)), some (.int (nI (aN A))), some (.int (nI (sShort τ (aN A)))), some (.int (nI (sLoss τ (aN A)))), some (.int k11), some (.int k12), some (.int (nI s)), some (.int 0), l15, l16, l17, l18, l19, l20, l21, l22] [] h Q = wq X (d + 12) 315 652 [some (.ref 10000), some (.ref 1), some (.ref 195), some (.int 1), some (.ref 196), some (.int (nI (sAll τ))), some (.int (nI i)), some (.int (A 18)), some (.int (nI (aN A))), some (.int (nI (sShort τ (aN A)))), some (.int (nI (sLoss τ (aN A)))), some (.int k11), some (.int k12), some (.int (nI s)), some (.int (nI (τ 0 1))), l15, l16, l17, l18, l19, l20, l21, l22] [] g Q := by
  have h5 := L.2.2.1
  have h7 := o_mn L.1
  have K := ww_a W
  have hn := aN_lt L.1 K
  have hs7 : s < 128 := Nat.lt_of_lt_of_le hs (p2_7 h7)
  have sp : (0 < nI s) = True := eq_true ((ev_0 s (by omega)).mpr s0)
  obtain ⟨g, ⟨Z', W'⟩, e⟩ := q_loopI (α := HT) (fun m h => fun (Q : QT) => wq X (d + 12) 315 604 [some (.ref 10000), some (.ref 1), some (.ref 195), some (.int 1), some (.ref 196), some (.int (nI (sAll τ))), some (.int (nI i)), some (.int (A 18)), some (.int (nI (aN A))), some (.int (nI (sShort τ (aN A)))), some (.int (nI (sLoss τ (aN A)))), some (.int k11), some (.int k12), some (.int (nI s)), some (.int (nI m)), l15, l16, l17, l18, l19, l20, l21, l22] [] h Q) (fun m h => ∃ Z', WW h τ b A (lvA A s m) j A0 Z') (τ 0 1) (by
    rintro m hm h ⟨Z', W⟩
    have f1 : (nI m < nI (τ 0 1)) = True := eq_true (nI_lt hm (by omega))
    have hc : m_gI h 195 1 = nI (τ 0 1) := (ww_T W).1.2.1
    have hb := bit_j hs7 (show m < 8 by omega)
    by_cases z : s.testBit m = true
    · have en := lvA_n (A := A) (s := s) hn hs7 m (by omega)
      have hno : ¬ (aN (lvA A s m)).testBit m = true := by
        rw [en, Nat.testBit_or, mod_bit, and_not ha z]
        decide
      obtain ⟨g, W1, q1⟩ := w_leave (X := X) (d := d + 1) W hm hno
      have l1 : aN (lvA A s m) < 128 := by
        rw [en]
        exact or_128 hn (Nat.lt_of_le_of_lt (Nat.mod_le _ _) hs7)
      rw [pc_one _ l1 m (by omega) (by simpa using hno)] at q1
      have p8 := pcN_le _ l1
      have f2 : (0 < nI (pcN (aN (lvA A s m)) + 1)) = True := eq_true ((ev_0 _ (by omega)).mpr (by omega))
      refine ⟨g, ⟨some (lvA A s m), ?_⟩, funext fun Q => ?_⟩
      · rw [show lvA A s (m + 1) = plA (lvA A s m) (2 ^ m) from if_pos z]
        exact W1
      · show wq X (d + 12) 315 604 _ _ _ _ = _
        rw [u315_604]
        simp only [u315_606, u315_607, u315_608, u315_609, u315_612, u315_613, u315_616, u315_618, u315_621, u315_623, u315_625, u315_626, u315_627, u315_628, u315_631, u315_632, u315_634, eq_self, q_nl0, q_nlI, q_nlR, not_false_eq_true, q_nz0, q_nz1, q_zv0, q_zv1, q_tl1, q_tl0, q_wif, q_swc, q_swn, List.cons_append, List.nil_append, if_true, if_false, e10, e01, Bool.false_eq_true, sh_1, sh_195, t_in1, t_cl1, hc, f1, sp, hb, z, Bool.true_eq_false, q1]
        simp only [u315_637, u315_640, u315_641, u315_644, u315_645, u315_646, u315_649, eq_self, q_nl0, q_nlI, q_nlR, not_false_eq_true, q_nz0, q_nz1, q_zv0, q_zv1, q_tl1, q_tl0, q_wif, q_swc, q_swn, List.cons_append, List.nil_append, if_true, if_false, e10, e01, Bool.false_eq_true, f2, nI_1]
    · refine ⟨h, ⟨Z', ?_⟩, funext fun Q => ?_⟩
      · rw [show lvA A s (m + 1) = lvA A s m from if_neg z]
        exact W
      · have z' : s.testBit m = false := by simpa using z
        show wq X (d + 12) 315 604 _ _ _ _ = _
        rw [u315_604]
        simp only [u315_606, u315_607, u315_608, u315_609, u315_612, u315_613, u315_616, u315_618, u315_621, u315_623, u315_625, u315_626, u315_627, u315_628, u315_631, u315_632, u315_634, u315_637, u315_640, u315_641, u315_644, u315_645, u315_646, u315_649, eq_self, q_nl0, q_nlI, q_nlR, not_false_eq_true, q_nz0, q_nz1, q_zv0, q_zv1, q_tl1, q_tl0, q_wif, q_swc, q_swn, List.cons_append, List.nil_append, if_true, if_false, e10, e01, Bool.false_eq_true, sh_1, sh_195, t_in1, t_cl1, hc, f1, sp, hb, z', nI_1]) h ⟨Z, W⟩
  refine ⟨g, Z', W', fun Q => ?_⟩
  have e' := congrFun e Q
  have hc : m_gI g 195 1 = nI (τ 0 1) := (ww_T W').1.2.1
  refine Eq.trans (b := wq X (d + 12) 315 604 [some (.ref 10000), some (.ref 1), some (.ref 195), some (.int 1), some (.ref 196), some (.int (nI (sAll τ))), some (.int (nI i)), some (.int (A 18)), some (.int (nI (aN A))), some (.int (nI (sShort τ (aN A)))), some (.int (nI (sLoss τ (aN A)))), some (.int k11), some (.int k12), some (.int (nI s)), some (.int (nI 0)), l15, l16, l17, l18, l19, l20, l21, l22] [] h Q) rfl (e'.trans ?_)
  show wq X (d + 12) 315 604 _ _ _ _ = _
  rw [u315_604]
  simp only [u315_606, u315_607, u315_608, u315_609, eq_self, q_nl0, q_nlI, q_nlR, not_false_eq_true, q_nz0, q_nz1, q_zv0, q_zv1, q_tl1, q_tl0, q_wif, q_swc, q_swn, List.cons_append, List.nil_append, if_true, if_false, e10, e01, Bool.false_eq_true, sh_195, t_in1, t_cl1, hc, eq_false (nI_nlt (Nat.le_refl (τ 0 1)) (show τ 0 1 < 2 ^ 31 by omega))]
theorem lw_so2 (L : LB τ b) (W : WW h τ b A A j A0 Z) {i s : Nat} (hs : s < 2 ^ τ 0 1) (s0 : 0 < s) (ha : s &&& aN A = 0) {k11 : Int32} {l14 l15 l16 l17 l18 l19 l20 l21 l22 : Option Value} : ∃ g Z', WW g τ b A (lvA A s (τ 0 1)) j A0 Z' ∧ ∀ Q : QT, wq X (d + 12) 315 745 [some (.ref 10000), some (.ref 1), some (.ref 195), some (.int 1), some (.ref 196), some (.int (nI (sAll τ))), some (.int (nI i)), some (.int (A 18)), some (.int (nI (aN A))), some (.int (nI (sShort τ (aN A)))), some (.int (nI (sLoss τ (aN A)))), some (.int k11), some (.int (nI s)), some (.int 0), l14, l15, l16, l17, l18, l19, l20, l21, l22] [] h Q = wq X (d + 12) 315 793 [some (.ref 10000), some (.ref 1), some (.ref 195), some (.int 1), some (.ref 196), some (.int (nI (sAll τ))), some (.int (nI i)), some (.int (A 18)), some (.int (nI (aN A))), some (.int (nI (sShort τ (aN A)))), some (.int (nI (sLoss τ (aN A)))), some (.int k11), some (.int (nI s)), some (.int (nI (τ 0 1))), l14, l15, l16, l17, l18, l19, l20, l21, l22] [] g Q := by
  have h5 := L.2.2.1
  have h7 := o_mn L.1
  have K := ww_a W
  have hn := aN_lt L.1 K
  have hs7 : s < 128 := Nat.lt_of_lt_of_le hs (p2_7 h7)
  have sp : (0 < nI s) = True := eq_true ((ev_0 s (by omega)).mpr s0)
  obtain ⟨g, ⟨Z', W'⟩, e⟩ := q_loopI (α := HT) (fun m h => fun (Q : QT) => wq X (d + 12) 315 745 [some (.ref 10000), some (.ref 1), some (.ref 195), some (.int 1), some (.ref 196), some (.int (nI (sAll τ))), some (.int (nI i)), some (.int (A 18)), some (.int (nI (aN A))), some (.int (nI (sShort τ (aN A)))), some (.int (nI (sLoss τ (aN A)))), some (.int k11), some (.int (nI s)), some (.int (nI m)), l14, l15, l16, l17, l18, l19, l20, l21, l22] [] h Q) (fun m h => ∃ Z', WW h τ b A (lvA A s m) j A0 Z') (τ 0 1) (by
    rintro m hm h ⟨Z', W⟩
    have f1 : (nI m < nI (τ 0 1)) = True := eq_true (nI_lt hm (by omega))
    have hc : m_gI h 195 1 = nI (τ 0 1) := (ww_T W).1.2.1
    have hb := bit_j hs7 (show m < 8 by omega)
    by_cases z : s.testBit m = true
    · have en := lvA_n (A := A) (s := s) hn hs7 m (by omega)
      have hno : ¬ (aN (lvA A s m)).testBit m = true := by
        rw [en, Nat.testBit_or, mod_bit, and_not ha z]
        decide
      obtain ⟨g, W1, q1⟩ := w_leave (X := X) (d := d + 1) W hm hno
      have l1 : aN (lvA A s m) < 128 := by
        rw [en]
        exact or_128 hn (Nat.lt_of_le_of_lt (Nat.mod_le _ _) hs7)
      rw [pc_one _ l1 m (by omega) (by simpa using hno)] at q1
      have p8 := pcN_le _ l1
      have f2 : (0 < nI (pcN (aN (lvA A s m)) + 1)) = True := eq_true ((ev_0 _ (by omega)).mpr (by omega))
      refine ⟨g, ⟨some (lvA A s m), ?_⟩, funext fun Q => ?_⟩
      · rw [show lvA A s (m + 1) = plA (lvA A s m) (2 ^ m) from if_pos z]
        exact W1
      · show wq X (d + 12) 315 745 _ _ _ _ = _
        rw [u315_745]
        simp only [u315_747, u315_748, u315_749, u315_750, u315_753, u315_754, u315_757, u315_759, u315_762, u315_764, u315_766, u315_767, u315_768, u315_769, u315_772, u315_773, u315_775, eq_self, q_nl0, q_nlI, q_nlR, not_false_eq_true, q_nz0, q_nz1, q_zv0, q_zv1, q_tl1, q_tl0, q_wif, q_swc, q_swn, List.cons_append, List.nil_append, if_true, if_false, e10, e01, Bool.false_eq_true, sh_1, sh_195, t_in1, t_cl1, hc, f1, sp, hb, z, Bool.true_eq_false, q1]
        simp only [u315_778, u315_781, u315_782, u315_785, u315_786, u315_787, u315_790, eq_self, q_nl0, q_nlI, q_nlR, not_false_eq_true, q_nz0, q_nz1, q_zv0, q_zv1, q_tl1, q_tl0, q_wif, q_swc, q_swn, List.cons_append, List.nil_append, if_true, if_false, e10, e01, Bool.false_eq_true, f2, nI_1]
    · refine ⟨h, ⟨Z', ?_⟩, funext fun Q => ?_⟩
      · rw [show lvA A s (m + 1) = lvA A s m from if_neg z]
        exact W
      · have z' : s.testBit m = false := by simpa using z
        show wq X (d + 12) 315 745 _ _ _ _ = _
        rw [u315_745]
        simp only [u315_747, u315_748, u315_749, u315_750, u315_753, u315_754, u315_757, u315_759, u315_762, u315_764, u315_766, u315_767, u315_768, u315_769, u315_772, u315_773, u315_775, u315_778, u315_781, u315_782, u315_785, u315_786, u315_787, u315_790, eq_self, q_nl0, q_nlI, q_nlR, not_false_eq_true, q_nz0, q_nz1, q_zv0, q_zv1, q_tl1, q_tl0, q_wif, q_swc, q_swn, List.cons_append, List.nil_append, if_true, if_false, e10, e01, Bool.false_eq_true, sh_1, sh_195, t_in1, t_cl1, hc, f1, sp, hb, z', nI_1]) h ⟨Z, W⟩
  refine ⟨g, Z', W', fun Q => ?_⟩
  have e' := congrFun e Q
  have hc : m_gI g 195 1 = nI (τ 0 1) := (ww_T W').1.2.1
  refine Eq.trans (b := wq X (d + 12) 315 745 [some (.ref 10000), some (.ref 1), some (.ref 195), some (.int 1), some (.ref 196), some (.int (nI (sAll τ))), some (.int (nI i)), some (.int (A 18)), some (.int (nI (aN A))), some (.int (nI (sShort τ (aN A)))), some (.int (nI (sLoss τ (aN A)))), some (.int k11), some (.int (nI s)), some (.int (nI 0)), l14, l15, l16, l17, l18, l19, l20, l21, l22] [] h Q) rfl (e'.trans ?_)
  show wq X (d + 12) 315 745 _ _ _ _ = _
  rw [u315_745]
  simp only [u315_747, u315_748, u315_749, u315_750, eq_self, q_nl0, q_nlI, q_nlR, not_false_eq_true, q_nz0, q_nz1, q_zv0, q_zv1, q_tl1, q_tl0, q_wif, q_swc, q_swn, List.cons_append, List.nil_append, if_true, if_false, e10, e01, Bool.false_eq_true, sh_195, t_in1, t_cl1, hc, eq_false (nI_nlt (Nat.le_refl (τ 0 1)) (show τ 0 1 < 2 ^ 31 by omega))]
end LAW2
