/-! THE LAW: odds, acts, the rounds -/
theorem i64_n {a : Nat} (h : a < 2 ^ 31) : (nI a).toInt64 = Int64.ofNat a := by
  apply Int64.toInt_inj.mp
  rw [Int32.toInt_toInt64, nI_toInt h, Int64.toInt_ofNat_of_lt (by omega)]
theorem lg_le {a c : Nat} (h : a ≤ c) (hc : c < 2 ^ 62) : ¬ 0 < lg_cmp (Int64.ofNat a) (Int64.ofNat c) := by
  have h1 : ¬ Int64.ofNat c < Int64.ofNat a := by
    rw [Int64.lt_iff_toInt_lt, Int64.toInt_ofNat_of_lt (by omega), Int64.toInt_ofNat_of_lt (by omega)]
    omega
  unfold lg_cmp
  rw [if_neg h1]
  split <;> decide
theorem od_le {u l u' l' : Nat} (hl : 0 < l) (hl' : 0 < l') (h : u' * l ≤ u * l') : u' / Nat.gcd u' l' * (l / Nat.gcd u l) ≤ u / Nat.gcd u l * (l' / Nat.gcd u' l') := by
  have g1 : 0 < Nat.gcd u l := Nat.gcd_pos_of_pos_right u hl
  have g2 : 0 < Nat.gcd u' l' := Nat.gcd_pos_of_pos_right u' hl'
  obtain ⟨a, ha⟩ := Nat.gcd_dvd_left u l
  obtain ⟨c, hc⟩ := Nat.gcd_dvd_right u l
  obtain ⟨a', ha'⟩ := Nat.gcd_dvd_left u' l'
  obtain ⟨c', hc'⟩ := Nat.gcd_dvd_right u' l'
  generalize Nat.gcd u l = g at *
  generalize Nat.gcd u' l' = g' at *
  subst ha hc ha' hc'
  rw [Nat.mul_div_cancel_left _ g1, Nat.mul_div_cancel_left _ g1, Nat.mul_div_cancel_left _ g2, Nat.mul_div_cancel_left _ g2]
  have e1 : g' * a' * (g * c) = (g * g') * (a' * c) := by
    rw [Nat.mul_mul_mul_comm, Nat.mul_comm g' g]
  have e2 : g * a * (g' * c') = (g * g') * (a * c') := Nat.mul_mul_mul_comm _ _ _ _
  rw [e1, e2] at h
  exact Nat.le_of_mul_le_mul_left h (Nat.mul_pos g1 g2)
/-- a draw -/
theorem l_cell {X : XT} {d n : Nat} {h : HT} (hX1 : X.1 ≤ 260) (hn : n < 1000) (Q : QT) : wq X d 80 0 [some (.ref 10000), some (.int (nI n))] [] h Q = Q (some (.int (if n < X.1 then X.2 n else 0))) h := by
  have hb : Nat.blt X.1 4096 = true := by
    rw [Nat.blt_eq]
    omega
  have f : (nI n < Int32.ofNat X.1) = (n < X.1) := nI_ltB (by omega) (by omega)
  by_cases z : n < X.1
  · have e1 : m_in (nI n) X.1 = true := q_in z (by omega)
    have e2 : (nI n).toNatClampNeg = n := q_cl (by omega)
    rw [if_pos z]
    simp only [u80_0, u80_1, u80_2, u80_3, u80_6, u80_7, u80_8, u80_9, u80_12, u80_13, eq_self, q_nl0, q_nlI, q_nlR, not_false_eq_true, q_nz0, q_nz1, q_zv0, q_zv1, q_tl1, q_tl0, q_wif, q_swc, q_swn, List.cons_append, List.nil_append, if_true, if_false, e10, e01, Bool.false_eq_true, hb, f, z, e1, e2]
  · rw [if_neg z]
    simp only [u80_0, u80_1, u80_2, u80_3, u80_6, u80_7, u80_8, u80_9, u80_12, u80_13, eq_self, q_nl0, q_nlI, q_nlR, not_false_eq_true, q_nz0, q_nz1, q_zv0, q_zv1, q_tl1, q_tl0, q_wif, q_swc, q_swn, List.cons_append, List.nil_append, if_true, if_false, e10, e01, Bool.false_eq_true, hb, f, z]
section LAW8
variable {X : XT} {d : Nat} {h : HT} {τ : CT} {b : Nat} {A A1 : Nat → Int32} {Z : Option (Nat → Int32)}
theorem lw_od (hX : X.2 100000 ≠ 0) (L : LB τ b) {i j : Nat} {A0 : Nat → Int32} (W : WW h τ b A A j A0 Z) {k11 j12 v13 v14 v15 v16 v17 v18 v19 v20 v21 : Int32} {l22 : Option Value} : ∃ g, WW g τ b A A j A0 Z ∧ ∀ Q : QT, wq X (d + 12) 315 1460 [some (.ref 10000), some (.ref 1), some (.ref 195), some (.int 1), some (.ref 196), some (.int (nI (sAll τ))), some (.int (nI i)), some (.int (A 18)), some (.int (nI (aN A))), some (.int (nI (sShort τ (aN A)))), some (.int (nI (sLoss τ (aN A)))), some (.int k11), some (.int j12), some (.int v13), some (.int v14), some (.int v15), some (.int v16), some (.int v17), some (.int v18), some (.int v19), some (.int v20), some (.int v21), l22] [] h Q = wq X (d + 12) 315 1527 [some (.ref 10000), some (.ref 1), some (.ref 195), some (.int 1), some (.ref 196), some (.int (nI (sAll τ))), some (.int (nI i)), some (.int (A 18)), some (.int (nI (aN A))), some (.int (nI (sShort τ (aN A)))), some (.int (nI (sLoss τ (aN A)))), some (.int k11), some (.int j12), some (.int v13), some (.int v14), some (.int v15), some (.int v16), some (.int v17), some (.int v18), some (.int v19), some (.int v20), some (.int v21), some (.int 0)] [] g Q := by
  have K := ww_a W
  obtain ⟨g1, W1, q1⟩ := w_ask W (fun T H => a_odds0 (X := X) (d := d + 1) (n := 0) (w := 0) H (by decide) rfl)
  obtain ⟨g2, W2, q2⟩ := w_ask W1 (fun T H => a_odds0 (X := X) (d := d + 1) (n := 2) (w := 0) H (by decide) rfl)
  obtain ⟨g3, W3, q3⟩ := w_ask W2 (fun T H => a_odds1 (X := X) (d := d + 1) (n := 1) (w := 1) H (by decide) rfl)
  obtain ⟨g4, W4, q4⟩ := w_ask W3 (fun T H => a_odds0 (X := X) (d := d + 1) (n := 1) (w := 0) H (by decide) rfl)
  obtain ⟨g5, W5, q5⟩ := w_ask W4 (fun T H => a_odds1 (X := X) (d := d + 1) (n := 2) (w := 1) H (by decide) rfl)
  obtain ⟨g6, W6, q6⟩ := l_same (X := X) (d := d) hX L W5
  have e0 : nI (odU τ A 0) / nI (Nat.gcd (odU τ A 0) (odL 0)) = 1 := by
    show nI 1 / nI (Nat.gcd 1 1) = 1
    decide
  rw [e0] at q1
  have u1 := odU_le (τ := τ) (A := A) 1
  have u2 := odU_le (τ := τ) (A := A) 2
  have L1 : odL 1 = 100 := rfl
  have L2 : odL 2 = 10000 := rfl
  have k2 : odU τ A 2 = odU τ A 1 * (100 - nOd τ (aG τ (aIt τ A 1))) := rfl
  have le : odU τ A 2 * odL 1 ≤ odU τ A 1 * odL 2 := by
    rw [k2, L1, L2, Nat.mul_assoc]
    refine Nat.mul_le_mul_left _ ?_
    omega
  have od := od_le (u := odU τ A 1) (l := odL 1) (u' := odU τ A 2) (l' := odL 2) (by decide) (by decide) le
  have d1 := Nat.div_le_self (odU τ A 1) (Nat.gcd (odU τ A 1) (odL 1))
  have d2 := Nat.div_le_self (odU τ A 2) (Nat.gcd (odU τ A 2) (odL 2))
  have d3 := Nat.div_le_self (odL 1) (Nat.gcd (odU τ A 1) (odL 1))
  have d4 := Nat.div_le_self (odL 2) (Nat.gcd (odU τ A 2) (odL 2))
  have t1 := Nat.gcd_le_right (odU τ A 1) (show 0 < odL 1 by decide)
  have t2 := Nat.gcd_le_right (odU τ A 2) (show 0 < odL 2 by decide)
  rw [nI_div (by omega) (by omega)] at q2 q3 q4 q5
  generalize odU τ A 2 / Nat.gcd (odU τ A 2) (odL 2) = x2 at *
  generalize odU τ A 1 / Nat.gcd (odU τ A 1) (odL 1) = x1 at *
  generalize odL 2 / Nat.gcd (odU τ A 2) (odL 2) = y2 at *
  generalize odL 1 / Nat.gcd (odU τ A 1) (odL 1) = y1 at *
  have b1 : x1 * y2 ≤ 100 * 10000 := Nat.mul_le_mul (by omega) (by omega)
  have m1 : Int64.ofNat x2 * Int64.ofNat y1 = Int64.ofNat (x2 * y1) := (Int64.ofNat_mul _ _).symm
  have m2 : Int64.ofNat x1 * Int64.ofNat y2 = Int64.ofNat (x1 * y2) := (Int64.ofNat_mul _ _).symm
  have cmp := lg_le od (by omega)
  have i1 : nI 1 = (1 : Int32) := rfl
  have i2 : nI 2 = (2 : Int32) := rfl
  simp only [nI_n0] at q1
  simp only [i2] at q2 q5
  simp only [i1] at q3 q4
  refine ⟨g6, W6, fun Q => ?_⟩
  simp only [u315_1460, u315_1461, u315_1464, u315_1465, u315_1466, u315_1467, eq_self, q_nl0, q_nlI, q_nlR, not_false_eq_true, q_nz0, q_nz1, q_zv0, q_zv1, q_tl1, q_tl0, q_wif, q_swc, q_swn, List.cons_append, List.nil_append, if_true, if_false, e10, e01, Bool.false_eq_true, sh_1, q1]
  simp only [u315_1470, u315_1471, u315_1474, u315_1475, u315_1476, u315_1477, eq_self, q_nl0, q_nlI, q_nlR, not_false_eq_true, q_nz0, q_nz1, q_zv0, q_zv1, q_tl1, q_tl0, q_wif, q_swc, q_swn, List.cons_append, List.nil_append, if_true, if_false, e10, e01, Bool.false_eq_true, sh_1, q2]
  simp only [u315_1480, u315_1481, u315_1482, u315_1483, u315_1484, eq_self, q_nl0, q_nlI, q_nlR, not_false_eq_true, q_nz0, q_nz1, q_zv0, q_zv1, q_tl1, q_tl0, q_wif, q_swc, q_swn, List.cons_append, List.nil_append, if_true, if_false, e10, e01, Bool.false_eq_true, sh_1, q3]
  simp only [u315_1487, u315_1488, u315_1489, u315_1490, u315_1491, u315_1492, eq_self, q_nl0, q_nlI, q_nlR, not_false_eq_true, q_nz0, q_nz1, q_zv0, q_zv1, q_tl1, q_tl0, q_wif, q_swc, q_swn, List.cons_append, List.nil_append, if_true, if_false, e10, e01, Bool.false_eq_true, sh_1, q4]
  simp only [u315_1495, u315_1496, u315_1497, u315_1498, u315_1499, eq_self, q_nl0, q_nlI, q_nlR, not_false_eq_true, q_nz0, q_nz1, q_zv0, q_zv1, q_tl1, q_tl0, q_wif, q_swc, q_swn, List.cons_append, List.nil_append, if_true, if_false, e10, e01, Bool.false_eq_true, sh_1, q5]
  simp only [u315_1502, u315_1503, u315_1504, u315_1505, u315_1508, u315_1509, u315_1510, u315_1512, eq_self, q_nl0, q_nlI, q_nlR, not_false_eq_true, q_nz0, q_nz1, q_zv0, q_zv1, q_tl1, q_tl0, q_wif, q_swc, q_swn, List.cons_append, List.nil_append, if_true, if_false, e10, e01, Bool.false_eq_true, i64_n (show x2 < 2 ^ 31 by omega), i64_n (show x1 < 2 ^ 31 by omega), i64_n (show y1 < 2 ^ 31 by omega), i64_n (show y2 < 2 ^ 31 by omega), m1, m2, cmp, q6]
  simp only [u315_1515, u315_1518, u315_1519, u315_1522, u315_1523, u315_1524, u315_1525, eq_self, q_nl0, q_nlI, q_nlR, not_false_eq_true, q_nz0, q_nz1, q_zv0, q_zv1, q_tl1, q_tl0, q_wif, q_swc, q_swn, List.cons_append, List.nil_append, if_true, if_false, e10, e01, Bool.false_eq_true]
theorem rem7 : ∀ i, i < 5 → ∀ k, k < 2 → (2 : Int32) * nI i + nI k - (2 * nI i + nI k) / 7 * 7 = nI ((2 * i + k) % 7) := by decide
theorem lw_act (hX : X.2 100000 ≠ 0) (hX1 : X.1 ≤ 260) (L : LB τ b) {i j : Nat} {A0 : Nat → Int32} (hi : i < 5) (W : WW h τ b A1 A1 j A0 Z) (lv : LV τ A1) {n : Nat} (dy : DY A1 n) (hn9 : n < 999) {k : Nat} (hk : k < 2) {k11 j12 v13 v14 v15 v16 v17 v18 v19 v20 v21 : Int32} : ∃ g A2 Z2, WW g τ b A2 A2 j A0 Z2 ∧ LV τ A2 ∧ DY A2 (n + 1) ∧ ∀ Q : QT, wq X (d + 12) 315 1527 [some (.ref 10000), some (.ref 1), some (.ref 195), some (.int 1), some (.ref 196), some (.int (nI (sAll τ))), some (.int (nI i)), some (.int (A 18)), some (.int (nI (aN A))), some (.int (nI (sShort τ (aN A)))), some (.int (nI (sLoss τ (aN A)))), some (.int k11), some (.int j12), some (.int v13), some (.int v14), some (.int v15), some (.int v16), some (.int v17), some (.int v18), some (.int v19), some (.int v20), some (.int v21), some (.int (nI k))] [] h Q = wq X (d + 12) 315 1527 [some (.ref 10000), some (.ref 1), some (.ref 195), some (.int 1), some (.ref 196), some (.int (nI (sAll τ))), some (.int (nI i)), some (.int (A 18)), some (.int (nI (aN A))), some (.int (nI (sShort τ (aN A)))), some (.int (nI (sLoss τ (aN A)))), some (.int k11), some (.int j12), some (.int v13), some (.int v14), some (.int v15), some (.int v16), some (.int v17), some (.int v18), some (.int v19), some (.int v20), some (.int v21), some (.int (nI (k + 1)))] [] g Q := by
  have f1 : (nI k < 2) = True := eq_true (nI_lt (b := 2) hk (by decide))
  have n7 : ¬ (7 : Int32) = 0 := by decide
  have e6 : (6 : Int32) + nI ((2 * i + k) % 7) = nI (6 + (2 * i + k) % 7) := nI_add 6 _
  have lc := fun (Q : QT) => l_cell (X := X) (d := d + 11) (h := h) hX1 (show 6 + (2 * i + k) % 7 < 1000 by omega) Q
  generalize (if 6 + (2 * i + k) % 7 < X.1 then X.2 (6 + (2 * i + k) % 7) else 0) = w at lc
  obtain ⟨g, A2, Z2, W2, lv2, dy2, q⟩ := l_act (X := X) (d := d) hX L W lv dy hn9 (w >>> (nI i &&& 31))
  refine ⟨g, A2, Z2, W2, lv2, dy2, fun Q => ?_⟩
  rw [u315_1527]
  simp only [u315_1529, u315_1530, u315_1533, u315_1534, u315_1537, u315_1538, u315_1539, u315_1541, u315_1542, u315_1544, u315_1545, u315_1547, u315_1548, u315_1550, u315_1551, u315_1553, u315_1554, u315_1555, eq_self, q_nl0, q_nlI, q_nlR, not_false_eq_true, q_nz0, q_nz1, q_zv0, q_zv1, q_tl1, q_tl0, q_wif, q_swc, q_swn, List.cons_append, List.nil_append, if_true, if_false, e10, e01, Bool.false_eq_true, f1, n7, not_false_eq_true, rem7 i hi k hk, e6, lc]
  simp only [u315_1558, u315_1560, u315_1561, eq_self, q_nl0, q_nlI, q_nlR, not_false_eq_true, q_nz0, q_nz1, q_zv0, q_zv1, q_tl1, q_tl0, q_wif, q_swc, q_swn, List.cons_append, List.nil_append, if_true, if_false, e10, e01, Bool.false_eq_true, q]
  simp only [u315_1564, u315_1565, u315_1568, eq_self, q_nl0, q_nlI, q_nlR, not_false_eq_true, q_nz0, q_nz1, q_zv0, q_zv1, q_tl1, q_tl0, q_wif, q_swc, q_swn, List.cons_append, List.nil_append, if_true, if_false, e10, e01, Bool.false_eq_true, nI_1]
theorem lw_round (hX : X.2 100000 ≠ 0) (hX1 : X.1 ≤ 260) (L : LB τ b) {i j : Nat} {A0 : Nat → Int32} (hi : i < 5) (W : WW h τ b A A j A0 Z) (lv : LV τ A) {n : Nat} (dy : DY A n) (hn9 : n ≤ 900) (J : Nat → Option Value) : ∃ g A2 j' A0' Z2, ∃ J' : Nat → Option Value, WW g τ b A2 A2 j' A0' Z2 ∧ LV τ A2 ∧ DY A2 (n + 2) ∧ ∀ Q : QT, wq X (d + 12) 315 38 [some (.ref 10000), some (.ref 1), some (.ref 195), some (.int 1), some (.ref 196), some (.int (nI (sAll τ))), some (.int (nI i)), J 7, J 8, J 9, J 10, J 11, J 12, J 13, J 14, J 15, J 16, J 17, J 18, J 19, J 20, J 21, J 22] [] h Q = wq X (d + 12) 315 38 [some (.ref 10000), some (.ref 1), some (.ref 195), some (.int 1), some (.ref 196), some (.int (nI (sAll τ))), some (.int (nI (i + 1))), J' 7, J' 8, J' 9, J' 10, J' 11, J' 12, J' 13, J' 14, J' 15, J' 16, J' 17, J' 18, J' 19, J' 20, J' 21, J' 22] [] g Q := by
  obtain ⟨g1, W1, q1⟩ := lw_1 (X := X) (d := d) (l7 := J 7) (l8 := J 8) (l9 := J 9) (l10 := J 10) (l11 := J 11) (l12 := J 12) (l13 := J 13) (l14 := J 14) (l15 := J 15) (l16 := J 16) (l17 := J 17) (l18 := J 18) (l19 := J 19) (l20 := J 20) (l21 := J 21) (l22 := J 22) L W hi
  obtain ⟨g2, k12, k13, k14, k15, Z2, W2, q2⟩ := lw_men (X := X) (d := d) (i := i) L lv W1 (J 12) (J 13) (J 14) (J 15) (J 16) (J 17) (J 18) (J 19) (J 20) (J 21) (J 22)
  obtain ⟨g3, v11, W3, q3⟩ := lw_sp (X := X) (d := d) (i := i) (k11 := nI (τ 0 1)) (l12 := k12) (l13 := k13) (l14 := k14) (l15 := k15) (l16 := J 16) (l17 := J 17) (l18 := J 18) (l19 := J 19) (l20 := J 20) (l21 := J 21) (l22 := J 22) L W2
  obtain ⟨g4, j13, j14, Z4, W4, q4⟩ := lw_stops (X := X) (d := d) (i := i) (k11 := v11) L hi W3 k13 k14 k15 (J 16) (J 17) (J 18) (J 19) (J 20) (J 21) (J 22)
  obtain ⟨g5, v12, v13, W5, q5⟩ := lw_press (X := X) (d := d) (i := i) (k11 := v11) (l12 := some (.int (nI (2 ^ τ 0 0)))) (l13 := j13) (l14 := j14) (l15 := k15) (l16 := J 16) (l17 := J 17) (l18 := J 18) (l19 := J 19) (l20 := J 20) (l21 := J 21) (l22 := J 22) L hi W4
  obtain ⟨g6, v14, v15, v16, v17, v18, j20, W6, q6⟩ := lw_days (X := X) (d := d) (i := i) (k11 := v11) (j12 := v12) (j13 := v13) (l14 := j14) (l15 := k15) (l16 := J 16) (l17 := J 17) (l18 := J 18) (l19 := J 19) (l20 := J 20) (l21 := J 21) (l22 := J 22) L hi W5 dy hn9
  obtain ⟨g7, k20, W7, q7⟩ := lw_offers (X := X) (d := d) (i := i) (k11 := v11) (j12 := v12) (v14 := v14) (v15 := v15) (v16 := v16) (v17 := v17) (v18 := v18) (l20 := j20) (l21 := J 21) (l22 := J 22) L W6
  obtain ⟨g8, v19, v20, W8, q8⟩ := lw_bribe (X := X) (d := d) (i := i) (k11 := v11) (j12 := v12) (v13 := oI (fstN (lsP τ A) 60)) (v14 := v14) (v15 := v15) (v16 := v16) (v17 := v17) (v18 := v18) (l19 := some (.int (nI 9))) (l20 := k20) (l21 := J 21) (l22 := J 22) L hi W7
  obtain ⟨g9, u20, v21, v22, W9, q9⟩ := lw_w (X := X) (d := d) (i := i) (k11 := v11) (j12 := v12) (v13 := oI (fstN (lsP τ A) 60)) (v14 := v14) (v15 := v15) (v16 := v16) (v17 := v17) (v18 := v18) (v19 := v19) (v20 := v20) (l21 := J 21) (l22 := J 22) L W8
  obtain ⟨g10, W10, q10⟩ := lw_od (X := X) (d := d) (i := i) (k11 := v11) (j12 := v12) (v13 := oI (fstN (lsP τ A) 60)) (v14 := v14) (v15 := v15) (v16 := v16) (v17 := v17) (v18 := v18) (v19 := v19) (v20 := u20) (v21 := v21) (l22 := some (.int v22)) hX L W9
  obtain ⟨g11, A2, Z11, W11, lv11, dy11, q11⟩ := lw_act (X := X) (d := d) (i := i) (A := A) (k := 0) (k11 := v11) (j12 := v12) (v13 := oI (fstN (lsP τ A) 60)) (v14 := v14) (v15 := v15) (v16 := v16) (v17 := v17) (v18 := v18) (v19 := v19) (v20 := u20) (v21 := v21) hX hX1 L hi W10 lv dy (by omega) (by decide)
  obtain ⟨g12, A3, Z12, W12, lv12, dy12, q12⟩ := lw_act (X := X) (d := d) (i := i) (A := A) (k := 1) (k11 := v11) (j12 := v12) (v13 := oI (fstN (lsP τ A) 60)) (v14 := v14) (v15 := v15) (v16 := v16) (v17 := v17) (v18 := v18) (v19 := v19) (v20 := u20) (v21 := v21) hX hX1 L hi W11 lv11 dy11 (by omega) (by decide)
  obtain ⟨g13, W13, q13⟩ := l_same (X := X) (d := d) hX L W12
  refine ⟨g13, A3, _, _, Z12, fun k => [some (.int (A 18)), some (.int (nI (aN A))), some (.int (nI (sShort τ (aN A)))), some (.int (nI (sLoss τ (aN A)))), some (.int v11), some (.int v12), some (.int (oI (fstN (lsP τ A) 60))), some (.int v14), some (.int v15), some (.int v16), some (.int v17), some (.int v18), some (.int v19), some (.int u20), some (.int v21), some (.int (nI 2))].getD (k - 7) none, W13, lv12, dy12, fun Q => ?_⟩
  refine (q1 Q).trans ((q2 Q).trans ((q3 Q).trans ((q4 Q).trans ((q5 Q).trans ((q6 Q).trans ((q7 Q).trans ((q8 Q).trans ((q9 Q).trans ((q10 Q).trans (Eq.trans (q11 Q) ((q12 Q).trans ?_)))))))))))
  have last : wq X (d + 12) 315 1527 [some (.ref 10000), some (.ref 1), some (.ref 195), some (.int 1), some (.ref 196), some (.int (nI (sAll τ))), some (.int (nI i)), some (.int (A 18)), some (.int (nI (aN A))), some (.int (nI (sShort τ (aN A)))), some (.int (nI (sLoss τ (aN A)))), some (.int v11), some (.int v12), some (.int (oI (fstN (lsP τ A) 60))), some (.int v14), some (.int v15), some (.int v16), some (.int v17), some (.int v18), some (.int v19), some (.int u20), some (.int v21), some (.int (nI 2))] [] g12 Q = wq X (d + 12) 315 38 [some (.ref 10000), some (.ref 1), some (.ref 195), some (.int 1), some (.ref 196), some (.int (nI (sAll τ))), some (.int (nI (i + 1))), some (.int (A 18)), some (.int (nI (aN A))), some (.int (nI (sShort τ (aN A)))), some (.int (nI (sLoss τ (aN A)))), some (.int v11), some (.int v12), some (.int (oI (fstN (lsP τ A) 60))), some (.int v14), some (.int v15), some (.int v16), some (.int v17), some (.int v18), some (.int v19), some (.int u20), some (.int v21), some (.int (nI 2))] [] g13 Q := by
    rw [u315_1527]
    simp only [u315_1529, u315_1530, eq_self, q_nl0, q_nlI, q_nlR, not_false_eq_true, q_nz0, q_nz1, q_zv0, q_zv1, q_tl1, q_tl0, q_wif, q_swc, q_swn, List.cons_append, List.nil_append, if_true, if_false, e10, e01, Bool.false_eq_true, eq_false (show ¬ nI 2 < 2 by decide)]
    simp only [u315_1571, u315_1572, u315_1575, u315_1576, u315_1577, u315_1579, eq_self, q_nl0, q_nlI, q_nlR, not_false_eq_true, q_nz0, q_nz1, q_zv0, q_zv1, q_tl1, q_tl0, q_wif, q_swc, q_swn, List.cons_append, List.nil_append, if_true, if_false, e10, e01, Bool.false_eq_true, q13]
    simp only [u315_1582, u315_1585, u315_1586, u315_1589, u315_1590, u315_1591, u315_1594, eq_self, q_nl0, q_nlI, q_nlR, not_false_eq_true, q_nz0, q_nz1, q_zv0, q_zv1, q_tl1, q_tl0, q_wif, q_swc, q_swn, List.cons_append, List.nil_append, if_true, if_false, e10, e01, Bool.false_eq_true, nI_1]
  exact last
theorem lw_rounds (hX : X.2 100000 ≠ 0) (hX1 : X.1 ≤ 260) (L : LB τ b) {j : Nat} {A0 : Nat → Int32} (W : WW h τ b A A j A0 Z) (lv : LV τ A) (dy : DY A 0) (J : Nat → Option Value) : ∃ g A2 j' A0' Z2, ∃ J' : Nat → Option Value, WW g τ b A2 A2 j' A0' Z2 ∧ ∀ Q : QT, wq X (d + 12) 315 38 [some (.ref 10000), some (.ref 1), some (.ref 195), some (.int 1), some (.ref 196), some (.int (nI (sAll τ))), some (.int 0), J 7, J 8, J 9, J 10, J 11, J 12, J 13, J 14, J 15, J 16, J 17, J 18, J 19, J 20, J 21, J 22] [] h Q = wq X (d + 12) 315 1597 [some (.ref 10000), some (.ref 1), some (.ref 195), some (.int 1), some (.ref 196), some (.int (nI (sAll τ))), some (.int (nI 5)), J' 7, J' 8, J' 9, J' 10, J' 11, J' 12, J' 13, J' 14, J' 15, J' 16, J' 17, J' 18, J' 19, J' 20, J' 21, J' 22] [] g Q := by
  obtain ⟨l', ⟨⟨j', A0', Z', W'⟩, _, _⟩, e⟩ := q_loopI (α := HT × (Nat → Int32) × (Nat → Option Value)) (fun i l => fun (Q : QT) => wq X (d + 12) 315 38 [some (.ref 10000), some (.ref 1), some (.ref 195), some (.int 1), some (.ref 196), some (.int (nI (sAll τ))), some (.int (nI i)), l.2.2 7, l.2.2 8, l.2.2 9, l.2.2 10, l.2.2 11, l.2.2 12, l.2.2 13, l.2.2 14, l.2.2 15, l.2.2 16, l.2.2 17, l.2.2 18, l.2.2 19, l.2.2 20, l.2.2 21, l.2.2 22] [] l.1 Q) (fun i l => (∃ j A0 Z, WW l.1 τ b l.2.1 l.2.1 j A0 Z) ∧ LV τ l.2.1 ∧ DY l.2.1 (2 * i)) 5 (by
    rintro i hi ⟨h, A, J⟩ ⟨⟨j, A0, Z, W⟩, lv, dy⟩
    obtain ⟨g, A2, j', A0', Z2, J', W2, lv2, dy2, q⟩ := lw_round (X := X) (d := d) hX hX1 L hi W lv dy (by omega) J
    exact ⟨⟨g, A2, J'⟩, ⟨⟨j', A0', Z2, W2⟩, lv2, dy2⟩, funext q⟩) ⟨h, A, J⟩ ⟨⟨j, A0, Z, W⟩, lv, dy⟩
  refine ⟨l'.1, l'.2.1, j', A0', Z', l'.2.2, W', fun Q => ?_⟩
  have e' := congrFun e Q
  refine Eq.trans (b := wq X (d + 12) 315 38 [some (.ref 10000), some (.ref 1), some (.ref 195), some (.int 1), some (.ref 196), some (.int (nI (sAll τ))), some (.int (nI 0)), J 7, J 8, J 9, J 10, J 11, J 12, J 13, J 14, J 15, J 16, J 17, J 18, J 19, J 20, J 21, J 22] [] h Q) rfl (e'.trans ?_)
  show wq X (d + 12) 315 38 _ _ _ _ = _
  simp only [u315_38, u315_40, u315_41, eq_self, q_nl0, q_nlI, q_nlR, not_false_eq_true, q_nz0, q_nz1, q_zv0, q_zv1, q_tl1, q_tl0, q_wif, q_swc, q_swn, List.cons_append, List.nil_append, if_true, if_false, e10, e01, Bool.false_eq_true, eq_false (show ¬ nI 5 < 5 by decide)]
end LAW8
