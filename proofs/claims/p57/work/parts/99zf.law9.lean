/-! THE LAW'S END: what was seen parts all sets -/
def cnt (p : Nat → Bool) : Nat → Nat := fL (fun s c => if p s = true then c + 1 else c) 0
theorem cnt_le {p : Nat → Bool} : ∀ n, cnt p n ≤ n
  | 0 => Nat.le_refl _
  | n + 1 => by
    have ih := cnt_le (p := p) n
    show (if p n = true then cnt p n + 1 else cnt p n) ≤ n + 1
    split <;> omega
theorem cnt_all {p : Nat → Bool} (h : ∀ s, p s = true) : ∀ n, cnt p n = n
  | 0 => rfl
  | n + 1 => by
    show (if p n = true then cnt p n + 1 else cnt p n) = n + 1
    rw [if_pos (h n), cnt_all h n]
theorem cnt_cg {p q : Nat → Bool} (h : ∀ s, p s = q s) (n : Nat) : cnt p n = cnt q n := by
  rw [show p = q from funext h]
theorem cnt_not {p q : Nat → Bool} (h : ∀ s, q s = !p s) : ∀ n, cnt q n + cnt p n = n
  | 0 => rfl
  | n + 1 => by
    have ih := cnt_not h n
    show (if q n = true then cnt q n + 1 else cnt q n) + (if p n = true then cnt p n + 1 else cnt p n) = n + 1
    rw [h n]
    cases p n
    · rw [if_pos (show (!false) = true from rfl), if_neg (show ¬ false = true by decide)]
      omega
    · rw [if_neg (show ¬ (!true) = true by decide), if_pos rfl]
      omega
theorem fc_e {τ : CT} {S : Nat → Nat → Int32} {k : Int32} {n : Nat} : fcN τ S k n = cnt (fitB τ S k n) (2 ^ τ 0 1) := rfl
theorem fit_0 {τ : CT} {S : Nat → Nat → Int32} {k : Int32} {s : Nat} : fitB τ S k 0 s = true := rfl
theorem fit_1 {τ : CT} {S : Nat → Nat → Int32} {k : Int32} {s : Nat} : fitB τ S k 1 s = (okB τ S k s 0 && true) := rfl
theorem fit_2 {τ : CT} {S : Nat → Nat → Int32} {k : Int32} {s : Nat} : fitB τ S k 2 s = (okB τ S k s 0 && (okB τ S k s 1 && true)) := rfl
theorem okB_e {τ : CT} {S : Nat → Nat → Int32} {k v t u : Int32} {i s m : Nat} (h0 : S 0 i = 2) (h1 : S 1 i = nI m) (hm : m < 8) (h2 : S 2 i = v) (h3 : S 3 i = t) (h4 : S 4 i = u) : okB τ S k s i = (decide (k < t) || (decide (¬ u = -1) && decide (¬ k < u)) || decide ((if m ≤ pcN s then (1 : Int32) else 0) = v)) := by
  have e1 : sW S i = m := by
    unfold sW
    rw [h1]
    exact q_cl (by omega)
  have eh : hoB τ S i s = decide (m ≤ pcN s) := by
    unfold hoB
    rw [h0, if_neg (show ¬ (2 : Int32) = 0 by decide), if_neg (show ¬ (2 : Int32) = 1 by decide), e1]
  unfold okB hoI
  rw [eh, h2, h3, h4]
  by_cases z : m ≤ pcN s
  · rw [decide_eq_true z, if_pos rfl, if_pos z]
  · rw [decide_eq_false z, if_neg (show ¬ false = true by decide), if_neg z]
theorem lf_le {τ : CT} {S : Nat → Nat → Int32} {k : Int32} {n m : Nat} : lfN τ S k n m ≤ fcN τ S k n := by
  have h : foN τ S k n m ≤ fcN τ S k n := fo_le _
  unfold lfN
  split <;> omega
section LAW9
variable {X : XT} {d : Nat} {h : HT} {τ : CT} {b : Nat} {A : Nat → Int32} {Z : Option (Nat → Int32)} {bh ah : Nat} {w : Nat → Nat → Int32} {F : Nat → Bool} {B S : Nat → Nat → Int32} {L : Nat} {V : Nat → Nat} {x y : Int32} {n t : Nat}
theorem f_fits (C : CI h (τ, A, bh, ah, w, F, B, n, t, S, L, V, x, y)) (O : OKs (τ, A, bh, ah, w, F, B, n, t, S, L, V, x, y)) (k : Int32) : ∃ g, CI g (τ, A, bh, ah, w, F, B, n, t, S, L, V, x, y) ∧ ∀ Q : QT, wq X (d + 10) 178 0 [some (.ref 1), some (.int k)] [] h Q = Q (some (.int (nI (fcN τ S k n)))) g := by
  have C0 := C
  obtain ⟨⟨T, H, _⟩, _, _, c4, _⟩ := C
  obtain ⟨g, s, e⟩ := a_fits (X := X) (d := d) (k := k) H c4 O.2.2.2.1 O.2.2.2.2.2.1
  exact ⟨g, CI_same s C0, e⟩
theorem f_ask (C : CI h (τ, A, bh, ah, w, F, B, n, t, S, L, V, x, y)) (O : OKs (τ, A, bh, ah, w, F, B, n, t, S, L, V, x, y)) (k : Int32) : ∃ v g, (v = -1 ∨ ∃ q, q < τ 0 1 ∧ v = nI (lfN τ S k n q)) ∧ CI g (τ, A, bh, ah, w, F, B, n, t, S, L, V, x, y) ∧ ∀ Q : QT, wq X (d + 10) 183 0 [some (.ref 1), some (.int 1), some (.int k), none, none] [] h Q = Q (some (.int v)) g := by
  have C0 := C
  obtain ⟨⟨T, H, _⟩, _, _, c4, _⟩ := C
  obtain ⟨v, hv, g, s, e⟩ := a_ask1 (X := X) (d := d) (k := k) (w := 1) H c4 O.2.2.2.1 O.2.2.2.2.2.1 rfl
  exact ⟨v, g, hv, CI_same s C0, e⟩
theorem lw_end (hX1 : X.1 ≤ 260) (LL : LB τ b) {A0 : Nat → Int32} {j : Nat} (W : WW h τ b A A j A0 Z) (J : Nat → Option Value) : ∃ g, ∀ Q : QT, wq X (d + 12) 315 1597 [some (.ref 10000), some (.ref 1), some (.ref 195), some (.int 1), some (.ref 196), some (.int (nI (sAll τ))), some (.int (nI 5)), J 7, J 8, J 9, J 10, J 11, J 12, J 13, J 14, J 15, J 16, J 17, J 18, J 19, J 20, J 21, J 22] [] h Q = Q (some (.int 1)) g := by
  have h7 := o_mn LL.1
  have hN := p2_7 h7
  have hN0 : 0 < 2 ^ τ 0 1 := Nat.two_pow_pos _
  have eAll : nI (sAll τ) + 1 = nI (2 ^ τ 0 1) := by
    rw [nI_1]
    unfold sAll
    rw [Nat.sub_add_cancel hN0]
  obtain ⟨⟨bh, ah, w, F, B, S, L, V, x, y, C, O, f, u⟩, T, r⟩ := W
  obtain ⟨g1, C1, q1⟩ := f_fits (X := X) (d := d + 1) C O 0
  have e1 : fcN τ S 0 0 = 2 ^ τ 0 1 := by
    rw [fc_e]
    exact cnt_all (fun _ => fit_0) _
  rw [e1] at q1
  have lc := fun (Q : QT) => l_cell (X := X) (d := d + 11) (h := g1) hX1 (show 14 < 1000 by decide) Q
  generalize (if 14 < X.1 then X.2 14 else 0) = c14 at lc
  obtain ⟨m, hm, em⟩ := and7 c14
  obtain ⟨O2, g2, _, C2, q2⟩ := a_counted (X := X) (d := d + 1) (m := m) (v := 1) C1 O hm (by decide) (Or.inr rfl)
  generalize hS1 : tlS S 0 2 (nI m) 1 (nI 0) = S1 at O2 C2
  obtain ⟨g3, C3, q3⟩ := f_fits (X := X) (d := d + 1) C2 O2 0
  obtain ⟨O4, g4, _, C4, q4⟩ := a_later (X := X) (d := d + 1) (m := 1) C3 O2 (by decide) (by decide)
  obtain ⟨O5, g5, _, C5, q5⟩ := a_untell (X := X) (d := d + 1) (m := 0) C4 O4 (by decide) (by rw [← hS1]; rfl)
  generalize hS2 : (fun j i => if j = 4 ∧ i = 0 then nI (0 + 1) else S1 j i) = S2 at O5 C5
  obtain ⟨O6, g6, _, C6, q6⟩ := a_counted (X := X) (d := d + 1) (m := m) (v := 0) C5 O5 hm (by decide) (Or.inl rfl)
  generalize hS3 : tlS S2 (0 + 1) 2 (nI m) 0 (nI (0 + 1)) = S3 at O6 C6
  obtain ⟨g7, C7, q7⟩ := f_fits (X := X) (d := d + 1) C6 O6 1
  obtain ⟨g8, C8, q8⟩ := f_fits (X := X) (d := d + 1) C7 O6 0
  obtain ⟨v, g9, hv, C9, q9⟩ := f_ask (X := X) (d := d + 1) C8 O6 0
  -- how many
  have s1 : ∀ s, okB τ S1 0 s 0 = decide (m ≤ pcN s) := fun s => by
    rw [okB_e (m := m) (v := 1) (t := 0) (u := -1) (by rw [← hS1]; rfl) (by rw [← hS1]; rfl) hm (by rw [← hS1]; rfl) (by rw [← hS1]; rfl) (by rw [← hS1]; rfl)]
    by_cases z : m ≤ pcN s
    · rw [if_pos z, decide_eq_true z]
      decide
    · rw [if_neg z, decide_eq_false z]
      decide
  have s2 : ∀ k s, okB τ S3 k s 0 = (decide (k < (0 : Int32)) || (decide (¬ (1 : Int32) = -1) && decide (¬ k < (1 : Int32))) || decide ((if m ≤ pcN s then (1 : Int32) else 0) = 1)) := fun k s => okB_e (m := m) (v := 1) (t := 0) (u := 1) (by rw [← hS3, ← hS2, ← hS1]; rfl) (by rw [← hS3, ← hS2, ← hS1]; rfl) hm (by rw [← hS3, ← hS2, ← hS1]; rfl) (by rw [← hS3, ← hS2, ← hS1]; rfl) (by rw [← hS3, ← hS2, ← hS1]; rfl)
  have s3 : ∀ k s, okB τ S3 k s 1 = (decide (k < (1 : Int32)) || (decide (¬ (-1 : Int32) = -1) && decide (¬ k < (-1 : Int32))) || decide ((if m ≤ pcN s then (1 : Int32) else 0) = 0)) := fun k s => okB_e (m := m) (v := 0) (t := 1) (u := -1) (by rw [← hS3]; rfl) (by rw [← hS3]; rfl) hm (by rw [← hS3]; rfl) (by rw [← hS3]; rfl) (by rw [← hS3]; rfl)
  have p0 : fcN τ S1 0 1 = cnt (fun s => decide (m ≤ pcN s)) (2 ^ τ 0 1) := by
    rw [fc_e]
    refine cnt_cg (fun s => ?_) _
    rw [fit_1, s1, Bool.and_true]
  have p1 : fcN τ S3 1 2 = cnt (fun s => !decide (m ≤ pcN s)) (2 ^ τ 0 1) := by
    rw [fc_e]
    refine cnt_cg (fun s => ?_) _
    rw [fit_2, s2, s3]
    by_cases z : m ≤ pcN s
    · rw [if_pos z, decide_eq_true z]
      decide
    · rw [if_neg z, decide_eq_false z]
      decide
  have p2 : fcN τ S3 0 2 = cnt (fun s => decide (m ≤ pcN s)) (2 ^ τ 0 1) := by
    rw [fc_e]
    refine cnt_cg (fun s => ?_) _
    rw [fit_2, s2, s3]
    by_cases z : m ≤ pcN s
    · rw [if_pos z, decide_eq_true z]
      decide
    · rw [if_neg z, decide_eq_false z]
      decide
  have tot := cnt_not (p := fun s => decide (m ≤ pcN s)) (q := fun s => !decide (m ≤ pcN s)) (fun _ => rfl) (2 ^ τ 0 1)
  have cl := cnt_le (p := fun s => decide (m ≤ pcN s)) (2 ^ τ 0 1)
  have f9 : (nI (cnt (fun s => decide (m ≤ pcN s)) (2 ^ τ 0 1)) < v) = False := by
    refine eq_false ?_
    rcases hv with rfl | ⟨q, _, rfl⟩
    · intro w
      have := Int32.lt_iff_toInt_lt.mp w
      rw [nI_toInt (by omega), show (-1 : Int32).toInt = -1 from rfl] at this
      omega
    · have le : lfN τ S3 0 (0 + 1 + 1) q ≤ fcN τ S3 0 2 := lf_le
      rw [p2] at le
      rw [nI_ltI (by omega) (by omega)]
      omega
  have ad : nI (cnt (fun s => !decide (m ≤ pcN s)) (2 ^ τ 0 1)) + nI (cnt (fun s => decide (m ≤ pcN s)) (2 ^ τ 0 1)) = nI (2 ^ τ 0 1) := by
    rw [nI_add, tot]
  rw [p0] at q3
  rw [p1] at q7
  rw [p2] at q8
  generalize cnt (fun s => decide (m ≤ pcN s)) (2 ^ τ 0 1) = F0 at *
  generalize cnt (fun s => !decide (m ≤ pcN s)) (2 ^ τ 0 1) = F1 at *
  have i1 : nI 1 = (1 : Int32) := rfl
  have i01 : nI (0 + 1) = (1 : Int32) := rfl
  have i14 : nI 14 = (14 : Int32) := rfl
  simp only [nI_n0] at q2 q5
  simp only [i1, i01] at q4
  simp only [i01] at q6
  simp only [i14] at lc
  refine ⟨g9, fun Q => ?_⟩
  simp only [u315_1597, u315_1598, u315_1601, u315_1602, u315_1603, eq_self, q_nl0, q_nlI, q_nlR, not_false_eq_true, q_nz0, q_nz1, q_zv0, q_zv1, q_tl1, q_tl0, q_wif, q_swc, q_swn, List.cons_append, List.nil_append, if_true, if_false, e10, e01, Bool.false_eq_true, sh_1, q1]
  simp only [u315_1606, u315_1608, u315_1609, u315_1610, u315_1613, u315_1614, u315_1617, u315_1618, u315_1619, u315_1620, u315_1622, eq_self, q_nl0, q_nlI, q_nlR, not_false_eq_true, q_nz0, q_nz1, q_zv0, q_zv1, q_tl1, q_tl0, q_wif, q_swc, q_swn, List.cons_append, List.nil_append, if_true, if_false, e10, e01, Bool.false_eq_true, eAll, lc]
  simp only [u315_1625, u315_1627, u315_1628, u315_1630, u315_1631, u315_1634, u315_1635, u315_1637, u315_1638, eq_self, q_nl0, q_nlI, q_nlR, not_false_eq_true, q_nz0, q_nz1, q_zv0, q_zv1, q_tl1, q_tl0, q_wif, q_swc, q_swn, List.cons_append, List.nil_append, if_true, if_false, e10, e01, Bool.false_eq_true, sh_1, em, q2]
  simp only [u315_1641, u315_1644, u315_1645, u315_1648, u315_1649, u315_1650, u315_1651, u315_1652, eq_self, q_nl0, q_nlI, q_nlR, not_false_eq_true, q_nz0, q_nz1, q_zv0, q_zv1, q_tl1, q_tl0, q_wif, q_swc, q_swn, List.cons_append, List.nil_append, if_true, if_false, e10, e01, Bool.false_eq_true, sh_1, q3]
  simp only [u315_1655, u315_1657, u315_1658, u315_1661, u315_1662, u315_1663, eq_self, q_nl0, q_nlI, q_nlR, not_false_eq_true, q_nz0, q_nz1, q_zv0, q_zv1, q_tl1, q_tl0, q_wif, q_swc, q_swn, List.cons_append, List.nil_append, if_true, if_false, e10, e01, Bool.false_eq_true, sh_1, q4]
  simp only [u315_1666, u315_1667, u315_1670, u315_1671, u315_1672, eq_self, q_nl0, q_nlI, q_nlR, not_false_eq_true, q_nz0, q_nz1, q_zv0, q_zv1, q_tl1, q_tl0, q_wif, q_swc, q_swn, List.cons_append, List.nil_append, if_true, if_false, e10, e01, Bool.false_eq_true, sh_1, q5]
  simp only [u315_1675, u315_1678, u315_1679, u315_1681, u315_1682, eq_self, q_nl0, q_nlI, q_nlR, not_false_eq_true, q_nz0, q_nz1, q_zv0, q_zv1, q_tl1, q_tl0, q_wif, q_swc, q_swn, List.cons_append, List.nil_append, if_true, if_false, e10, e01, Bool.false_eq_true, sh_1, q6]
  simp only [u315_1685, u315_1686, u315_1689, u315_1690, u315_1691, eq_self, q_nl0, q_nlI, q_nlR, not_false_eq_true, q_nz0, q_nz1, q_zv0, q_zv1, q_tl1, q_tl0, q_wif, q_swc, q_swn, List.cons_append, List.nil_append, if_true, if_false, e10, e01, Bool.false_eq_true, sh_1, q7]
  simp only [u315_1694, u315_1696, u315_1697, u315_1699, u315_1700, u315_1701, u315_1704, u315_1705, u315_1706, eq_self, q_nl0, q_nlI, q_nlR, not_false_eq_true, q_nz0, q_nz1, q_zv0, q_zv1, q_tl1, q_tl0, q_wif, q_swc, q_swn, List.cons_append, List.nil_append, if_true, if_false, e10, e01, Bool.false_eq_true, sh_1, ad, eAll, q8]
  simp only [u315_1709, u315_1711, u315_1714, u315_1715, u315_1716, u315_1717, eq_self, q_nl0, q_nlI, q_nlR, not_false_eq_true, q_nz0, q_nz1, q_zv0, q_zv1, q_tl1, q_tl0, q_wif, q_swc, q_swn, List.cons_append, List.nil_append, if_true, if_false, e10, e01, Bool.false_eq_true, sh_1, q9]
  simp only [u315_1720, u315_1722, u315_1725, u315_1726, u315_1729, u315_1730, u315_1731, u315_1732, eq_self, q_nl0, q_nlI, q_nlR, not_false_eq_true, q_nz0, q_nz1, q_zv0, q_zv1, q_tl1, q_tl0, q_wif, q_swc, q_swn, List.cons_append, List.nil_append, if_true, if_false, e10, e01, Bool.false_eq_true, f9]
/-- from the rounds on -/
theorem lw_on (hX : X.2 100000 ≠ 0) (hX1 : X.1 ≤ 260) (LL : LB τ b) {A0 : Nat → Int32} {j : Nat} (W : WW h τ b A A j A0 Z) (lv : LV τ A) (dy : DY A 0) (J : Nat → Option Value) : ∃ g, ∀ Q : QT, wq X (d + 12) 315 38 [some (.ref 10000), some (.ref 1), some (.ref 195), some (.int 1), some (.ref 196), some (.int (nI (sAll τ))), some (.int 0), J 7, J 8, J 9, J 10, J 11, J 12, J 13, J 14, J 15, J 16, J 17, J 18, J 19, J 20, J 21, J 22] [] h Q = Q (some (.int 1)) g := by
  obtain ⟨g1, A2, j', A0', Z2, J', W2, q1⟩ := lw_rounds (X := X) (d := d) hX hX1 LL W lv dy J
  obtain ⟨g2, q2⟩ := lw_end (X := X) (d := d) hX1 LL W2 J'
  exact ⟨g2, fun Q => (q1 Q).trans (q2 Q)⟩
end LAW9
