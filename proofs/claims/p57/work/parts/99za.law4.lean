/-! THE LAW: three days, offers -/
theorem nI_sb {a c : Nat} (h : c ≤ a) : nI a - nI c = nI (a - c) := by
  have e : nI a = nI (a - c) + nI c := by
    rw [nI_add, Nat.sub_add_cancel h]
  rw [e, Int32.add_sub_cancel]
theorem aCs_lt {τ : CT} {A : Nat → Int32} (H : cOk τ) {k : Nat} (hk : k ≤ 60) : aCs τ A k < 2 ^ 31 := by
  have := aCs_le (A := A) H k
  omega
section LAW4
variable {X : XT} {d : Nat} {h : HT} {τ : CT} {b : Nat} {A : Nat → Int32} {Z : Option (Nat → Int32)}
theorem DY_it (H : cOk τ) {n : Nat} (D : DY A n) : ∀ k, DY (aIt τ A k) (n + k)
  | 0 => D
  | k + 1 => DY_day H (DY_it H D k)
theorem lw_day3 (L : LB τ b) {i : Nat} (hi : i < 5) (W : WW h τ b A A (i % 3) A Z) {n : Nat} (dy : DY A n) (hn9 : n ≤ 900) {k11 j12 k13 k14 k15 k16 : Int32} {l20 l21 l22 : Option Value} : ∃ g l20' Z', WW g τ b A (aIt τ A 3) (i % 3) A Z' ∧ ∀ Q : QT, wq X (d + 12) 315 913 [some (.ref 10000), some (.ref 1), some (.ref 195), some (.int 1), some (.ref 196), some (.int (nI (sAll τ))), some (.int (nI i)), some (.int (A 18)), some (.int (nI (aN A))), some (.int (nI (sShort τ (aN A)))), some (.int (nI (sLoss τ (aN A)))), some (.int k11), some (.int j12), some (.int k13), some (.int k14), some (.int k15), some (.int k16), some (.int (nI (aN A))), some (.int 0), some (.int 0), l20, l21, l22] [] h Q = wq X (d + 12) 315 962 [some (.ref 10000), some (.ref 1), some (.ref 195), some (.int 1), some (.ref 196), some (.int (nI (sAll τ))), some (.int (nI i)), some (.int (A 18)), some (.int (nI (aN A))), some (.int (nI (sShort τ (aN A)))), some (.int (nI (sLoss τ (aN A)))), some (.int k11), some (.int j12), some (.int k13), some (.int k14), some (.int k15), some (.int k16), some (.int (nI (evN τ A 3))), some (.int (nI (aCs τ A 3))), some (.int (nI 3)), l20', l21, l22] [] g Q := by
  obtain ⟨l', ⟨Z', W'⟩, e⟩ := q_loopI (α := HT × Option Value) (fun k l => fun (Q : QT) => wq X (d + 12) 315 913 [some (.ref 10000), some (.ref 1), some (.ref 195), some (.int 1), some (.ref 196), some (.int (nI (sAll τ))), some (.int (nI i)), some (.int (A 18)), some (.int (nI (aN A))), some (.int (nI (sShort τ (aN A)))), some (.int (nI (sLoss τ (aN A)))), some (.int k11), some (.int j12), some (.int k13), some (.int k14), some (.int k15), some (.int k16), some (.int (nI (evN τ A k))), some (.int (nI (aCs τ A k))), some (.int (nI k)), l.2, l21, l22] [] l.1 Q) (fun k l => ∃ Z', WW l.1 τ b A (aIt τ A k) (i % 3) A Z') 3 (by
    rintro k hk ⟨h, j20⟩ ⟨Z', W⟩
    obtain ⟨y, hy, ey⟩ := DY_it (τ := τ) L.1 dy k
    obtain ⟨g1, W1, q1⟩ := w_day (X := X) (d := d + 1) W (show y < 999 by omega) ey
    obtain ⟨g2, W2, q2⟩ := w_out (X := X) (d := d + 1) W1
    have f1 : (nI k < 3) = True := eq_true (nI_lt (b := 3) hk (by decide))
    have hc := aC_le (A := aIt τ A k) L.1
    have f2 : (nI (aC τ (aIt τ A k)) < 0) = False := oI_lt0 (by omega)
    have e1 : nI (aCs τ A k) + nI (aC τ (aIt τ A k)) = nI (aCs τ A (k + 1)) := nI_add _ _
    have e2 : nI (evN τ A k) ||| nI (aN (aD τ (aIt τ A k))) = nI (evN τ A (k + 1)) := nI_or _ _
    refine ⟨⟨g2, some (.int (nI (aC τ (aIt τ A k))))⟩, ⟨_, W2⟩, funext fun Q => ?_⟩
    show wq X (d + 12) 315 913 _ _ _ _ = _
    rw [u315_913]
    simp only [u315_915, u315_916, u315_919, u315_920, u315_923, u315_924, eq_self, q_nl0, q_nlI, q_nlR, not_false_eq_true, q_nz0, q_nz1, q_zv0, q_zv1, q_tl1, q_tl0, q_wif, q_swc, q_swn, List.cons_append, List.nil_append, if_true, if_false, e10, e01, Bool.false_eq_true, sh_1, f1, q1]
    simp only [u315_927, u315_929, u315_931, u315_934, u315_935, u315_938, u315_939, u315_940, u315_942, u315_944, u315_945, u315_947, u315_949, u315_950, eq_self, q_nl0, q_nlI, q_nlR, not_false_eq_true, q_nz0, q_nz1, q_zv0, q_zv1, q_tl1, q_tl0, q_wif, q_swc, q_swn, List.cons_append, List.nil_append, if_true, if_false, e10, e01, Bool.false_eq_true, sh_1, f2, q2]
    simp only [u315_953, u315_954, u315_956, u315_959, eq_self, q_nl0, q_nlI, q_nlR, not_false_eq_true, q_nz0, q_nz1, q_zv0, q_zv1, q_tl1, q_tl0, q_wif, q_swc, q_swn, List.cons_append, List.nil_append, if_true, if_false, e10, e01, Bool.false_eq_true, e1, e2, nI_1]) ⟨h, l20⟩ ⟨Z, W⟩
  refine ⟨l'.1, l'.2, Z', W', fun Q => ?_⟩
  have e' := congrFun e Q
  refine Eq.trans (b := wq X (d + 12) 315 913 [some (.ref 10000), some (.ref 1), some (.ref 195), some (.int 1), some (.ref 196), some (.int (nI (sAll τ))), some (.int (nI i)), some (.int (A 18)), some (.int (nI (aN A))), some (.int (nI (sShort τ (aN A)))), some (.int (nI (sLoss τ (aN A)))), some (.int k11), some (.int j12), some (.int k13), some (.int k14), some (.int k15), some (.int k16), some (.int (nI (evN τ A 0))), some (.int (nI (aCs τ A 0))), some (.int (nI 0)), l20, l21, l22] [] h Q) rfl (e'.trans ?_)
  show wq X (d + 12) 315 913 _ _ _ _ = _
  rw [u315_913]
  simp only [u315_915, u315_916, eq_self, q_nl0, q_nlI, q_nlR, not_false_eq_true, q_nz0, q_nz1, q_zv0, q_zv1, q_tl1, q_tl0, q_wif, q_swc, q_swn, List.cons_append, List.nil_append, if_true, if_false, e10, e01, Bool.false_eq_true, eq_false (show ¬ nI 3 < 3 by decide)]
theorem lw_days (L : LB τ b) {i : Nat} (hi : i < 5) (W : WW h τ b A A (i % 3) A Z) {n : Nat} (dy : DY A n) (hn9 : n ≤ 900) {k11 j12 j13 : Int32} {l14 l15 l16 l17 l18 l19 l20 l21 l22 : Option Value} : ∃ g v14 v15 v16 v17 v18 l20', WW g τ b A A (i % 3) A none ∧ ∀ Q : QT, wq X (d + 12) 315 876 [some (.ref 10000), some (.ref 1), some (.ref 195), some (.int 1), some (.ref 196), some (.int (nI (sAll τ))), some (.int (nI i)), some (.int (A 18)), some (.int (nI (aN A))), some (.int (nI (sShort τ (aN A)))), some (.int (nI (sLoss τ (aN A)))), some (.int k11), some (.int j12), some (.int j13), l14, l15, l16, l17, l18, l19, l20, l21, l22] [] h Q = wq X (d + 12) 315 1069 [some (.ref 10000), some (.ref 1), some (.ref 195), some (.int 1), some (.ref 196), some (.int (nI (sAll τ))), some (.int (nI i)), some (.int (A 18)), some (.int (nI (aN A))), some (.int (nI (sShort τ (aN A)))), some (.int (nI (sLoss τ (aN A)))), some (.int k11), some (.int j12), some (.int (oI (fstN (lsP τ A) 60))), some (.int v14), some (.int v15), some (.int v16), some (.int v17), some (.int v18), some (.int 0), l20', l21, l22] [] g Q := by
  have K := ww_a W
  have hn := aN_lt L.1 K
  have n3 : ¬ (3 : Int32) = 0 := by decide
  obtain ⟨g1, W1, q1⟩ := w_ask W (fun T H => a_lasts (X := X) (d := d + 1) H)
  obtain ⟨g2, W2, q2⟩ := w_ask W1 (fun T H => a_will (X := X) (d := d + 1) (n := 3) H (by decide))
  obtain ⟨g3, W3, q3⟩ := w_ask W2 (fun T H => a_costs (X := X) (d := d + 1) (n := 3) H (by decide))
  obtain ⟨g4, W4, q4⟩ := w_ask W3 (fun T H => a_ever (X := X) (d := d + 1) (n := 3) H (by decide) (by decide))
  obtain ⟨g5, l20', Z5, W5, q5⟩ := lw_day3 (X := X) (d := d) (k11 := k11) (j12 := j12) (k13 := oI (fstN (lsP τ A) 60)) (k14 := nI (aN (aIt τ A 3))) (k15 := nI (aCs τ A 3)) (k16 := nI (evN τ A 3)) (l20 := l20) (l21 := l21) (l22 := l22) L hi W4 dy hn9
  obtain ⟨g6, W6, q6⟩ := w_out (X := X) (d := d + 1) W5
  obtain ⟨g7, W7, q7⟩ := w_back (X := X) (d := d + 1) W6 (show i % 3 < 3 by omega)
  have i3 : nI 3 = (3 : Int32) := rfl
  have i60 : nI 60 = (60 : Int32) := rfl
  simp only [i3] at q2 q3 q4
  have head : ∀ Q : QT, wq X (d + 12) 315 876 [some (.ref 10000), some (.ref 1), some (.ref 195), some (.int 1), some (.ref 196), some (.int (nI (sAll τ))), some (.int (nI i)), some (.int (A 18)), some (.int (nI (aN A))), some (.int (nI (sShort τ (aN A)))), some (.int (nI (sLoss τ (aN A)))), some (.int k11), some (.int j12), some (.int j13), l14, l15, l16, l17, l18, l19, l20, l21, l22] [] h Q = wq X (d + 12) 315 1002 [some (.ref 10000), some (.ref 1), some (.ref 195), some (.int 1), some (.ref 196), some (.int (nI (sAll τ))), some (.int (nI i)), some (.int (A 18)), some (.int (nI (aN A))), some (.int (nI (sShort τ (aN A)))), some (.int (nI (sLoss τ (aN A)))), some (.int k11), some (.int j12), some (.int (oI (fstN (lsP τ A) 60))), some (.int (nI (aN (aIt τ A 3)))), some (.int (nI (aCs τ A 3))), some (.int (nI (evN τ A 3))), some (.int (nI (evN τ A 3))), some (.int (nI (aCs τ A 3))), some (.int (nI 3)), l20', l21, l22] [] g7 Q := by
    intro Q
    simp only [u315_876, u315_877, eq_self, q_nl0, q_nlI, q_nlR, not_false_eq_true, q_nz0, q_nz1, q_zv0, q_zv1, q_tl1, q_tl0, q_wif, q_swc, q_swn, List.cons_append, List.nil_append, if_true, if_false, e10, e01, Bool.false_eq_true, sh_1, q1]
    simp only [u315_880, u315_882, u315_883, u315_884, eq_self, q_nl0, q_nlI, q_nlR, not_false_eq_true, q_nz0, q_nz1, q_zv0, q_zv1, q_tl1, q_tl0, q_wif, q_swc, q_swn, List.cons_append, List.nil_append, if_true, if_false, e10, e01, Bool.false_eq_true, sh_1, q2]
    simp only [u315_887, u315_889, u315_890, u315_891, eq_self, q_nl0, q_nlI, q_nlR, not_false_eq_true, q_nz0, q_nz1, q_zv0, q_zv1, q_tl1, q_tl0, q_wif, q_swc, q_swn, List.cons_append, List.nil_append, if_true, if_false, e10, e01, Bool.false_eq_true, sh_1, q3]
    simp only [u315_894, u315_896, u315_897, u315_898, eq_self, q_nl0, q_nlI, q_nlR, not_false_eq_true, q_nz0, q_nz1, q_zv0, q_zv1, q_tl1, q_tl0, q_wif, q_swc, q_swn, List.cons_append, List.nil_append, if_true, if_false, e10, e01, Bool.false_eq_true, sh_1, q4]
    simp only [u315_901, u315_903, u315_905, u315_907, u315_908, u315_910, u315_911, eq_self, q_nl0, q_nlI, q_nlR, not_false_eq_true, q_nz0, q_nz1, q_zv0, q_zv1, q_tl1, q_tl0, q_wif, q_swc, q_swn, List.cons_append, List.nil_append, if_true, if_false, e10, e01, Bool.false_eq_true]
    rw [q5]
    simp only [u315_962, u315_963, u315_966, u315_968, u315_970, u315_973, u315_974, eq_self, q_nl0, q_nlI, q_nlR, not_false_eq_true, q_nz0, q_nz1, q_zv0, q_zv1, q_tl1, q_tl0, q_wif, q_swc, q_swn, List.cons_append, List.nil_append, if_true, if_false, e10, e01, Bool.false_eq_true, sh_1, q6]
    simp only [u315_977, u315_979, u315_982, u315_984, u315_986, u315_989, u315_990, u315_992, u315_993, u315_994, eq_self, q_nl0, q_nlI, q_nlR, not_false_eq_true, q_nz0, q_nz1, q_zv0, q_zv1, q_tl1, q_tl0, q_wif, q_swc, q_swn, List.cons_append, List.nil_append, if_true, if_false, e10, e01, Bool.false_eq_true, sh_1, n3, rem3 i hi, q7]
    simp only [u315_997, u315_999, eq_self, q_nl0, q_nlI, q_nlR, not_false_eq_true, q_nz0, q_nz1, q_zv0, q_zv1, q_tl1, q_tl0, q_wif, q_swc, q_swn, List.cons_append, List.nil_append, if_true, if_false, e10, e01, Bool.false_eq_true]
  cases e : fstN (lsP τ A) 60 with
  | none =>
    rw [e] at head
    refine ⟨g7, nI (aN (aIt τ A 3)), nI (aCs τ A 3), nI (evN τ A 3), nI (evN τ A 3), nI (aCs τ A 3), l20', W7, fun Q => (head Q).trans ?_⟩
    simp only [u315_1002, u315_1004, u315_1007, u315_1008, u315_1010, u315_1013, u315_1016, u315_1018, u315_1021, u315_1023, u315_1026, u315_1029, u315_1030, u315_1032, u315_1033, u315_1034, u315_1037, u315_1040, u315_1042, u315_1045, u315_1046, u315_1048, u315_1051, u315_1052, u315_1054, u315_1057, u315_1060, u315_1061, u315_1064, u315_1065, u315_1066, u315_1067, eq_self, q_nl0, q_nlI, q_nlR, not_false_eq_true, q_nz0, q_nz1, q_zv0, q_zv1, q_tl1, q_tl0, q_wif, q_swc, q_swn, List.cons_append, List.nil_append, if_true, if_false, e10, e01, Bool.false_eq_true, oI_n, m1_lt0]
  | some v =>
    rw [e] at head
    obtain ⟨v1, v2, v3⟩ := fst_some 60 e
    unfold lsP at v2
    have v2' := of_decide_eq_true v2
    have zl := oI_lt0 (show v < 2 ^ 31 by omega)
    obtain ⟨g8, W8, q8⟩ := w_ask W7 (fun T H => a_will (X := X) (d := d + 1) (n := v) H (by omega))
    rw [v2'] at q8
    have cm := aCs_mono (τ := τ) (A := A) v1
    have c60 := aCs_lt (A := A) L.1 (Nat.le_refl 60)
    have f2 : (nI (aCs τ A 60) < nI (aCs τ A v)) = False := eq_false (by rw [nI_ltI (by omega) (by omega)]; omega)
    by_cases v0 : v = 0
    · subst v0
      have a0 : aN A = 0 := v2'
      obtain ⟨g10, W10, q10⟩ := w_ask W8 (fun T H => a_costs (X := X) (d := d + 1) (n := 60) H (by decide))
      obtain ⟨g11, W11, q11⟩ := w_ask W10 (fun T H => a_costs (X := X) (d := d + 1) (n := 0) H (by decide))
      have a0' : (nI (aN A) = 0) = True := eq_true (by rw [a0]; rfl)
      have m00 : ((0 : Int32) < 0) = False := eq_false (by decide)
      simp only [i60] at q10
      simp only [nI_n0] at q8 q11
      refine ⟨g11, nI (aN (aIt τ A 3)), nI (aCs τ A 3), nI (evN τ A 3), nI (evN τ A 3), nI (aCs τ A 3), l20', W11, fun Q => (head Q).trans ?_⟩
      simp only [u315_1002, u315_1004, u315_1007, u315_1008, u315_1010, eq_self, q_nl0, q_nlI, q_nlR, not_false_eq_true, q_nz0, q_nz1, q_zv0, q_zv1, q_tl1, q_tl0, q_wif, q_swc, q_swn, List.cons_append, List.nil_append, if_true, if_false, e10, e01, Bool.false_eq_true, sh_1, oI_s, nI_n0, m00, q8]
      simp only [u315_1013, u315_1016, u315_1018, u315_1021, u315_1023, u315_1026, u315_1029, u315_1030, u315_1032, u315_1033, u315_1034, u315_1037, u315_1040, u315_1042, u315_1045, u315_1046, u315_1048, eq_self, q_nl0, q_nlI, q_nlR, not_false_eq_true, q_nz0, q_nz1, q_zv0, q_zv1, q_tl1, q_tl0, q_wif, q_swc, q_swn, List.cons_append, List.nil_append, if_true, if_false, e10, e01, Bool.false_eq_true, sh_1, a0', m00, q10]
      simp only [u315_1051, u315_1052, u315_1054, eq_self, q_nl0, q_nlI, q_nlR, not_false_eq_true, q_nz0, q_nz1, q_zv0, q_zv1, q_tl1, q_tl0, q_wif, q_swc, q_swn, List.cons_append, List.nil_append, if_true, if_false, e10, e01, Bool.false_eq_true, sh_1, q11]
      simp only [u315_1057, u315_1060, u315_1061, u315_1064, u315_1065, u315_1066, u315_1067, eq_self, q_nl0, q_nlI, q_nlR, not_false_eq_true, q_nz0, q_nz1, q_zv0, q_zv1, q_tl1, q_tl0, q_wif, q_swc, q_swn, List.cons_append, List.nil_append, if_true, if_false, e10, e01, Bool.false_eq_true, f2]
    · obtain ⟨u, rfl⟩ : ∃ u, v = u + 1 := ⟨v - 1, by omega⟩
      have v4 := v3 u (by omega)
      unfold lsP at v4
      have v4' := of_decide_eq_false v4
      have nu := aN_lt L.1 (it_ok L.1 K u)
      obtain ⟨g9, W9, q9⟩ := w_ask W8 (fun T H => a_will (X := X) (d := d + 1) (n := u) H (by omega))
      obtain ⟨g10, W10, q10⟩ := w_ask W9 (fun T H => a_costs (X := X) (d := d + 1) (n := 60) H (by decide))
      obtain ⟨g11, W11, q11⟩ := w_ask W10 (fun T H => a_costs (X := X) (d := d + 1) (n := u + 1) H (by omega))
      have f3 : (nI (aN (aIt τ A u)) = 0) = False := eq_false (by rw [nI_0eq nu]; exact v4')
      have f4 : (nI (u + 1) = 0) = False := eq_false (fun w => by have := (nI_eqB (b := 0) (by omega) (by decide)).mp w; omega)
      simp only [i60] at q10
      refine ⟨g11, nI (aN (aIt τ A 3)), nI (aCs τ A 3), nI (evN τ A 3), nI (evN τ A 3), nI (aCs τ A 3), l20', W11, fun Q => (head Q).trans ?_⟩
      simp only [u315_1002, u315_1004, u315_1007, u315_1008, u315_1010, eq_self, q_nl0, q_nlI, q_nlR, not_false_eq_true, q_nz0, q_nz1, q_zv0, q_zv1, q_tl1, q_tl0, q_wif, q_swc, q_swn, List.cons_append, List.nil_append, if_true, if_false, e10, e01, Bool.false_eq_true, sh_1, oI_s, zl, q8]
      simp only [u315_1013, u315_1016, u315_1018, u315_1021, u315_1023, u315_1026, u315_1029, u315_1030, u315_1032, u315_1033, u315_1034, eq_self, q_nl0, q_nlI, q_nlR, not_false_eq_true, q_nz0, q_nz1, q_zv0, q_zv1, q_tl1, q_tl0, q_wif, q_swc, q_swn, List.cons_append, List.nil_append, if_true, if_false, e10, e01, Bool.false_eq_true, sh_1, f4, nI_n0, nI_dn, q9]
      simp only [u315_1037, u315_1040, u315_1042, u315_1045, u315_1046, u315_1048, eq_self, q_nl0, q_nlI, q_nlR, not_false_eq_true, q_nz0, q_nz1, q_zv0, q_zv1, q_tl1, q_tl0, q_wif, q_swc, q_swn, List.cons_append, List.nil_append, if_true, if_false, e10, e01, Bool.false_eq_true, sh_1, f3, zl, q10]
      simp only [u315_1051, u315_1052, u315_1054, eq_self, q_nl0, q_nlI, q_nlR, not_false_eq_true, q_nz0, q_nz1, q_zv0, q_zv1, q_tl1, q_tl0, q_wif, q_swc, q_swn, List.cons_append, List.nil_append, if_true, if_false, e10, e01, Bool.false_eq_true, sh_1, q11]
      simp only [u315_1057, u315_1060, u315_1061, u315_1064, u315_1065, u315_1066, u315_1067, eq_self, q_nl0, q_nlI, q_nlR, not_false_eq_true, q_nz0, q_nz1, q_zv0, q_zv1, q_tl1, q_tl0, q_wif, q_swc, q_swn, List.cons_append, List.nil_append, if_true, if_false, e10, e01, Bool.false_eq_true, f2]
/-- an offer -/
theorem w_off0 {C : Nat → Int32} {j : Nat} {A0 : Nat → Int32} (W : WW h τ b C A j A0 Z) {gr n q : Nat} (hg' : gr < 2 ^ τ 0 2) (eg : A 15 = nI gr) (hn : n < 60) (e : ofF τ gr (ofM τ A n) (2 ^ τ 0 2) = some q) : ∃ g, WW g τ b C A j A0 Z ∧ ∀ Q : QT, wq X (d + 10) 166 0 [some (.ref 1), some (.int (nI n)), some (.int 0)] [] h Q = Q (some (.int (nI (smN τ 8 q)))) g := by
  obtain ⟨T, H⟩ := ww_q W
  obtain ⟨q', e', P⟩ := a_offer0 (X := X) (d := d) (w := 0) H hg' eg hn rfl
  rw [e] at e'
  cases e'
  exact w_q W P
theorem w_off1 {C : Nat → Int32} {j : Nat} {A0 : Nat → Int32} (W : WW h τ b C A j A0 Z) {gr n q : Nat} (hg' : gr < 2 ^ τ 0 2) (eg : A 15 = nI gr) (hn : n < 60) (e : ofF τ gr (ofM τ A n) (2 ^ τ 0 2) = some q) : ∃ g, WW g τ b C A j A0 Z ∧ ∀ Q : QT, wq X (d + 10) 166 0 [some (.ref 1), some (.int (nI n)), some (.int 1)] [] h Q = Q (some (.int (nI (smN τ 7 q)))) g := by
  obtain ⟨T, H⟩ := ww_q W
  obtain ⟨q', e', P⟩ := a_offer1 (X := X) (d := d) (w := 1) H hg' eg hn rfl
  rw [e] at e'
  cases e'
  exact w_q W P
theorem of_sat {gr M q : Nat} (e : ofF τ gr M (2 ^ τ 0 2) = some q) : smN τ 7 q ≤ M ∧ ∀ M', M ≤ M' → ∀ q', ofF τ gr M' (2 ^ τ 0 2) = some q' → smN τ 8 q ≤ smN τ 8 q' := by
  obtain ⟨h1, _⟩ := bvS_max _ _ e
  have hq := fO_lt (bvS_o (p := ofP τ gr M) (V := smN τ 8) (C := smN τ 7)) _ _ e
  unfold ofP at h1
  rw [Bool.and_eq_true, decide_eq_true_eq, decide_eq_true_eq] at h1
  refine ⟨h1.2, fun M' hM q' e' => ?_⟩
  obtain ⟨_, h2⟩ := bvS_max _ _ e'
  refine h2 q hq ?_
  unfold ofP
  rw [Bool.and_eq_true, decide_eq_true_eq, decide_eq_true_eq]
  exact ⟨h1.1, by omega⟩
theorem unO_ge {gr n : Nat} {x : Int32} (hx : nI (unW τ A gr n) = x) : ∀ k, n < k → ∃ j, unO τ A gr x k = some j ∧ n ≤ j ∧ j < k
  | 0, h => absurd h (Nat.not_lt_zero n)
  | k + 1, h => by
    show ∃ j, (if nI (unW τ A gr k) < x then unO τ A gr x k else some k) = some j ∧ n ≤ j ∧ j < k + 1
    by_cases z : nI (unW τ A gr k) < x
    · rw [if_pos z]
      have : n ≠ k := by
        intro e
        rw [← e, hx] at z
        exact Int32.lt_irrefl z
      obtain ⟨j, h1, h2, h3⟩ := unO_ge hx k (by omega)
      exact ⟨j, h1, h2, by omega⟩
    · rw [if_neg z]
      exact ⟨k, rfl, by omega, by omega⟩
end LAW4
