/-! THE LAW: the bribe, the plan -/
theorem wk_id {τ : CT} {A : Nat → Int32} {n : Nat} (hn : n < 128) (h14 : A 14 = nI n) : aHome τ A n 0 = A := by
  funext k
  show (if k = 14 then nI (n &&& (127 ^^^ 0)) else if 7 ≤ k ∧ k < 7 + τ 0 1 ∧ (0 : Nat).testBit (k - 7) = true then 0 else A k) = A k
  by_cases z : k = 14
  · rw [if_pos z, and_z hn, z, h14]
  · rw [if_neg z, if_neg (by rw [Nat.zero_testBit]; simp)]
theorem pl_id {A : Nat → Int32} (h14 : A 14 = nI (aN A)) : plA A 0 = A := by
  funext k
  show (if k = 14 then nI (aN A ||| 0) else A k) = A k
  by_cases z : k = 14
  · rw [if_pos z, z, Nat.or_zero, h14]
  · rw [if_neg z]
theorem mod_up {s m : Nat} : s % 2 ^ (m + 1) = if s.testBit m = true then s % 2 ^ m ||| 2 ^ m else s % 2 ^ m := by
  apply Nat.eq_of_testBit_eq
  intro k
  by_cases z : s.testBit m = true
  · rw [if_pos z, Nat.testBit_or, Nat.testBit_mod_two_pow, Nat.testBit_mod_two_pow, Nat.testBit_two_pow]
    by_cases e : m = k
    · rw [← e, z]
      simp
    · rw [decide_eq_false e, Bool.or_false]
      have : decide (k < m + 1) = decide (k < m) := decide_eq_decide.mpr (by omega)
      rw [this]
  · rw [if_neg z, Nat.testBit_mod_two_pow, Nat.testBit_mod_two_pow]
    by_cases e : m = k
    · rw [← e, show s.testBit m = false by simpa using z, Bool.and_false, Bool.and_false]
    · have : decide (k < m + 1) = decide (k < m) := decide_eq_decide.mpr (by omega)
      rw [this]
/-- home one behind the other is home together -/
theorem wk_up {τ : CT} {N : Nat} {A : Nat → Int32} (H : cOk τ) (K : aOk τ N A) {s m : Nat} (hm : m < 7) : aHome τ (aHome τ A (aN A) s) (aN (aHome τ A (aN A) s)) (2 ^ m) = aHome τ A (aN A) (s ||| 2 ^ m) := by
  have hn := aN_lt H K
  have h7 := o_mn H
  rw [aHome_n H K]
  funext k
  show (if k = 14 then nI ((aN A &&& (127 ^^^ s)) &&& (127 ^^^ 2 ^ m)) else if 7 ≤ k ∧ k < 7 + τ 0 1 ∧ (2 ^ m).testBit (k - 7) = true then 0 else if k = 14 then nI (aN A &&& (127 ^^^ s)) else if 7 ≤ k ∧ k < 7 + τ 0 1 ∧ s.testBit (k - 7) = true then 0 else A k) = if k = 14 then nI (aN A &&& (127 ^^^ (s ||| 2 ^ m))) else if 7 ≤ k ∧ k < 7 + τ 0 1 ∧ (s ||| 2 ^ m).testBit (k - 7) = true then 0 else A k
  by_cases z : k = 14
  · rw [if_pos z, if_pos z]
    congr 1
    apply Nat.eq_of_testBit_eq
    intro i
    by_cases hi : i < 7
    · rw [and_bit hi, and_bit hi, and_bit hi, Nat.testBit_or]
      cases (aN A).testBit i <;> cases s.testBit i <;> cases (2 ^ m).testBit i <;> rfl
    · rw [bit_ge (k := 7) (and_128 (and_128 hn)) (by omega), bit_ge (k := 7) (and_128 hn) (by omega)]
  · rw [if_neg z, if_neg z, if_neg z, Nat.testBit_or]
    by_cases y : 7 ≤ k ∧ k < 7 + τ 0 1
    · cases p : (2 ^ m).testBit (k - 7) <;> cases q : s.testBit (k - 7)
      · simp
      · simp [y.1, y.2]
      · simp [y.1, y.2]
      · simp [y.1, y.2]
    · rw [if_neg (fun w => y ⟨w.1, w.2.1⟩), if_neg (fun w => y ⟨w.1, w.2.1⟩), if_neg (fun w => y ⟨w.1, w.2.1⟩)]
section LAW6
variable {X : XT} {d : Nat} {h : HT} {τ : CT} {b : Nat} {A : Nat → Int32} {Z : Option (Nat → Int32)}
theorem lw_br (L : LB τ b) {j : Nat} {A0 : Nat → Int32} (W : WW h τ b A A j A0 Z) {i s : Nat} (hs : s < 128) (s0 : 0 < s) (ha : s &&& (127 ^^^ aN A) = 0) {k11 j12 v13 v14 v15 v16 v17 v18 : Int32} {l21 l22 : Option Value} : ∃ g Z', WW g τ b A (aHome τ A (aN A) (s % 2 ^ τ 0 1)) j A0 Z' ∧ ∀ Q : QT, wq X (d + 12) 315 1244 [some (.ref 10000), some (.ref 1), some (.ref 195), some (.int 1), some (.ref 196), some (.int (nI (sAll τ))), some (.int (nI i)), some (.int (A 18)), some (.int (nI (aN A))), some (.int (nI (sShort τ (aN A)))), some (.int (nI (sLoss τ (aN A)))), some (.int k11), some (.int j12), some (.int v13), some (.int v14), some (.int v15), some (.int v16), some (.int v17), some (.int v18), some (.int (nI s)), some (.int 0), l21, l22] [] h Q = wq X (d + 12) 315 1292 [some (.ref 10000), some (.ref 1), some (.ref 195), some (.int 1), some (.ref 196), some (.int (nI (sAll τ))), some (.int (nI i)), some (.int (A 18)), some (.int (nI (aN A))), some (.int (nI (sShort τ (aN A)))), some (.int (nI (sLoss τ (aN A)))), some (.int k11), some (.int j12), some (.int v13), some (.int v14), some (.int v15), some (.int v16), some (.int v17), some (.int v18), some (.int (nI s)), some (.int (nI (τ 0 1))), l21, l22] [] g Q := by
  have h5 := L.2.2.1
  have h7 := o_mn L.1
  have K := ww_a W
  have hn := aN_lt L.1 K
  have sp : (0 < nI s) = True := eq_true ((ev_0 s (by omega)).mpr s0)
  have W0 : WW h τ b A (aHome τ A (aN A) (s % 2 ^ 0)) j A0 Z := by
    rw [show s % 2 ^ 0 = 0 from Nat.mod_one s, wk_id hn K.1.1]
    exact W
  obtain ⟨g, ⟨Z', W'⟩, e⟩ := q_loopI (α := HT) (fun m h => fun (Q : QT) => wq X (d + 12) 315 1244 [some (.ref 10000), some (.ref 1), some (.ref 195), some (.int 1), some (.ref 196), some (.int (nI (sAll τ))), some (.int (nI i)), some (.int (A 18)), some (.int (nI (aN A))), some (.int (nI (sShort τ (aN A)))), some (.int (nI (sLoss τ (aN A)))), some (.int k11), some (.int j12), some (.int v13), some (.int v14), some (.int v15), some (.int v16), some (.int v17), some (.int v18), some (.int (nI s)), some (.int (nI m)), l21, l22] [] h Q) (fun m h => ∃ Z', WW h τ b A (aHome τ A (aN A) (s % 2 ^ m)) j A0 Z') (τ 0 1) (by
    rintro m hm h ⟨Z', W⟩
    have f1 : (nI m < nI (τ 0 1)) = True := eq_true (nI_lt hm (by omega))
    have hc : m_gI h 195 1 = nI (τ 0 1) := (ww_T W).1.2.1
    have hb := bit_j hs (show m < 8 by omega)
    by_cases z : s.testBit m = true
    · have en := aHome_n (τ := τ) (g := s % 2 ^ m) L.1 K
      have hin : (aN A).testBit m = true := by
        have := congrArg (fun w => w.testBit m) ha
        simp only [and_bit (show m < 7 by omega), z, Bool.true_and, Nat.zero_testBit] at this
        simpa using this
      have hno : (aN (aHome τ A (aN A) (s % 2 ^ m))).testBit m = true := by
        rw [en, and_bit (by omega), mod_bit, hin]
        rfl
      obtain ⟨g, W1, q1⟩ := w_home (X := X) (d := d + 1) W hm hno
      have Km := ww_a W
      obtain ⟨yy, hy, _, hd⟩ := Km.2.2.2
      obtain ⟨x, hx, ex, _⟩ := hd m hm
      have f2 : (aHome τ A (aN A) (s % 2 ^ m) (7 + m) < 0) = False := by
        rw [ex]
        exact oI_lt0 (by omega)
      refine ⟨g, ⟨some (aHome τ A (aN A) (s % 2 ^ m)), ?_⟩, funext fun Q => ?_⟩
      · rw [mod_up, if_pos z, ← wk_up L.1 K (show m < 7 by omega)]
        exact W1
      · show wq X (d + 12) 315 1244 _ _ _ _ = _
        rw [u315_1244]
        simp only [u315_1246, u315_1247, u315_1248, u315_1249, u315_1252, u315_1253, u315_1256, u315_1258, u315_1261, u315_1263, u315_1265, u315_1266, u315_1267, u315_1268, u315_1271, u315_1272, u315_1274, eq_self, q_nl0, q_nlI, q_nlR, not_false_eq_true, q_nz0, q_nz1, q_zv0, q_zv1, q_tl1, q_tl0, q_wif, q_swc, q_swn, List.cons_append, List.nil_append, if_true, if_false, e10, e01, Bool.false_eq_true, sh_1, sh_195, t_in1, t_cl1, hc, f1, sp, hb, z, Bool.true_eq_false, q1]
        simp only [u315_1277, u315_1280, u315_1281, u315_1284, u315_1285, u315_1286, u315_1289, eq_self, q_nl0, q_nlI, q_nlR, not_false_eq_true, q_nz0, q_nz1, q_zv0, q_zv1, q_tl1, q_tl0, q_wif, q_swc, q_swn, List.cons_append, List.nil_append, if_true, if_false, e10, e01, Bool.false_eq_true, f2, nI_1]
    · refine ⟨h, ⟨Z', ?_⟩, funext fun Q => ?_⟩
      · rw [mod_up, if_neg z]
        exact W
      · have z' : s.testBit m = false := by simpa using z
        show wq X (d + 12) 315 1244 _ _ _ _ = _
        rw [u315_1244]
        simp only [u315_1246, u315_1247, u315_1248, u315_1249, u315_1252, u315_1253, u315_1256, u315_1258, u315_1261, u315_1263, u315_1265, u315_1266, u315_1267, u315_1268, u315_1271, u315_1272, u315_1274, u315_1277, u315_1280, u315_1281, u315_1284, u315_1285, u315_1286, u315_1289, eq_self, q_nl0, q_nlI, q_nlR, not_false_eq_true, q_nz0, q_nz1, q_zv0, q_zv1, q_tl1, q_tl0, q_wif, q_swc, q_swn, List.cons_append, List.nil_append, if_true, if_false, e10, e01, Bool.false_eq_true, sh_1, sh_195, t_in1, t_cl1, hc, f1, sp, hb, z', nI_1]) h ⟨Z, W0⟩
  refine ⟨g, Z', W', fun Q => ?_⟩
  have e' := congrFun e Q
  have hc : m_gI g 195 1 = nI (τ 0 1) := (ww_T W').1.2.1
  refine Eq.trans (b := wq X (d + 12) 315 1244 [some (.ref 10000), some (.ref 1), some (.ref 195), some (.int 1), some (.ref 196), some (.int (nI (sAll τ))), some (.int (nI i)), some (.int (A 18)), some (.int (nI (aN A))), some (.int (nI (sShort τ (aN A)))), some (.int (nI (sLoss τ (aN A)))), some (.int k11), some (.int j12), some (.int v13), some (.int v14), some (.int v15), some (.int v16), some (.int v17), some (.int v18), some (.int (nI s)), some (.int (nI 0)), l21, l22] [] h Q) rfl (e'.trans ?_)
  show wq X (d + 12) 315 1244 _ _ _ _ = _
  rw [u315_1244]
  simp only [u315_1246, u315_1247, u315_1248, u315_1249, eq_self, q_nl0, q_nlI, q_nlR, not_false_eq_true, q_nz0, q_nz1, q_zv0, q_zv1, q_tl1, q_tl0, q_wif, q_swc, q_swn, List.cons_append, List.nil_append, if_true, if_false, e10, e01, Bool.false_eq_true, sh_195, t_in1, t_cl1, hc, eq_false (nI_nlt (Nat.le_refl (τ 0 1)) (show τ 0 1 < 2 ^ 31 by omega))]
theorem lw_bribe (L : LB τ b) {i : Nat} (hi : i < 5) (W : WW h τ b A A (i % 3) A Z) {k11 j12 v13 v14 v15 v16 v17 v18 : Int32} {l19 l20 l21 l22 : Option Value} : ∃ g v19 v20, WW g τ b A A (i % 3) A none ∧ ∀ Q : QT, wq X (d + 12) 315 1233 [some (.ref 10000), some (.ref 1), some (.ref 195), some (.int 1), some (.ref 196), some (.int (nI (sAll τ))), some (.int (nI i)), some (.int (A 18)), some (.int (nI (aN A))), some (.int (nI (sShort τ (aN A)))), some (.int (nI (sLoss τ (aN A)))), some (.int k11), some (.int j12), some (.int v13), some (.int v14), some (.int v15), some (.int v16), some (.int v17), some (.int v18), l19, l20, l21, l22] [] h Q = wq X (d + 12) 315 1359 [some (.ref 10000), some (.ref 1), some (.ref 195), some (.int 1), some (.ref 196), some (.int (nI (sAll τ))), some (.int (nI i)), some (.int (A 18)), some (.int (nI (aN A))), some (.int (nI (sShort τ (aN A)))), some (.int (nI (sLoss τ (aN A)))), some (.int k11), some (.int j12), some (.int v13), some (.int v14), some (.int v15), some (.int v16), some (.int v17), some (.int v18), some (.int v19), some (.int v20), l21, l22] [] g Q := by
  have h5 := L.2.2.1
  have h7 := o_mn L.1
  have K := ww_a W
  have hn := aN_lt L.1 K
  have hw := K.1.2
  have n3 : ¬ (3 : Int32) = 0 := by decide
  have m00 : ((0 : Int32) < 0) = False := eq_false (by decide)
  have P1 : ∃ best g, fL (miS (brP τ A 4)) none (2 ^ τ 0 1) = some best ∧ best < 128 ∧ WW g τ b A A (i % 3) A Z ∧ ∀ Q : QT, wq X (d + 1 + 10) 164 0 [some (.ref 1), some (.int 4), some (.int 1), none, none] [] h Q = Q (some (.int (nI best))) g := by
    obtain ⟨T, H⟩ := ww_q W
    obtain ⟨best, e, lt, P⟩ := a_bribe1 (X := X) (d := d + 1) (n := 4) (w := 1) H (by decide) (by decide) rfl
    obtain ⟨g, W1, q⟩ := w_q W P
    exact ⟨best, g, e, lt, W1, q⟩
  obtain ⟨best, g1, e1, lt, W1, q1⟩ := P1
  have b1 := miS_sat _ _ e1
  have blt := fO_lt (miS_o (p := brP τ A 4)) _ _ e1
  unfold brP at b1
  rw [Bool.and_eq_true, decide_eq_true_eq, decide_eq_true_eq] at b1
  obtain ⟨b2, b3⟩ := b1
  have hm1 : m_gI g1 195 1 = nI (τ 0 1) := (ww_T W1).1.2.1
  have i2 : nI 2 = (2 : Int32) := rfl
  have i4 : nI 4 = (4 : Int32) := rfl
  have tail : ∀ {g : HT} {Z2 : Option (Nat → Int32)} {v20 : Int32}, WW g τ b A (aHome τ A (aN A) best) (i % 3) A Z2 → ∃ g', WW g' τ b A A (i % 3) A none ∧ ∀ Q : QT, wq X (d + 12) 315 1292 [some (.ref 10000), some (.ref 1), some (.ref 195), some (.int 1), some (.ref 196), some (.int (nI (sAll τ))), some (.int (nI i)), some (.int (A 18)), some (.int (nI (aN A))), some (.int (nI (sShort τ (aN A)))), some (.int (nI (sLoss τ (aN A)))), some (.int k11), some (.int j12), some (.int v13), some (.int v14), some (.int v15), some (.int v16), some (.int v17), some (.int v18), some (.int (nI best)), some (.int v20), l21, l22] [] g Q = wq X (d + 12) 315 1359 [some (.ref 10000), some (.ref 1), some (.ref 195), some (.int 1), some (.ref 196), some (.int (nI (sAll τ))), some (.int (nI i)), some (.int (A 18)), some (.int (nI (aN A))), some (.int (nI (sShort τ (aN A)))), some (.int (nI (sLoss τ (aN A)))), some (.int k11), some (.int j12), some (.int v13), some (.int v14), some (.int v15), some (.int v16), some (.int v17), some (.int v18), some (.int (nI best)), some (.int v20), l21, l22] [] g' Q := by
    intro g Z2 v20 V
    obtain ⟨u1, V1, r1⟩ := w_ask V (fun T H => a_will (X := X) (d := d + 1) (n := 4) H (by decide))
    rw [b3] at r1
    obtain ⟨u2, V2, r2⟩ := w_back (X := X) (d := d + 1) V1 (show i % 3 < 3 by omega)
    have PP : ∃ p g', plP τ (aN A) p = true ∧ p < 128 ∧ aCs τ A 2 ≤ plV τ A 2 p ∧ fL (bvS (plP τ (aN A)) (plV τ A 2) pcN) none (2 ^ τ 0 1) = some p ∧ WW g' τ b A A (i % 3) A none ∧ ∀ Q : QT, wq X (d + 1 + 10) 162 0 [some (.ref 1), some (.int 2), some (.int 0), none, none, none] [] u2 Q = Q (some (.int (nI (plV τ A 2 p)))) g' := by
      obtain ⟨T, H⟩ := ww_q V2
      obtain ⟨p, e, lt, P⟩ := a_plan0 (X := X) (d := d + 1) (n := 2) (w := 0) H (by decide) (by decide) rfl
      obtain ⟨g', W', q⟩ := w_q V2 P
      obtain ⟨c1, c2⟩ := bvS_max _ _ e
      have p0 : plP τ (aN A) 0 = true := by
        unfold plP
        rw [Bool.and_eq_true, decide_eq_true_eq, decide_eq_true_eq]
        exact ⟨Nat.zero_and _, by decide⟩
      have c3 := c2 0 (Nat.two_pow_pos _) p0
      have e0 : plV τ A 2 0 = aCs τ A 2 := by
        unfold plV
        rw [pl_id K.1.1]
      rw [e0] at c3
      exact ⟨p, g', c1, lt, c3, e, W', q⟩
    obtain ⟨p, u3, pp, plt, ple, pe, V3, r3⟩ := PP
    obtain ⟨u4, V4, r4⟩ := w_ask V3 (fun T H => a_costs (X := X) (d := d + 1) (n := 2) H (by decide))
    have P5 : ∃ g', WW g' τ b A A (i % 3) A none ∧ ∀ Q : QT, wq X (d + 1 + 10) 162 0 [some (.ref 1), some (.int 2), some (.int 1), none, none, none] [] u4 Q = Q (some (.int (nI p))) g' := by
      obtain ⟨T, H⟩ := ww_q V4
      obtain ⟨p', e, lt, P⟩ := a_plan1 (X := X) (d := d + 1) (n := 2) (w := 1) H (by decide) (by decide) rfl
      rw [pe] at e
      cases e
      exact w_q V4 P
    obtain ⟨u5, V5, r5⟩ := P5
    unfold plP at pp
    rw [Bool.and_eq_true, decide_eq_true_eq, decide_eq_true_eq] at pp
    have pp1 := pp.1
    rw [city_sub h7 plt] at pp1
    have cA := aCs_lt (A := A) L.1 (show 2 ≤ 60 by decide)
    have cP : plV τ A 2 p < 2 ^ 31 := aCs_lt (A := plA A p) L.1 (show 2 ≤ 60 by decide)
    have f2 : (nI (plV τ A 2 p) < nI (aCs τ A 2)) = False := eq_false (by rw [nI_ltI cP cA]; omega)
    have f3 := nI_not _ lt _ hn
    simp only [i4, nI_n0] at r1
    simp only [i2] at r4
    refine ⟨u5, V5, fun Q => ?_⟩
    simp only [u315_1292, u315_1293, u315_1296, u315_1298, u315_1300, u315_1301, u315_1302, u315_1303, u315_1306, u315_1307, u315_1308, eq_self, q_nl0, q_nlI, q_nlR, not_false_eq_true, q_nz0, q_nz1, q_zv0, q_zv1, q_tl1, q_tl0, q_wif, q_swc, q_swn, List.cons_append, List.nil_append, if_true, if_false, e10, e01, Bool.false_eq_true, sh_1, f3, b2, nI_n0, r1]
    simp only [u315_1311, u315_1314, u315_1315, u315_1317, u315_1318, u315_1319, eq_self, q_nl0, q_nlI, q_nlR, not_false_eq_true, q_nz0, q_nz1, q_zv0, q_zv1, q_tl1, q_tl0, q_wif, q_swc, q_swn, List.cons_append, List.nil_append, if_true, if_false, e10, e01, Bool.false_eq_true, sh_1, n3, rem3 i hi, r2]
    simp only [u315_1322, u315_1324, u315_1327, u315_1328, u315_1329, u315_1330, eq_self, q_nl0, q_nlI, q_nlR, not_false_eq_true, q_nz0, q_nz1, q_zv0, q_zv1, q_tl1, q_tl0, q_wif, q_swc, q_swn, List.cons_append, List.nil_append, if_true, if_false, e10, e01, Bool.false_eq_true, sh_1, r3]
    simp only [u315_1333, u315_1334, u315_1335, eq_self, q_nl0, q_nlI, q_nlR, not_false_eq_true, q_nz0, q_nz1, q_zv0, q_zv1, q_tl1, q_tl0, q_wif, q_swc, q_swn, List.cons_append, List.nil_append, if_true, if_false, e10, e01, Bool.false_eq_true, sh_1, r4]
    simp only [u315_1338, u315_1341, u315_1342, u315_1343, u315_1344, eq_self, q_nl0, q_nlI, q_nlR, not_false_eq_true, q_nz0, q_nz1, q_zv0, q_zv1, q_tl1, q_tl0, q_wif, q_swc, q_swn, List.cons_append, List.nil_append, if_true, if_false, e10, e01, Bool.false_eq_true, sh_1, f2, r5]
    simp only [u315_1347, u315_1349, u315_1350, u315_1353, u315_1354, u315_1357, u315_1358, eq_self, q_nl0, q_nlI, q_nlR, not_false_eq_true, q_nz0, q_nz1, q_zv0, q_zv1, q_tl1, q_tl0, q_wif, q_swc, q_swn, List.cons_append, List.nil_append, if_true, if_false, e10, e01, Bool.false_eq_true, nI_and, pp1.2, nI_n0]
  by_cases b0 : best = 0
  · subst b0
    rw [wk_id hn K.1.1] at tail
    obtain ⟨g', W', q'⟩ := tail (v20 := 0) W1
    refine ⟨g', nI 0, 0, W', fun Q => ?_⟩
    simp only [nI_n0] at q1 q' ⊢
    simp only [u315_1233, u315_1234, u315_1235, u315_1236, eq_self, q_nl0, q_nlI, q_nlR, not_false_eq_true, q_nz0, q_nz1, q_zv0, q_zv1, q_tl1, q_tl0, q_wif, q_swc, q_swn, List.cons_append, List.nil_append, if_true, if_false, e10, e01, Bool.false_eq_true, sh_1, q1]
    simp only [u315_1239, u315_1241, u315_1242, u315_1244, u315_1246, u315_1247, u315_1248, u315_1249, u315_1252, u315_1253, u315_1256, u315_1258, eq_self, q_nl0, q_nlI, q_nlR, not_false_eq_true, q_nz0, q_nz1, q_zv0, q_zv1, q_tl1, q_tl0, q_wif, q_swc, q_swn, List.cons_append, List.nil_append, if_true, if_false, e10, e01, Bool.false_eq_true, sh_195, t_in1, t_cl1, hm1, m00]
    by_cases y : (0 : Int32) < nI (τ 0 1)
    · simp only [y, if_true]
      exact q' Q
    · simp only [y, if_false]
      exact q' Q
  · obtain ⟨g2, Z2, W2, q2⟩ := lw_br (X := X) (d := d) (i := i) (k11 := k11) (j12 := j12) (v13 := v13) (v14 := v14) (v15 := v15) (v16 := v16) (v17 := v17) (v18 := v18) (l21 := l21) (l22 := l22) L W1 lt (by omega) b2
    rw [mod_self_lt blt] at W2
    obtain ⟨g', W', q'⟩ := tail (v20 := nI (τ 0 1)) W2
    refine ⟨g', nI best, nI (τ 0 1), W', fun Q => ?_⟩
    simp only [u315_1233, u315_1234, u315_1235, u315_1236, eq_self, q_nl0, q_nlI, q_nlR, not_false_eq_true, q_nz0, q_nz1, q_zv0, q_zv1, q_tl1, q_tl0, q_wif, q_swc, q_swn, List.cons_append, List.nil_append, if_true, if_false, e10, e01, Bool.false_eq_true, sh_1, q1]
    simp only [u315_1239, u315_1241, u315_1242, eq_self, q_nl0, q_nlI, q_nlR, not_false_eq_true, q_nz0, q_nz1, q_zv0, q_zv1, q_tl1, q_tl0, q_wif, q_swc, q_swn, List.cons_append, List.nil_append, if_true, if_false, e10, e01, Bool.false_eq_true]
    exact (q2 Q).trans (q' Q)
end LAW6
