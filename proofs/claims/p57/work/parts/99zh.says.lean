/-! THE LAW WRITES A CITY: texts and numbers -/
def tb (i : Nat) : List Nat := (m_tx i).map (fun v => v.toNatClampNeg)
def wdI (i k : Nat) : Nat → Int64
  | 0 => 0
  | j + 1 => wdI i k j <<< ((8 : Int32).toInt64 &&& 63) ||| (if k + j < (m_tx i).length then (m_tx i).getD (k + j) 0 else 0 : Int32).toInt64
theorem wb_tx : ∀ i, i < 46 → 27 ≤ i → ∀ q, q < 7 → 8 * q < (m_tx i).length → wbB (wdI i (8 * q) 8) (((tb i).drop (8 * q)).take 8) = true := by decide +kernel
theorem tx_48 : ∀ i, i < 46 → 27 ≤ i → (m_tx i).length ≤ 48 := by decide +kernel
theorem tb_len {i : Nat} : (tb i).length = (m_tx i).length := List.length_map _
section SAYS
variable {X : XT} {d : Nat} {h : HT} {T : List Nat} {t : Nat → Int32}
theorem l_says (W : TW h T t) {i : Nat} (hi : i < 46) (hi2 : 27 ≤ i) (hl : T.length + 70 ≤ 1600) : ∃ g, TW g (T ++ tb i) t ∧ ∀ Q : QT, wq X (d + 12) 127 0 [some (.ref 1), some (.int (nI T.length)), some (.ref (10000 + (10 + i))), none, none, none, none, none] [] h Q = Q (some (.int (nI (T ++ tb i).length))) g := by
  have h48 := tx_48 i hi hi2
  have hx := xs_i hi
  have cl := fun (h : HT) (Q : QT) => c_len (X := X) (d := d + 10) (i := i) (h := h) (Q := Q) hi
  obtain ⟨l', W', e⟩ := q_loopI (α := HT × Option Value × Option Value) (fun q l => fun (Q : QT) => wq X (d + 12) 127 5 [some (.ref 1), some (.int (nI T.length)), some (.ref (10000 + (10 + i))), some (.int (nI (T ++ (tb i).take (8 * q)).length)), some (.int (nI (8 * q))), l.2.1, none, l.2.2] [] l.1 Q) (fun q l => TW l.1 (T ++ (tb i).take (8 * q)) t) (((m_tx i).length + 7) / 8) (by
    rintro q hq ⟨h, j5, j7⟩ W
    have q8 : 8 * q < (m_tx i).length := by omega
    have f1 : (nI (8 * q) < nI (m_tx i).length) = True := eq_true (nI_lt q8 (by omega))
    have e8 : nI (8 * q) + 8 = nI (8 * q + 8) := nI_add _ 8
    have hlen : (T ++ (tb i).take (8 * q)).length + 20 ≤ 1600 := by
      rw [List.length_append, List.length_take]
      omega
    obtain ⟨g1, W1, q1⟩ := l_put (X := X) (d := d) W (wb_tx i hi hi2 q (by omega) q8) hlen
    have et : T ++ (tb i).take (8 * q) ++ ((tb i).drop (8 * q)).take 8 = T ++ (tb i).take (8 * (q + 1)) := by
      rw [List.append_assoc, show 8 * (q + 1) = 8 * q + 8 by omega, List.take_add]
    rw [et] at W1 q1
    refine ⟨⟨g1, some (.long (wdI i (8 * q) 8)), some (.int (nI (8 * q + 8)))⟩, W1, funext fun Q => ?_⟩
    show wq X (d + 12) 127 5 _ _ _ _ = _
    rw [u127_5]
    simp only [u127_7, u127_8, eq_self, q_nl0, q_nlI, q_nlR, not_false_eq_true, q_nz0, q_nz1, q_zv0, q_zv1, q_tl1, q_tl0, q_wif, q_swc, q_swn, List.cons_append, List.nil_append, if_true, if_false, e10, e01, Bool.false_eq_true, hx, cl]
    simp only [u127_11, u127_14, u127_15, u127_17, u127_19, eq_self, q_nl0, q_nlI, q_nlR, not_false_eq_true, q_nz0, q_nz1, q_zv0, q_zv1, q_tl1, q_tl0, q_wif, q_swc, q_swn, List.cons_append, List.nil_append, if_true, if_false, e10, e01, Bool.false_eq_true, f1]
    refine Eq.trans (b := wq X (d + 12) 127 21 [some (.ref 1), some (.int (nI T.length)), some (.ref (10000 + (10 + i))), some (.int (nI (T ++ (tb i).take (8 * q)).length)), some (.int (nI (8 * q))), some (.long (wdI i (8 * q) 0)), none, some (.int (nI (8 * q + 0)))] [] h Q) rfl ?_
    refine (q_loop (fun j => wq X (d + 12) 127 21 [some (.ref 1), some (.int (nI T.length)), some (.ref (10000 + (10 + i))), some (.int (nI (T ++ (tb i).take (8 * q)).length)), some (.int (nI (8 * q))), some (.long (wdI i (8 * q) j)), none, some (.int (nI (8 * q + j)))] [] h Q) 8 ?_).trans ?_
    · intro j hj
      have f2 : (nI (8 * q + j) < nI (8 * q + 8)) = True := eq_true (nI_lt (by omega) (by omega))
      have f3 : (nI (8 * q + j) < nI (m_tx i).length) = (8 * q + j < (m_tx i).length) := nI_ltB (by omega) (by omega)
      have ew : wdI i (8 * q) (j + 1) = wdI i (8 * q) j <<< ((8 : Int32).toInt64 &&& 63) ||| (if 8 * q + j < (m_tx i).length then (m_tx i).getD (8 * q + j) 0 else 0 : Int32).toInt64 := rfl
      have e1 : nI (8 * q + j) + 1 = nI (8 * q + (j + 1)) := nI_1 _
      show wq X (d + 12) 127 21 _ _ _ _ = _
      rw [u127_21, ew]
      simp only [u127_23, u127_25, u127_27, u127_28, u127_31, u127_33, u127_35, u127_36, u127_38, u127_39, eq_self, q_nl0, q_nlI, q_nlR, not_false_eq_true, q_nz0, q_nz1, q_zv0, q_zv1, q_tl1, q_tl0, q_wif, q_swc, q_swn, List.cons_append, List.nil_append, if_true, if_false, e10, e01, Bool.false_eq_true, e8, f2, hx, cl]
      simp only [u127_42, eq_self, q_nl0, q_nlI, q_nlR, not_false_eq_true, q_nz0, q_nz1, q_zv0, q_zv1, q_tl1, q_tl0, q_wif, q_swc, q_swn, List.cons_append, List.nil_append, if_true, if_false, e10, e01, Bool.false_eq_true, f3]
      by_cases z : 8 * q + j < (m_tx i).length
      · have ch := fun (Q : QT) => c_charAt (X := X) (d := d + 8) (i := i) (j := 8 * q + j) (h := h) (Q := Q) hi z
        simp only [z, if_true, u127_45, u127_46, u127_48, eq_self, q_nl0, q_nlI, q_nlR, not_false_eq_true, q_nz0, q_nz1, q_zv0, q_zv1, q_tl1, q_tl0, q_wif, q_swc, q_swn, List.cons_append, List.nil_append, if_true, if_false, e10, e01, Bool.false_eq_true, hx, ch]
        simp only [u127_51, u127_54, u127_55, u127_56, u127_57, u127_59, u127_62, eq_self, q_nl0, q_nlI, q_nlR, not_false_eq_true, q_nz0, q_nz1, q_zv0, q_zv1, q_tl1, q_tl0, q_wif, q_swc, q_swn, List.cons_append, List.nil_append, if_true, if_false, e10, e01, Bool.false_eq_true, e1]
      · simp only [z, if_false, u127_54, u127_55, u127_56, u127_57, u127_59, u127_62, eq_self, q_nl0, q_nlI, q_nlR, not_false_eq_true, q_nz0, q_nz1, q_zv0, q_zv1, q_tl1, q_tl0, q_wif, q_swc, q_swn, List.cons_append, List.nil_append, if_true, if_false, e10, e01, Bool.false_eq_true, e1]
    · rw [u127_21]
      simp only [u127_23, u127_25, u127_27, u127_28, eq_self, q_nl0, q_nlI, q_nlR, not_false_eq_true, q_nz0, q_nz1, q_zv0, q_zv1, q_tl1, q_tl0, q_wif, q_swc, q_swn, List.cons_append, List.nil_append, if_true, if_false, e10, e01, Bool.false_eq_true, e8, eq_false (nI_nlt (Nat.le_refl (8 * q + 8)) (show 8 * q + 8 < 2 ^ 31 by omega))]
      simp only [u127_65, u127_66, u127_67, u127_69, eq_self, q_nl0, q_nlI, q_nlR, not_false_eq_true, q_nz0, q_nz1, q_zv0, q_zv1, q_tl1, q_tl0, q_wif, q_swc, q_swn, List.cons_append, List.nil_append, if_true, if_false, e10, e01, Bool.false_eq_true, q1]
      simp only [u127_72, u127_73, u127_76, eq_self, q_nl0, q_nlI, q_nlR, not_false_eq_true, q_nz0, q_nz1, q_zv0, q_zv1, q_tl1, q_tl0, q_wif, q_swc, q_swn, List.cons_append, List.nil_append, if_true, if_false, e10, e01, Bool.false_eq_true, e8]
      rfl) ⟨h, none, none⟩ (by
      rw [show (tb i).take (8 * 0) = [] from rfl, List.append_nil]
      exact W)
  have eA : (tb i).take (8 * (((m_tx i).length + 7) / 8)) = tb i := List.take_of_length_le (by rw [tb_len]; omega)
  rw [eA] at W'
  refine ⟨l'.1, W', fun Q => ?_⟩
  have e' := congrFun e Q
  have f1 : (nI (8 * (((m_tx i).length + 7) / 8)) < nI (m_tx i).length) = False := eq_false (nI_nlt (by omega) (by omega))
  have a0 : T ++ (tb i).take (8 * 0) = T := List.append_nil T
  simp only [u127_0, u127_1, u127_2, u127_3, eq_self, q_nl0, q_nlI, q_nlR, not_false_eq_true, q_nz0, q_nz1, q_zv0, q_zv1, q_tl1, q_tl0, q_wif, q_swc, q_swn, List.cons_append, List.nil_append, if_true, if_false, e10, e01, Bool.false_eq_true]
  refine Eq.trans (b := wq X (d + 12) 127 5 [some (.ref 1), some (.int (nI T.length)), some (.ref (10000 + (10 + i))), some (.int (nI (T ++ (tb i).take (8 * 0)).length)), some (.int (nI (8 * 0))), none, none, none] [] h Q) (by rw [a0]; rfl) (e'.trans ?_)
  show wq X (d + 12) 127 5 _ _ _ _ = _
  rw [u127_5, eA]
  simp only [u127_7, u127_8, eq_self, q_nl0, q_nlI, q_nlR, not_false_eq_true, q_nz0, q_nz1, q_zv0, q_zv1, q_tl1, q_tl0, q_wif, q_swc, q_swn, List.cons_append, List.nil_append, if_true, if_false, e10, e01, Bool.false_eq_true, hx, cl]
  simp only [u127_11, u127_79, u127_80, eq_self, q_nl0, q_nlI, q_nlR, not_false_eq_true, q_nz0, q_nz1, q_zv0, q_zv1, q_tl1, q_tl0, q_wif, q_swc, q_swn, List.cons_append, List.nil_append, if_true, if_false, e10, e01, Bool.false_eq_true, f1]
/-- a number, and a blank -/
def dg (v : Nat) : List Nat := if v < 10 then [48 + v / 1 % 10] else if v < 100 then [48 + v / 10 % 10, 48 + v / 1 % 10] else [48 + v / 100 % 10, 48 + v / 10 % 10, 48 + v / 1 % 10]
theorem l_dg1 (W : TW h T t) {v u : Nat} (hv : v < 1000) (hu : u = 1 ∨ u = 10 ∨ u = 100) (hl : T.length + 20 ≤ 1600) {x : Int32} : ∃ g, TW g (T ++ [48 + v / u % 10]) t ∧ ∀ Q : QT, wq X (d + 12) 150 24 [some (.ref 1), some (.int x), some (.int (nI v)), some (.int (nI T.length)), some (.int (nI u))] [] h Q = wq X (d + 12) 150 24 [some (.ref 1), some (.int x), some (.int (nI v)), some (.int (nI (T ++ [48 + v / u % 10]).length)), some (.int (nI (u / 10)))] [] g Q := by
  obtain ⟨g, W1, q1⟩ := l_put (X := X) (d := d) W (wb_dg (v / u % 10) (Nat.mod_lt _ (by decide))) hl
  have hu1 : 0 < u ∧ u ≤ 100 := by omega
  have hvu := Nat.div_le_self v u
  have f1 : (0 < nI u) = True := eq_true ((ev_0 u (by omega)).mpr hu1.1)
  have n1 : ¬ nI u = 0 := fun w => by
    have := (nI_eqB (b := 0) (by omega) (by decide)).mp w
    omega
  have n10 : ¬ (10 : Int32) = 0 := by decide
  have e1 : nI v / nI u = nI (v / u) := nI_div (by omega) (by omega)
  have e2 : nI (v / u) - nI (v / u) / 10 * 10 = nI (v / u % 10) := pk_rem (by omega) (by decide) (by decide)
  have e3 : nI u / 10 = nI (u / 10) := nI_div (b := 10) (by omega) (by decide)
  refine ⟨g, W1, fun Q => ?_⟩
  rw [u150_24]
  simp only [u150_26, u150_29, u150_30, u150_31, u150_34, u150_35, u150_37, u150_38, u150_40, u150_41, u150_42, u150_43, u150_45, u150_46, eq_self, q_nl0, q_nlI, q_nlR, not_false_eq_true, q_nz0, q_nz1, q_zv0, q_zv1, q_tl1, q_tl0, q_wif, q_swc, q_swn, List.cons_append, List.nil_append, if_true, if_false, e10, e01, Bool.false_eq_true, f1, n1, n10, not_false_eq_true, e1, e2, q1]
  simp only [u150_49, u150_50, u150_52, u150_54, u150_55, u150_57, eq_self, q_nl0, q_nlI, q_nlR, not_false_eq_true, q_nz0, q_nz1, q_zv0, q_zv1, q_tl1, q_tl0, q_wif, q_swc, q_swn, List.cons_append, List.nil_append, if_true, if_false, e10, e01, Bool.false_eq_true, n10, not_false_eq_true, e3]
theorem l_digits (W : TW h T t) {v : Nat} (hv : v < 1000) (hl : T.length + 30 ≤ 1600) : ∃ g, TW g (T ++ (dg v ++ [32])) t ∧ ∀ Q : QT, wq X (d + 12) 150 0 [some (.ref 1), some (.int (nI T.length)), some (.int (nI v)), none, none] [] h Q = Q (some (.int (nI (T ++ (dg v ++ [32])).length))) g := by
  have n1 : ¬ (1 : Int32) = 0 := by decide
  have n10 : ¬ (10 : Int32) = 0 := by decide
  have n100 : ¬ (100 : Int32) = 0 := by decide
  have d1 : nI v / 1 = nI v := by
    rw [show (1 : Int32) = nI 1 from rfl, nI_div (by omega) (by decide), Nat.div_one]
  have d10 : nI v / 10 = nI (v / 10) := nI_div (b := 10) (by omega) (by decide)
  have d100 : nI v / 100 = nI (v / 100) := nI_div (b := 100) (by omega) (by decide)
  have m1 : (1 : Int32) * 10 = 10 := by decide
  have m10 : (10 : Int32) * 10 = 100 := by decide
  have i1 : nI 1 = (1 : Int32) := rfl
  have i10 : nI 10 = (10 : Int32) := rfl
  have i100 : nI 100 = (100 : Int32) := rfl
  have u0 : 1 / 10 = 0 := by decide
  have u1 : 10 / 10 = 1 := by decide
  have u2 : 100 / 10 = 10 := by decide
  have z0 : ((0 : Int32) < 0) = False := eq_false (by decide)
  -- behind the last digit
  have fin : ∀ {g : HT} {T' : List Nat}, TW g T' t → T'.length + 20 ≤ 1600 → ∃ g', TW g' (T' ++ [32]) t ∧ ∀ Q : QT, wq X (d + 12) 150 24 [some (.ref 1), some (.int (nI T.length)), some (.int (nI v)), some (.int (nI T'.length)), some (.int (nI (1 / 10)))] [] g Q = Q (some (.int (nI (T' ++ [32]).length))) g' := by
    intro g T' W' hl'
    obtain ⟨g', W2, q2⟩ := l_put (X := X) (d := d) W' wb_bl hl'
    refine ⟨g', W2, fun Q => ?_⟩
    rw [u0, nI_n0]
    simp only [u150_24, u150_26, u150_60, u150_61, u150_62, u150_65, eq_self, q_nl0, q_nlI, q_nlR, not_false_eq_true, q_nz0, q_nz1, q_zv0, q_zv1, q_tl1, q_tl0, q_wif, q_swc, q_swn, List.cons_append, List.nil_append, if_true, if_false, e10, e01, Bool.false_eq_true, z0, q2]
    simp only [u150_68, eq_self, q_nl0, q_nlI, q_nlR, not_false_eq_true, q_nz0, q_nz1, q_zv0, q_zv1, q_tl1, q_tl0, q_wif, q_swc, q_swn, List.cons_append, List.nil_append, if_true, if_false, e10, e01, Bool.false_eq_true]
  unfold dg
  by_cases c1 : v < 10
  · rw [if_pos c1]
    have f1 : (9 < nI v) = False := eq_false (by rw [show (9 : Int32) = nI 9 from rfl, nI_ltI (by decide) (by omega)]; omega)
    obtain ⟨g1, W1, q1⟩ := l_dg1 (X := X) (d := d) (x := nI T.length) W hv (Or.inl rfl) (by omega)
    obtain ⟨g2, W2, q2⟩ := fin W1 (by rw [List.length_append]; show T.length + 1 + 20 ≤ 1600; omega)
    rw [List.append_assoc] at W2 q2
    refine ⟨g2, W2, fun Q => ?_⟩
    simp only [u150_0, u150_1, u150_2, u150_3, u150_5, u150_6, u150_8, u150_9, u150_11, eq_self, q_nl0, q_nlI, q_nlR, not_false_eq_true, q_nz0, q_nz1, q_zv0, q_zv1, q_tl1, q_tl0, q_wif, q_swc, q_swn, List.cons_append, List.nil_append, if_true, if_false, e10, e01, Bool.false_eq_true, n1, not_false_eq_true, d1, f1]
    exact (q1 Q).trans (q2 Q)
  · rw [if_neg c1]
    have f1 : (9 < nI v) = True := eq_true (nI_lt (a := 9) (by omega) (by omega))
    by_cases c2 : v < 100
    · rw [if_pos c2]
      have f2 : (9 < nI (v / 10)) = False := eq_false (by rw [show (9 : Int32) = nI 9 from rfl, nI_ltI (by decide) (by omega)]; omega)
      obtain ⟨g0, W0, q0⟩ := l_dg1 (X := X) (d := d) (x := nI T.length) (u := 10) W hv (by omega) (by omega)
      rw [u1] at q0
      obtain ⟨g1, W1, q1⟩ := l_dg1 (X := X) (d := d) (x := nI T.length) (u := 1) W0 hv (by omega) (by rw [List.length_append]; show T.length + 1 + 20 ≤ 1600; omega)
      obtain ⟨g2, W2, q2⟩ := fin W1 (by rw [List.length_append, List.length_append]; show T.length + 1 + 1 + 20 ≤ 1600; omega)
      have eA : T ++ [48 + v / 10 % 10] ++ [48 + v / 1 % 10] ++ [32] = T ++ ([48 + v / 10 % 10, 48 + v / 1 % 10] ++ [32]) := by
        rw [List.append_assoc, List.append_assoc]
        rfl
      rw [eA] at W2 q2
      refine ⟨g2, W2, fun Q => ?_⟩
      rw [i10] at q0
      simp only [u150_0, u150_1, u150_2, u150_3, eq_self, q_nl0, q_nlI, q_nlR, not_false_eq_true, q_nz0, q_nz1, q_zv0, q_zv1, q_tl1, q_tl0, q_wif, q_swc, q_swn, List.cons_append, List.nil_append, if_true, if_false, e10, e01, Bool.false_eq_true]
      rw [u150_5]
      simp only [u150_6, u150_8, u150_9, u150_11, u150_14, u150_16, u150_18, u150_19, eq_self, q_nl0, q_nlI, q_nlR, not_false_eq_true, q_nz0, q_nz1, q_zv0, q_zv1, q_tl1, q_tl0, q_wif, q_swc, q_swn, List.cons_append, List.nil_append, if_true, if_false, e10, e01, Bool.false_eq_true, n1, not_false_eq_true, d1, f1, m1]
      simp only [u150_21, eq_self, q_nl0, q_nlI, q_nlR, not_false_eq_true, q_nz0, q_nz1, q_zv0, q_zv1, q_tl1, q_tl0, q_wif, q_swc, q_swn, List.cons_append, List.nil_append, if_true, if_false, e10, e01, Bool.false_eq_true]
      rw [u150_5]
      simp only [u150_6, u150_8, u150_9, u150_11, eq_self, q_nl0, q_nlI, q_nlR, not_false_eq_true, q_nz0, q_nz1, q_zv0, q_zv1, q_tl1, q_tl0, q_wif, q_swc, q_swn, List.cons_append, List.nil_append, if_true, if_false, e10, e01, Bool.false_eq_true, n10, not_false_eq_true, d10, f2]
      exact (q0 Q).trans ((q1 Q).trans (q2 Q))
    · rw [if_neg c2]
      have f2 : (9 < nI (v / 10)) = True := eq_true (nI_lt (a := 9) (by omega) (by omega))
      have f3 : (9 < nI (v / 100)) = False := eq_false (by rw [show (9 : Int32) = nI 9 from rfl, nI_ltI (by decide) (by omega)]; omega)
      obtain ⟨g0, W0, q0⟩ := l_dg1 (X := X) (d := d) (x := nI T.length) (u := 100) W hv (by omega) (by omega)
      rw [u2] at q0
      obtain ⟨g1, W1, q1⟩ := l_dg1 (X := X) (d := d) (x := nI T.length) (u := 10) W0 hv (by omega) (by rw [List.length_append]; show T.length + 1 + 20 ≤ 1600; omega)
      rw [u1] at q1
      obtain ⟨g2, W2, q2⟩ := l_dg1 (X := X) (d := d) (x := nI T.length) (u := 1) W1 hv (by omega) (by rw [List.length_append, List.length_append]; show T.length + 1 + 1 + 20 ≤ 1600; omega)
      obtain ⟨g3, W3, q3⟩ := fin W2 (by rw [List.length_append, List.length_append, List.length_append]; show T.length + 1 + 1 + 1 + 20 ≤ 1600; omega)
      have eA : T ++ [48 + v / 100 % 10] ++ [48 + v / 10 % 10] ++ [48 + v / 1 % 10] ++ [32] = T ++ ([48 + v / 100 % 10, 48 + v / 10 % 10, 48 + v / 1 % 10] ++ [32]) := by
        rw [List.append_assoc, List.append_assoc, List.append_assoc]
        rfl
      rw [eA] at W3 q3
      refine ⟨g3, W3, fun Q => ?_⟩
      rw [i100] at q0
      simp only [u150_0, u150_1, u150_2, u150_3, eq_self, q_nl0, q_nlI, q_nlR, not_false_eq_true, q_nz0, q_nz1, q_zv0, q_zv1, q_tl1, q_tl0, q_wif, q_swc, q_swn, List.cons_append, List.nil_append, if_true, if_false, e10, e01, Bool.false_eq_true]
      rw [u150_5]
      simp only [u150_6, u150_8, u150_9, u150_11, u150_14, u150_16, u150_18, u150_19, eq_self, q_nl0, q_nlI, q_nlR, not_false_eq_true, q_nz0, q_nz1, q_zv0, q_zv1, q_tl1, q_tl0, q_wif, q_swc, q_swn, List.cons_append, List.nil_append, if_true, if_false, e10, e01, Bool.false_eq_true, n1, not_false_eq_true, d1, f1, m1]
      simp only [u150_21, eq_self, q_nl0, q_nlI, q_nlR, not_false_eq_true, q_nz0, q_nz1, q_zv0, q_zv1, q_tl1, q_tl0, q_wif, q_swc, q_swn, List.cons_append, List.nil_append, if_true, if_false, e10, e01, Bool.false_eq_true]
      rw [u150_5]
      simp only [u150_6, u150_8, u150_9, u150_11, u150_14, u150_16, u150_18, u150_19, eq_self, q_nl0, q_nlI, q_nlR, not_false_eq_true, q_nz0, q_nz1, q_zv0, q_zv1, q_tl1, q_tl0, q_wif, q_swc, q_swn, List.cons_append, List.nil_append, if_true, if_false, e10, e01, Bool.false_eq_true, n10, not_false_eq_true, d10, f2, m10]
      simp only [u150_21, eq_self, q_nl0, q_nlI, q_nlR, not_false_eq_true, q_nz0, q_nz1, q_zv0, q_zv1, q_tl1, q_tl0, q_wif, q_swc, q_swn, List.cons_append, List.nil_append, if_true, if_false, e10, e01, Bool.false_eq_true]
      rw [u150_5]
      simp only [u150_6, u150_8, u150_9, u150_11, eq_self, q_nl0, q_nlI, q_nlR, not_false_eq_true, q_nz0, q_nz1, q_zv0, q_zv1, q_tl1, q_tl0, q_wif, q_swc, q_swn, List.cons_append, List.nil_append, if_true, if_false, e10, e01, Bool.false_eq_true, n100, not_false_eq_true, d100, f3]
      exact (q0 Q).trans ((q1 Q).trans ((q2 Q).trans (q3 Q)))
end SAYS
