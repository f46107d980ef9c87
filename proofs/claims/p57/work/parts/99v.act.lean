/-! THE LAW'S act(o, t, c, d): done by the class and in the law's row alike -/
theorem and7 (x : Int32) : ∃ k, k < 8 ∧ x &&& 7 = nI k := by
  refine ⟨(x.toBitVec &&& 7#32).toNat, ?_, ?_⟩
  · rw [BitVec.toNat_and]
    exact Nat.lt_of_le_of_lt Nat.and_le_right (by decide)
  · apply Int32.toBitVec_inj.mp
    rw [Int32.toBitVec_and]
    simp [nI, Int32.toBitVec_ofNat']
theorem and3 (x : Int32) : ∃ k, k < 4 ∧ x &&& 3 = nI k := by
  refine ⟨(x.toBitVec &&& 3#32).toNat, ?_, ?_⟩
  · rw [BitVec.toNat_and]
    exact Nat.lt_of_le_of_lt Nat.and_le_right (by decide)
  · apply Int32.toBitVec_inj.mp
    rw [Int32.toBitVec_and]
    simp [nI, Int32.toBitVec_ofNat']
theorem and_off : ∀ n, n < 128 → ∀ m, m < 7 → ¬ n.testBit m = true → n &&& (127 ^^^ 2 ^ m) = n := by decide +kernel
def DY (A : Nat → Int32) (n : Nat) : Prop := ∃ y, y ≤ n ∧ A 18 = nI y
theorem Lo_hC {h : HT} {v : Nat → Int32} : Lo h (hC h 196 v) := ⟨rfl, fun c k z => gI_hCo (by omega)⟩
section ACT
variable {X : XT} {d : Nat} {h : HT} {τ : CT} {b : Nat} {C A : Nat → Int32} {j : Nat} {A0 : Nat → Int32} {Z : Option (Nat → Int32)}
theorem ww_hC (v : Nat → Int32) (W : WW h τ b C A j A0 Z) : WW (hC h 196 v) τ b v A j A0 Z := by
  obtain ⟨⟨bh, ah, w, F, B, S, L, V, x, y, c, o, f, u⟩, T, r⟩ := W
  exact ⟨⟨bh, ah, w, F, B, S, L, V, x, y, CI_lo Lo_hC c, o, f, u⟩, TR_hC T, funext fun k => gI_hC⟩
theorem w_no {M : Nat} {L : LT} {v : Int32} (W : WW h τ b C A j A0 Z) (P : ∀ (bh ah : Nat) (w' : Nat → Nat → Int32) (F : Nat → Bool) (B S : Nat → Nat → Int32) (L' : Nat) (V : Nat → Nat) (x y : Int32), CI h (τ, A, bh, ah, w', F, B, 0, 0, S, L', V, x, y) → OKs (τ, A, bh, ah, w', F, B, 0, 0, S, L', V, x, y) → An X d M L h v) : ∃ g, WW g τ b C A j A0 Z ∧ ∀ Q : QT, wq X d M 0 L [] h Q = Q (some (.int v)) g := by
  have W0 := W
  obtain ⟨⟨bh, ah, w', F, B, S, L, V, x, y, c, o, f, u⟩, T, r⟩ := W
  exact w_q W0 (P _ _ _ _ _ _ _ _ _ _ c o)
theorem ixB_no {m k : Nat} (hm : k ≤ m) (h2 : m < 2 ^ 31) : ixB (nI m) k = false := by
  unfold ixB
  rw [nI_toInt h2]
  exact decide_eq_false (by omega)
theorem LV_cg {A A' : Nat → Int32} (e : ∀ m, m < τ 0 1 → A' m = A m) (l : LV τ A) : LV τ A' := fun m hm => by
  rw [e m hm]
  exact l m hm
theorem LV_day (H : cOk τ) (l : LV τ A) : LV τ (aD τ A) := fun m hm => by
  have h7 := o_mn H
  obtain ⟨v, hv, e⟩ := l m hm
  rw [aD_loaf H (by omega), aAge_loaf (by omega)]
  by_cases z : m < τ 0 1 ∧ (aG τ A).testBit m = true ∧ 0 < A m
  · rw [if_pos z, e]
    have hz := z.2.2
    rw [e] at hz
    cases v with
    | zero => exact absurd hz (by decide)
    | succ v => exact ⟨v, by omega, nI_dn⟩
  · rw [if_neg z]
    exact ⟨v, hv, e⟩
theorem DY_day (H : cOk τ) {n : Nat} (D : DY A n) : DY (aD τ A) (n + 1) := by
  obtain ⟨y, hy, e⟩ := D
  exact ⟨y + 1, by omega, by rw [aD_18 H, e]; exact nI_1 _⟩
theorem l_act (hX : X.2 100000 ≠ 0) (L : LB τ b) (W : WW h τ b A A j A0 Z) (lv : LV τ A) {n : Nat} (dy : DY A n) (hn9 : n < 999) (w : Int32) : ∃ g A1 Z1, WW g τ b A1 A1 j A0 Z1 ∧ LV τ A1 ∧ DY A1 (n + 1) ∧ ∀ Q : QT, wq X (d + 11) 187 0 [some (.ref 1), some (.ref 195), some (.ref 196), some (.int w), none, none, none, none, none, none] [] h Q = Q (some (.int 1)) g := by
  have h5 := L.2.2.1
  have h7 := o_mn L.1
  have s6 : m_sh (KS X) 196 = (20, 21) := sh_196 hX
  have K := ww_a W
  have hn := aN_lt L.1 K
  have h14 := K.1.1
  have hm1 : m_gI h 195 1 = nI (τ 0 1) := (ww_T W).1.2.1
  have rw_ : ∀ k, m_gI h 196 k = A k := fun k => congrFun (ww_C W) k
  have eh := hC_as (ww_C W)
  obtain ⟨k, hk, ek⟩ := and7 w
  obtain ⟨m, hm, em⟩ := and7 (w >>> 3)
  have dy1 : DY A (n + 1) := by
    obtain ⟨y, hy, e⟩ := dy
    exact ⟨y, by omega, e⟩
  have lt1 : (nI m < nI (τ 0 1)) = (m < τ 0 1) := nI_ltB (by omega) (by omega)
  have hb := bit_i hn (show m < 8 by omega)
  have start : ∀ Q : QT, wq X (d + 11) 187 0 [some (.ref 1), some (.ref 195), some (.ref 196), some (.int w), none, none, none, none, none, none] [] h Q = wq X (d + 11) 187 49 [some (.ref 1), some (.ref 195), some (.ref 196), some (.int w), some (.int (nI k)), some (.int (nI m)), some (.int (if m < τ 0 1 then 1 else 0)), some (.int (if (aN A).testBit m = true then 1 else 0)), none, none] [] (hC h 196 A) Q := by
    intro Q
    rw [← eh]
    have e3 : w >>> (3 &&& 31) = w >>> 3 := by rw [show (3 : Int32) &&& 31 = 3 from by decide]
    by_cases z : m < τ 0 1
    · by_cases y : (aN A).testBit m = true
      · simp only [u187_0, u187_1, u187_3, u187_4, u187_6, u187_7, u187_8, u187_9, u187_11, u187_12, u187_14, u187_16, u187_17, u187_18, u187_19, u187_22, u187_23, u187_26, u187_27, u187_29, u187_30, u187_32, u187_33, u187_35, u187_36, u187_37, u187_38, u187_39, u187_42, u187_43, u187_46, u187_47, eq_self, q_nl0, q_nlI, q_nlR, not_false_eq_true, q_nz0, q_nz1, q_zv0, q_zv1, q_tl1, q_tl0, q_wif, q_swc, q_swn, List.cons_append, List.nil_append, if_true, if_false, e10, e01, Bool.false_eq_true, sh_195, s6, t_in1, t_cl1, hm1, c_in14, cl14, rw_, h14, ek, e3, em, lt1, hb, z, y]
      · simp only [u187_0, u187_1, u187_3, u187_4, u187_6, u187_7, u187_8, u187_9, u187_11, u187_12, u187_14, u187_16, u187_17, u187_18, u187_19, u187_22, u187_23, u187_26, u187_27, u187_29, u187_30, u187_32, u187_33, u187_35, u187_36, u187_37, u187_38, u187_39, u187_42, u187_43, u187_46, u187_47, eq_self, q_nl0, q_nlI, q_nlR, not_false_eq_true, q_nz0, q_nz1, q_zv0, q_zv1, q_tl1, q_tl0, q_wif, q_swc, q_swn, List.cons_append, List.nil_append, if_true, if_false, e10, e01, Bool.false_eq_true, sh_195, s6, t_in1, t_cl1, hm1, c_in14, cl14, rw_, h14, ek, e3, em, lt1, hb, z, y]
    · by_cases y : (aN A).testBit m = true
      · simp only [u187_0, u187_1, u187_3, u187_4, u187_6, u187_7, u187_8, u187_9, u187_11, u187_12, u187_14, u187_16, u187_17, u187_18, u187_19, u187_22, u187_23, u187_26, u187_27, u187_29, u187_30, u187_32, u187_33, u187_35, u187_36, u187_37, u187_38, u187_39, u187_42, u187_43, u187_46, u187_47, eq_self, q_nl0, q_nlI, q_nlR, not_false_eq_true, q_nz0, q_nz1, q_zv0, q_zv1, q_tl1, q_tl0, q_wif, q_swc, q_swn, List.cons_append, List.nil_append, if_true, if_false, e10, e01, Bool.false_eq_true, sh_195, s6, t_in1, t_cl1, hm1, c_in14, cl14, rw_, h14, ek, e3, em, lt1, hb, z, y]
      · simp only [u187_0, u187_1, u187_3, u187_4, u187_6, u187_7, u187_8, u187_9, u187_11, u187_12, u187_14, u187_16, u187_17, u187_18, u187_19, u187_22, u187_23, u187_26, u187_27, u187_29, u187_30, u187_32, u187_33, u187_35, u187_36, u187_37, u187_38, u187_39, u187_42, u187_43, u187_46, u187_47, eq_self, q_nl0, q_nlI, q_nlR, not_false_eq_true, q_nz0, q_nz1, q_zv0, q_zv1, q_tl1, q_tl0, q_wif, q_swc, q_swn, List.cons_append, List.nil_append, if_true, if_false, e10, e01, Bool.false_eq_true, sh_195, s6, t_in1, t_cl1, hm1, c_in14, cl14, rw_, h14, ek, e3, em, lt1, hb, z, y]
  have k2 : (nI k < 2) = (k < 2) := nI_ltB (b := 2) (by omega) (by decide)
  have k2e : (nI k = 2) = (k = 2) := nI_eqB (b := 2) (by omega) (by decide)
  have k3e : (nI k = 3) = (k = 3) := nI_eqB (b := 3) (by omega) (by decide)
  have k4e : (nI k = 4) = (k = 4) := nI_eqB (b := 4) (by omega) (by decide)
  have nb : ¬ m < τ 0 1 → (aN A).testBit m = false := fun z => bit_ge K.1.2 (by omega)
  have c1 : m_in (nI m) 21 = true := c_in (by omega)
  have c2 : (nI m).toNatClampNeg = m := c_cl (by omega)
  have W' : WW (hC h 196 A) τ b A A j A0 Z := ww_hC A W
  by_cases kl : k < 2
  · -- one leaves
    by_cases z : m < τ 0 1
    · by_cases y : (aN A).testBit m = true
      · obtain ⟨g, W1, q1⟩ := w_no (ww_hC (up A 14 (nI (aN A ||| 2 ^ m))) W) (fun _ _ _ _ _ _ _ _ _ _ c o => a_leaveO (X := X) (d := d) c o z y)
        have er : up A 14 (nI (aN A ||| 2 ^ m)) = A := by
          funext i
          by_cases e : i = 14
          · rw [e, up_s, or_in y, h14]
          · exact up_o e
        rw [er] at W1
        refine ⟨g, A, Z, W1, lv, dy1, fun Q => ?_⟩
        rw [start]
        simp only [u187_49, u187_51, u187_52, u187_55, u187_57, u187_60, u187_61, u187_63, u187_64, u187_65, u187_66, u187_68, u187_69, u187_70, u187_71, u187_72, u187_74, eq_self, q_nl0, q_nlI, q_nlR, not_false_eq_true, q_nz0, q_nz1, q_zv0, q_zv1, q_tl1, q_tl0, q_wif, q_swc, q_swn, List.cons_append, List.nil_append, if_true, if_false, e10, e01, Bool.false_eq_true, sh_1, k2, kl, z, e10, s6, c_in14, cl14, gI_hC, sI_hC, h14, nI_sh m hm, nI_or, q1]
        simp only [u187_77, u187_79, u187_82, u187_84, u187_87, u187_88, u187_90, u187_91, u187_94, u187_97, u187_98, u187_101, u187_102, u187_105, u187_106, eq_self, q_nl0, q_nlI, q_nlR, not_false_eq_true, q_nz0, q_nz1, q_zv0, q_zv1, q_tl1, q_tl0, q_wif, q_swc, q_swn, List.cons_append, List.nil_append, if_true, if_false, e10, e01, Bool.false_eq_true, z, y, e10]
      · obtain ⟨g, W1, q1⟩ := w_leave (X := X) (d := d) (ww_hC (plA A (2 ^ m)) W) z y
        refine ⟨g, plA A (2 ^ m), some A, W1, LV_cg (fun i hi => plA_o (by omega)) lv, ?_, fun Q => ?_⟩
        · obtain ⟨yy, hy, e⟩ := dy1
          exact ⟨yy, hy, (plA_o (by decide)).trans e⟩
        · have ho := or_128 hn (p2_lt (show m < 7 by omega))
          have er : up A 14 (nI (aN A ||| 2 ^ m)) = plA A (2 ^ m) := rfl
          have rw1 : m_gI g 196 14 = nI (aN A ||| 2 ^ m) := (congrFun (ww_C W1) 14).trans up_s
          rw [start]
          simp only [u187_49, u187_51, u187_52, u187_55, u187_57, u187_60, u187_61, u187_63, u187_64, u187_65, u187_66, u187_68, u187_69, u187_70, u187_71, u187_72, u187_74, eq_self, q_nl0, q_nlI, q_nlR, not_false_eq_true, q_nz0, q_nz1, q_zv0, q_zv1, q_tl1, q_tl0, q_wif, q_swc, q_swn, List.cons_append, List.nil_append, if_true, if_false, e10, e01, Bool.false_eq_true, sh_1, k2, kl, z, e10, s6, c_in14, cl14, gI_hC, sI_hC, h14, nI_sh m hm, nI_or, er, q1]
          simp only [u187_77, u187_79, u187_82, u187_84, u187_87, u187_88, u187_90, u187_91, u187_94, u187_97, u187_98, u187_101, u187_102, u187_105, u187_106, eq_self, q_nl0, q_nlI, q_nlR, not_false_eq_true, q_nz0, q_nz1, q_zv0, q_zv1, q_tl1, q_tl0, q_wif, q_swc, q_swn, List.cons_append, List.nil_append, if_true, if_false, e10, e01, Bool.false_eq_true, z, y, e10, s6, c_in14, cl14, rw1, c_bitCount ho]
    · obtain ⟨g, W1, q1⟩ := w_no W' (fun _ _ _ _ _ _ _ _ _ _ c o => a_leaveN (X := X) (d := d) (x := nI m) c o (ixB_no (by omega) (by omega)))
      refine ⟨g, A, Z, W1, lv, dy1, fun Q => ?_⟩
      rw [start]
      simp only [u187_49, u187_51, u187_52, u187_55, u187_57, u187_60, u187_61, u187_63, u187_64, u187_65, u187_66, u187_68, u187_69, u187_70, u187_71, u187_72, u187_74, eq_self, q_nl0, q_nlI, q_nlR, not_false_eq_true, q_nz0, q_nz1, q_zv0, q_zv1, q_tl1, q_tl0, q_wif, q_swc, q_swn, List.cons_append, List.nil_append, if_true, if_false, e10, e01, Bool.false_eq_true, sh_1, k2, kl, z, q1]
      simp only [u187_77, u187_79, u187_82, u187_84, u187_87, u187_88, u187_90, u187_91, u187_94, u187_97, u187_98, u187_101, u187_102, u187_105, u187_106, eq_self, q_nl0, q_nlI, q_nlR, not_false_eq_true, q_nz0, q_nz1, q_zv0, q_zv1, q_tl1, q_tl0, q_wif, q_swc, q_swn, List.cons_append, List.nil_append, if_true, if_false, e10, e01, Bool.false_eq_true, z]
  · by_cases ke2 : k = 2
    · -- one goes home
      by_cases z : m < τ 0 1
      · have d1 : m_in (nI (7 + m)) 21 = true := c_in (by omega)
        have d2 : (nI (7 + m)).toNatClampNeg = 7 + m := c_cl (by omega)
        have hno := nI_not _ hn _ (p2_lt (show m < 7 by omega))
        have s7 : ∀ v, up A 14 v (7 + m) = A (7 + m) := fun v => up_o (by omega)
        by_cases y : (aN A).testBit m = true
        · obtain ⟨g, W1, q1⟩ := w_home (X := X) (d := d) (ww_hC (up (up A 14 (nI (aN A &&& (127 ^^^ 2 ^ m)))) (7 + m) 0) W) z y
          have ea : ∀ i, i < 20 → up (up A 14 (nI (aN A &&& (127 ^^^ 2 ^ m)))) (7 + m) 0 i = aHome τ A (aN A) (2 ^ m) i := by
            intro i hi
            show (if i = 7 + m then 0 else if i = 14 then _ else A i) = if i = 14 then _ else if 7 ≤ i ∧ i < 7 + τ 0 1 ∧ (2 ^ m).testBit (i - 7) = true then 0 else A i
            by_cases e : i = 7 + m
            · have e2 : (2 ^ m).testBit (i - 7) = true := by
                rw [show i - 7 = m by omega, Nat.testBit_two_pow]
                exact decide_eq_true rfl
              rw [if_pos e, if_neg (by omega), if_pos ⟨by omega, by omega, e2⟩]
            · rw [if_neg e]
              by_cases e14 : i = 14
              · rw [if_pos e14, if_pos e14]
              · rw [if_neg e14, if_neg e14, if_neg]
                rintro ⟨i1, i2, i3⟩
                rw [Nat.testBit_two_pow] at i3
                have := of_decide_eq_true i3
                omega
          refine ⟨g, _, some A, ww_A ea W1, LV_cg (fun i hi => (up_o (by omega)).trans (up_o (by omega))) lv, ?_, fun Q => ?_⟩
          · obtain ⟨yy, hy, e⟩ := dy1
            exact ⟨yy, hy, (up_o (by omega)).trans ((up_o (by decide)).trans e)⟩
          · rw [start]
            simp only [u187_49, u187_51, u187_52, u187_55, u187_57, u187_60, u187_61, u187_63, u187_64, u187_65, u187_66, u187_68, u187_69, u187_70, u187_71, u187_72, u187_74, u187_77, u187_79, u187_82, u187_84, u187_87, u187_88, u187_90, u187_91, u187_94, u187_97, u187_98, u187_101, u187_102, u187_105, u187_106, u187_107, u187_109, u187_110, u187_113, u187_115, u187_118, u187_120, u187_123, u187_124, u187_126, u187_128, u187_129, u187_130, u187_133, u187_134, u187_136, u187_138, u187_141, u187_142, u187_144, u187_145, u187_146, u187_147, u187_149, u187_150, u187_151, u187_152, u187_153, u187_154, u187_155, u187_157, u187_159, u187_160, u187_161, u187_162, u187_163, u187_165, eq_self, q_nl0, q_nlI, q_nlR, not_false_eq_true, q_nz0, q_nz1, q_zv0, q_zv1, q_tl1, q_tl0, q_wif, q_swc, q_swn, List.cons_append, List.nil_append, if_true, if_false, e10, e01, Bool.false_eq_true, sh_1, k2, kl, k2e, eq_true ke2, z, y, e10, s6, c_in14, cl14, gI_hC, sI_hC, h14, nI_sh m hm, hno, l_a7, d1, d2, q1]
            simp only [u187_168, u187_170, u187_173, u187_174, u187_177, u187_178, eq_self, q_nl0, q_nlI, q_nlR, not_false_eq_true, q_nz0, q_nz1, q_zv0, q_zv1, q_tl1, q_tl0, q_wif, q_swc, q_swn, List.cons_append, List.nil_append, if_true, if_false, e10, e01, Bool.false_eq_true]
        · obtain ⟨g, W1, q1⟩ := w_no (ww_hC (up (up A 14 (nI (aN A &&& (127 ^^^ 2 ^ m)))) (7 + m) 0) W) (fun _ _ _ _ _ _ _ _ _ _ c o => a_homeI (X := X) (d := d) c o z y)
          have er : up (up A 14 (nI (aN A &&& (127 ^^^ 2 ^ m)))) (7 + m) 0 = A := by
            funext i
            by_cases e : i = 7 + m
            · obtain ⟨yy, _, _, hd⟩ := K.2.2.2
              obtain ⟨x, _, ex, e0⟩ := hd m z
              rw [e, up_s, ex, e0 (by simpa using y)]
              rfl
            · rw [up_o e]
              by_cases e14 : i = 14
              · rw [e14, up_s, and_off _ hn m (by omega) y, h14]
              · exact up_o e14
          rw [er] at W1
          refine ⟨g, A, Z, W1, lv, dy1, fun Q => ?_⟩
          rw [start]
          simp only [u187_49, u187_51, u187_52, u187_55, u187_57, u187_60, u187_61, u187_63, u187_64, u187_65, u187_66, u187_68, u187_69, u187_70, u187_71, u187_72, u187_74, u187_77, u187_79, u187_82, u187_84, u187_87, u187_88, u187_90, u187_91, u187_94, u187_97, u187_98, u187_101, u187_102, u187_105, u187_106, u187_107, u187_109, u187_110, u187_113, u187_115, u187_118, u187_120, u187_123, u187_124, u187_126, u187_128, u187_129, u187_130, u187_133, u187_134, u187_136, u187_138, u187_141, u187_142, u187_144, u187_145, u187_146, u187_147, u187_149, u187_150, u187_151, u187_152, u187_153, u187_154, u187_155, u187_157, u187_159, u187_160, u187_161, u187_162, u187_163, u187_165, eq_self, q_nl0, q_nlI, q_nlR, not_false_eq_true, q_nz0, q_nz1, q_zv0, q_zv1, q_tl1, q_tl0, q_wif, q_swc, q_swn, List.cons_append, List.nil_append, if_true, if_false, e10, e01, Bool.false_eq_true, sh_1, k2, kl, k2e, eq_true ke2, z, y, e10, s6, c_in14, cl14, gI_hC, sI_hC, h14, nI_sh m hm, hno, l_a7, d1, d2, q1]
          simp only [u187_168, u187_170, u187_173, u187_174, u187_177, u187_178, eq_self, q_nl0, q_nlI, q_nlR, not_false_eq_true, q_nz0, q_nz1, q_zv0, q_zv1, q_tl1, q_tl0, q_wif, q_swc, q_swn, List.cons_append, List.nil_append, if_true, if_false, e10, e01, Bool.false_eq_true]
      · obtain ⟨g, W1, q1⟩ := w_no W' (fun _ _ _ _ _ _ _ _ _ _ c o => a_homeN (X := X) (d := d) (x := nI m) c o (ixB_no (by omega) (by omega)))
        refine ⟨g, A, Z, W1, lv, dy1, fun Q => ?_⟩
        rw [start]
        simp only [u187_49, u187_51, u187_52, u187_55, u187_57, u187_60, u187_61, u187_63, u187_64, u187_65, u187_66, u187_68, u187_69, u187_70, u187_71, u187_72, u187_74, u187_77, u187_79, u187_82, u187_84, u187_87, u187_88, u187_90, u187_91, u187_94, u187_97, u187_98, u187_101, u187_102, u187_105, u187_106, u187_107, u187_109, u187_110, u187_113, u187_115, u187_118, u187_120, u187_123, u187_124, u187_126, u187_128, u187_129, u187_130, u187_133, u187_134, u187_136, u187_138, u187_141, u187_142, u187_144, u187_145, u187_146, u187_147, u187_149, u187_150, u187_151, u187_152, u187_153, u187_154, u187_155, u187_157, u187_159, u187_160, u187_161, u187_162, u187_163, u187_165, eq_self, q_nl0, q_nlI, q_nlR, not_false_eq_true, q_nz0, q_nz1, q_zv0, q_zv1, q_tl1, q_tl0, q_wif, q_swc, q_swn, List.cons_append, List.nil_append, if_true, if_false, e10, e01, Bool.false_eq_true, sh_1, k2, kl, k2e, eq_true ke2, z, q1]
        simp only [u187_168, u187_170, u187_173, u187_174, u187_177, u187_178, eq_self, q_nl0, q_nlI, q_nlR, not_false_eq_true, q_nz0, q_nz1, q_zv0, q_zv1, q_tl1, q_tl0, q_wif, q_swc, q_swn, List.cons_append, List.nil_append, if_true, if_false, e10, e01, Bool.false_eq_true]
    · by_cases ke3 : k = 3
      · -- loaves are given
        obtain ⟨v, hv, ev⟩ := and7 (w >>> 6)
        have e6 : w >>> (6 &&& 31) = w >>> 6 := by rw [show (6 : Int32) &&& 31 = 6 from by decide]
        have a1 : (1 : Int32) + nI v = nI (1 + v) := nI_add 1 v
        have v1 : ¬ nI (1 + v) < 1 := by
          rw [show (1 : Int32) = nI 1 from rfl, nI_ltI (by omega) (by decide)]
          omega
        have v2 : ¬ 99 < nI (1 + v) := by
          rw [show (99 : Int32) = nI 99 from rfl, nI_ltI (by decide) (by omega)]
          omega
        by_cases z : m < τ 0 1
        · obtain ⟨l, hl, el⟩ := lv m z
          have em1 : (if A m + nI (1 + v) < 99 then A m + nI (1 + v) else 99) = if 99 < A m + nI (1 + v) then 99 else A m + nI (1 + v) := by
            rw [el, nI_add, show (99 : Int32) = nI 99 from rfl]
            have x1 : (nI (l + (1 + v)) < nI 99) = (l + (1 + v) < 99) := nI_ltB (by omega) (by decide)
            have x2 : (nI 99 < nI (l + (1 + v))) = (99 < l + (1 + v)) := nI_ltB (by decide) (by omega)
            simp only [x1, x2]
            by_cases q1 : l + (1 + v) < 99
            · rw [if_pos q1, if_neg (by omega)]
            · rw [if_neg q1]
              by_cases q2 : 99 < l + (1 + v)
              · rw [if_pos q2]
              · rw [if_neg q2, show l + (1 + v) = 99 by omega]
          have er : up A m (if A m + nI (1 + v) < 99 then A m + nI (1 + v) else 99) = upL A m (nI (1 + v)) := by
            rw [em1]
            rfl
          obtain ⟨g, W1, q1⟩ := w_give (X := X) (d := d) (v := nI (1 + v)) (ww_hC (upL A m (nI (1 + v))) W) z v1 v2
          have rw1 : m_gI g 196 m = upL A m (nI (1 + v)) m := congrFun (ww_C W1) m
          refine ⟨g, upL A m (nI (1 + v)), some A, W1, fun i hi => ?_, ?_, fun Q => ?_⟩
          · by_cases e : i = m
            · rw [e]
              have : upL A m (nI (1 + v)) m = if 99 < A m + nI (1 + v) then 99 else A m + nI (1 + v) := up_s
              rw [this, el, nI_add, show (99 : Int32) = nI 99 from rfl]
              have x2 : (nI 99 < nI (l + (1 + v))) = (99 < l + (1 + v)) := nI_ltB (by decide) (by omega)
              by_cases q2 : 99 < l + (1 + v)
              · rw [if_pos (x2.mpr q2)]
                exact ⟨99, by omega, rfl⟩
              · rw [if_neg (fun e => q2 (x2.mp e))]
                exact ⟨_, by omega, rfl⟩
            · rw [upL_o e]
              exact lv i hi
          · obtain ⟨yy, hy, e⟩ := dy1
            exact ⟨yy, hy, (upL_o (by omega)).trans e⟩
          · rw [start]
            simp only [u187_49, u187_51, u187_52, u187_55, u187_57, u187_60, u187_61, u187_63, u187_64, u187_65, u187_66, u187_68, u187_69, u187_70, u187_71, u187_72, u187_74, u187_77, u187_79, u187_82, u187_84, u187_87, u187_88, u187_90, u187_91, u187_94, u187_97, u187_98, u187_101, u187_102, u187_105, u187_106, u187_107, u187_109, u187_110, u187_113, u187_115, u187_118, u187_120, u187_123, u187_124, u187_126, u187_128, u187_129, u187_130, u187_133, u187_134, u187_136, u187_138, u187_141, u187_142, u187_144, u187_145, u187_146, u187_147, u187_149, u187_150, u187_151, u187_152, u187_153, u187_154, u187_155, u187_157, u187_159, u187_160, u187_161, u187_162, u187_163, u187_165, u187_168, u187_170, u187_173, u187_174, u187_177, u187_178, u187_179, u187_181, u187_182, u187_185, u187_186, u187_187, u187_189, u187_190, u187_192, u187_193, u187_194, u187_196, u187_198, u187_201, u187_202, u187_204, u187_206, u187_207, u187_209, u187_210, u187_212, u187_213, u187_216, u187_217, u187_218, u187_220, u187_222, eq_self, q_nl0, q_nlI, q_nlR, not_false_eq_true, q_nz0, q_nz1, q_zv0, q_zv1, q_tl1, q_tl0, q_wif, q_swc, q_swn, List.cons_append, List.nil_append, if_true, if_false, e10, e01, Bool.false_eq_true, sh_1, k2, kl, k2e, eq_false ke2, k3e, eq_true ke3, z, e10, s6, c1, c2, gI_hC, sI_hC, e6, ev, a1, er, q1]
            simp only [u187_225, u187_227, u187_230, u187_231, u187_233, u187_234, u187_237, u187_238, u187_241, u187_242, u187_245, u187_246, eq_self, q_nl0, q_nlI, q_nlR, not_false_eq_true, q_nz0, q_nz1, q_zv0, q_zv1, q_tl1, q_tl0, q_wif, q_swc, q_swn, List.cons_append, List.nil_append, if_true, if_false, e10, e01, Bool.false_eq_true, z, e10, s6, c1, c2, rw1]
        · obtain ⟨g, W1, q1⟩ := w_no W' (fun _ _ _ _ _ _ _ _ _ _ c o => a_giveN (X := X) (d := d) (x := nI m) (v := nI (1 + v)) c o (ixB_no (by omega) (by omega)))
          refine ⟨g, A, Z, W1, lv, dy1, fun Q => ?_⟩
          rw [start]
          simp only [u187_49, u187_51, u187_52, u187_55, u187_57, u187_60, u187_61, u187_63, u187_64, u187_65, u187_66, u187_68, u187_69, u187_70, u187_71, u187_72, u187_74, u187_77, u187_79, u187_82, u187_84, u187_87, u187_88, u187_90, u187_91, u187_94, u187_97, u187_98, u187_101, u187_102, u187_105, u187_106, u187_107, u187_109, u187_110, u187_113, u187_115, u187_118, u187_120, u187_123, u187_124, u187_126, u187_128, u187_129, u187_130, u187_133, u187_134, u187_136, u187_138, u187_141, u187_142, u187_144, u187_145, u187_146, u187_147, u187_149, u187_150, u187_151, u187_152, u187_153, u187_154, u187_155, u187_157, u187_159, u187_160, u187_161, u187_162, u187_163, u187_165, u187_168, u187_170, u187_173, u187_174, u187_177, u187_178, u187_179, u187_181, u187_182, u187_185, u187_186, u187_187, u187_189, u187_190, u187_192, u187_193, u187_194, u187_196, u187_198, u187_201, u187_202, u187_204, u187_206, u187_207, u187_209, u187_210, u187_212, u187_213, u187_216, u187_217, u187_218, u187_220, u187_222, eq_self, q_nl0, q_nlI, q_nlR, not_false_eq_true, q_nz0, q_nz1, q_zv0, q_zv1, q_tl1, q_tl0, q_wif, q_swc, q_swn, List.cons_append, List.nil_append, if_true, if_false, e10, e01, Bool.false_eq_true, sh_1, k2, kl, k2e, eq_false ke2, k3e, eq_true ke3, z, e6, ev, a1, q1]
          simp only [u187_225, u187_227, u187_230, u187_231, u187_233, u187_234, u187_237, u187_238, u187_241, u187_242, u187_245, u187_246, eq_self, q_nl0, q_nlI, q_nlR, not_false_eq_true, q_nz0, q_nz1, q_zv0, q_zv1, q_tl1, q_tl0, q_wif, q_swc, q_swn, List.cons_append, List.nil_append, if_true, if_false, e10, e01, Bool.false_eq_true, z]
      · by_cases ke4 : k = 4
        · -- a demand is granted
          obtain ⟨q, hq, eq_⟩ := and3 (w >>> 6)
          have e6 : w >>> (6 &&& 31) = w >>> 6 := by rw [show (6 : Int32) &&& 31 = 6 from by decide]
          obtain ⟨g0, hg0, eg⟩ := K.2.1
          have hd3 := L.2.2.2.1
          have hg1 : g0 < 128 := Nat.lt_of_lt_of_le hg0 (p2_7 (by omega))
          have hbq := bit_i hg1 (show q < 8 by omega)
          have hm2 : m_gI (hC h 196 A) 195 2 = nI (τ 0 2) := (ww_T W').1.2.2.1
          have lt2 : (nI q < nI (τ 0 2)) = (q < τ 0 2) := nI_ltB (by omega) (by omega)
          have e1 : m_in (nI (50 + 2 * q)) 70 = true := t_in (by omega)
          have e2 : (nI (50 + 2 * q)).toNatClampNeg = 50 + 2 * q := t_cl (by omega)
          by_cases z : q < τ 0 2
          · by_cases y : g0.testBit q = true
            · obtain ⟨g, W1, q1⟩ := w_no W' (fun _ _ _ _ _ _ _ _ _ _ c o => a_grantO (X := X) (d := d) c o z hg0 eg y)
              refine ⟨g, A, Z, W1, lv, dy1, fun Q => ?_⟩
              rw [start]
              simp only [u187_49, u187_51, u187_52, u187_55, u187_57, u187_60, u187_61, u187_63, u187_64, u187_65, u187_66, u187_68, u187_69, u187_70, u187_71, u187_72, u187_74, u187_77, u187_79, u187_82, u187_84, u187_87, u187_88, u187_90, u187_91, u187_94, u187_97, u187_98, u187_101, u187_102, u187_105, u187_106, u187_107, u187_109, u187_110, u187_113, u187_115, u187_118, u187_120, u187_123, u187_124, u187_126, u187_128, u187_129, u187_130, u187_133, u187_134, u187_136, u187_138, u187_141, u187_142, u187_144, u187_145, u187_146, u187_147, u187_149, u187_150, u187_151, u187_152, u187_153, u187_154, u187_155, u187_157, u187_159, u187_160, u187_161, u187_162, u187_163, u187_165, u187_168, u187_170, u187_173, u187_174, u187_177, u187_178, u187_179, u187_181, u187_182, u187_185, u187_186, u187_187, u187_189, u187_190, u187_192, u187_193, u187_194, u187_196, u187_198, u187_201, u187_202, u187_204, u187_206, u187_207, u187_209, u187_210, u187_212, u187_213, u187_216, u187_217, u187_218, u187_220, u187_222, u187_225, u187_227, u187_230, u187_231, u187_233, u187_234, u187_237, u187_238, u187_241, u187_242, u187_245, u187_246, u187_247, u187_249, u187_250, u187_253, u187_254, u187_256, u187_257, u187_258, u187_259, u187_261, u187_263, u187_264, u187_265, u187_266, u187_269, u187_270, u187_272, u187_273, u187_275, u187_276, u187_277, u187_278, u187_281, u187_282, u187_285, u187_286, u187_288, u187_290, u187_293, u187_294, u187_296, u187_297, u187_298, u187_299, u187_301, u187_302, u187_303, u187_304, u187_305, u187_307, u187_308, u187_309, u187_310, u187_312, u187_313, u187_315, u187_316, u187_317, u187_318, u187_319, u187_320, u187_321, u187_323, eq_self, q_nl0, q_nlI, q_nlR, not_false_eq_true, q_nz0, q_nz1, q_zv0, q_zv1, q_tl1, q_tl0, q_wif, q_swc, q_swn, List.cons_append, List.nil_append, if_true, if_false, e10, e01, Bool.false_eq_true, sh_1, sh_195, k2, kl, k2e, eq_false ke2, k3e, eq_false ke3, k4e, eq_true ke4, e6, eq_, t_in2, t_cl2, hm2, lt2, z, s6, c_in15, cl15, gI_hC, eg, hbq, y, e10, q1]
              simp only [u187_326, u187_328, u187_331, u187_332, u187_334, u187_335, u187_338, u187_339, u187_342, u187_343, u187_346, u187_347, eq_self, q_nl0, q_nlI, q_nlR, not_false_eq_true, q_nz0, q_nz1, q_zv0, q_zv1, q_tl1, q_tl0, q_wif, q_swc, q_swn, List.cons_append, List.nil_append, if_true, if_false, e10, e01, Bool.false_eq_true]
            · obtain ⟨g, W1, q1⟩ := w_grant (X := X) (d := d) (ww_hC (grA τ A g0 q) W) z hg0 eg y
              have e3 : m_gI (hC h 196 (up A 15 (nI (g0 ||| 2 ^ q)))) 195 (50 + 2 * q) = nI (τ 7 q) := ((ww_T (ww_hC _ W)).2.2.2 q z).1
              have er : up (up A 15 (nI (g0 ||| 2 ^ q))) 16 (A 16 + nI (τ 7 q)) = grA τ A g0 q := rfl
              have s16 : ∀ v, up A 15 v 16 = A 16 := fun v => up_o (by decide)
              have rw1 : m_gI g 196 16 = A 16 + nI (τ 7 q) := (congrFun (ww_C W1) 16).trans up_s
              refine ⟨g, grA τ A g0 q, some A, W1, LV_cg (fun i hi => grA_o (by omega) (by omega)) lv, ?_, fun Q => ?_⟩
              · obtain ⟨yy, hy, e⟩ := dy1
                exact ⟨yy, hy, (grA_o (by decide) (by decide)).trans e⟩
              · rw [start]
                simp only [u187_49, u187_51, u187_52, u187_55, u187_57, u187_60, u187_61, u187_63, u187_64, u187_65, u187_66, u187_68, u187_69, u187_70, u187_71, u187_72, u187_74, u187_77, u187_79, u187_82, u187_84, u187_87, u187_88, u187_90, u187_91, u187_94, u187_97, u187_98, u187_101, u187_102, u187_105, u187_106, u187_107, u187_109, u187_110, u187_113, u187_115, u187_118, u187_120, u187_123, u187_124, u187_126, u187_128, u187_129, u187_130, u187_133, u187_134, u187_136, u187_138, u187_141, u187_142, u187_144, u187_145, u187_146, u187_147, u187_149, u187_150, u187_151, u187_152, u187_153, u187_154, u187_155, u187_157, u187_159, u187_160, u187_161, u187_162, u187_163, u187_165, u187_168, u187_170, u187_173, u187_174, u187_177, u187_178, u187_179, u187_181, u187_182, u187_185, u187_186, u187_187, u187_189, u187_190, u187_192, u187_193, u187_194, u187_196, u187_198, u187_201, u187_202, u187_204, u187_206, u187_207, u187_209, u187_210, u187_212, u187_213, u187_216, u187_217, u187_218, u187_220, u187_222, u187_225, u187_227, u187_230, u187_231, u187_233, u187_234, u187_237, u187_238, u187_241, u187_242, u187_245, u187_246, u187_247, u187_249, u187_250, u187_253, u187_254, u187_256, u187_257, u187_258, u187_259, u187_261, u187_263, u187_264, u187_265, u187_266, u187_269, u187_270, u187_272, u187_273, u187_275, u187_276, u187_277, u187_278, u187_281, u187_282, u187_285, u187_286, u187_288, u187_290, u187_293, u187_294, u187_296, u187_297, u187_298, u187_299, u187_301, u187_302, u187_303, u187_304, u187_305, u187_307, u187_308, u187_309, u187_310, u187_312, u187_313, u187_315, u187_316, u187_317, u187_318, u187_319, u187_320, u187_321, u187_323, eq_self, q_nl0, q_nlI, q_nlR, not_false_eq_true, q_nz0, q_nz1, q_zv0, q_zv1, q_tl1, q_tl0, q_wif, q_swc, q_swn, List.cons_append, List.nil_append, if_true, if_false, e10, e01, Bool.false_eq_true, sh_1, sh_195, k2, kl, k2e, eq_false ke2, k3e, eq_false ke3, k4e, eq_true ke4, e6, eq_, t_in2, t_cl2, hm2, lt2, z, s6, c_in15, cl15, c_in16, cl16, gI_hC, sI_hC, eg, hbq, y, e10, nI_sh q (show q < 8 by omega), nI_or, l_m2, l_a50, e1, e2, e3, s16, er, q1]
                simp only [u187_326, u187_328, u187_331, u187_332, u187_334, u187_335, u187_338, u187_339, u187_342, u187_343, u187_346, u187_347, eq_self, q_nl0, q_nlI, q_nlR, not_false_eq_true, q_nz0, q_nz1, q_zv0, q_zv1, q_tl1, q_tl0, q_wif, q_swc, q_swn, List.cons_append, List.nil_append, if_true, if_false, e10, e01, Bool.false_eq_true, s6, c_in16, cl16, rw1, e10]
          · obtain ⟨g, W1, q1⟩ := w_no W' (fun _ _ _ _ _ _ _ _ _ _ c o => a_grantN (X := X) (d := d) (x := nI q) c o (ixB_no (by omega) (by omega)))
            refine ⟨g, A, Z, W1, lv, dy1, fun Q => ?_⟩
            rw [start]
            simp only [u187_49, u187_51, u187_52, u187_55, u187_57, u187_60, u187_61, u187_63, u187_64, u187_65, u187_66, u187_68, u187_69, u187_70, u187_71, u187_72, u187_74, u187_77, u187_79, u187_82, u187_84, u187_87, u187_88, u187_90, u187_91, u187_94, u187_97, u187_98, u187_101, u187_102, u187_105, u187_106, u187_107, u187_109, u187_110, u187_113, u187_115, u187_118, u187_120, u187_123, u187_124, u187_126, u187_128, u187_129, u187_130, u187_133, u187_134, u187_136, u187_138, u187_141, u187_142, u187_144, u187_145, u187_146, u187_147, u187_149, u187_150, u187_151, u187_152, u187_153, u187_154, u187_155, u187_157, u187_159, u187_160, u187_161, u187_162, u187_163, u187_165, u187_168, u187_170, u187_173, u187_174, u187_177, u187_178, u187_179, u187_181, u187_182, u187_185, u187_186, u187_187, u187_189, u187_190, u187_192, u187_193, u187_194, u187_196, u187_198, u187_201, u187_202, u187_204, u187_206, u187_207, u187_209, u187_210, u187_212, u187_213, u187_216, u187_217, u187_218, u187_220, u187_222, u187_225, u187_227, u187_230, u187_231, u187_233, u187_234, u187_237, u187_238, u187_241, u187_242, u187_245, u187_246, u187_247, u187_249, u187_250, u187_253, u187_254, u187_256, u187_257, u187_258, u187_259, u187_261, u187_263, u187_264, u187_265, u187_266, u187_269, u187_270, u187_272, u187_273, u187_275, u187_276, u187_277, u187_278, u187_281, u187_282, u187_285, u187_286, u187_288, u187_290, u187_293, u187_294, u187_296, u187_297, u187_298, u187_299, u187_301, u187_302, u187_303, u187_304, u187_305, u187_307, u187_308, u187_309, u187_310, u187_312, u187_313, u187_315, u187_316, u187_317, u187_318, u187_319, u187_320, u187_321, u187_323, eq_self, q_nl0, q_nlI, q_nlR, not_false_eq_true, q_nz0, q_nz1, q_zv0, q_zv1, q_tl1, q_tl0, q_wif, q_swc, q_swn, List.cons_append, List.nil_append, if_true, if_false, e10, e01, Bool.false_eq_true, sh_1, sh_195, k2, kl, k2e, eq_false ke2, k3e, eq_false ke3, k4e, eq_true ke4, e6, eq_, t_in2, t_cl2, hm2, lt2, z, q1]
            simp only [u187_326, u187_328, u187_331, u187_332, u187_334, u187_335, u187_338, u187_339, u187_342, u187_343, u187_346, u187_347, eq_self, q_nl0, q_nlI, q_nlR, not_false_eq_true, q_nz0, q_nz1, q_zv0, q_zv1, q_tl1, q_tl0, q_wif, q_swc, q_swn, List.cons_append, List.nil_append, if_true, if_false, e10, e01, Bool.false_eq_true]
        · -- a day
          obtain ⟨yy, hy, ey⟩ := dy
          obtain ⟨g, W1, q1⟩ := w_day (X := X) (d := d) W' (show yy < 999 by omega) ey
          have hA : m_gI g 196 = A := ww_C W1
          obtain ⟨A', ea, q2⟩ := l_day (X := X) (d := d + 5) (h := g) hX (ww_T W1) L K lv hA
          refine ⟨hC g 196 A', A', some A, ww_A ea (ww_hC A' W1), LV_cg (fun i hi => ea i (by omega)) (LV_day L.1 lv), ?_, fun Q => ?_⟩
          · obtain ⟨y2, hy2, e⟩ := DY_day L.1 (A := A) (n := n) ⟨yy, hy, ey⟩
            exact ⟨y2, hy2, (ea 18 (by decide)).trans e⟩
          · rw [start]
            simp only [u187_49, u187_51, u187_52, u187_55, u187_57, u187_60, u187_61, u187_63, u187_64, u187_65, u187_66, u187_68, u187_69, u187_70, u187_71, u187_72, u187_74, u187_77, u187_79, u187_82, u187_84, u187_87, u187_88, u187_90, u187_91, u187_94, u187_97, u187_98, u187_101, u187_102, u187_105, u187_106, u187_107, u187_109, u187_110, u187_113, u187_115, u187_118, u187_120, u187_123, u187_124, u187_126, u187_128, u187_129, u187_130, u187_133, u187_134, u187_136, u187_138, u187_141, u187_142, u187_144, u187_145, u187_146, u187_147, u187_149, u187_150, u187_151, u187_152, u187_153, u187_154, u187_155, u187_157, u187_159, u187_160, u187_161, u187_162, u187_163, u187_165, u187_168, u187_170, u187_173, u187_174, u187_177, u187_178, u187_179, u187_181, u187_182, u187_185, u187_186, u187_187, u187_189, u187_190, u187_192, u187_193, u187_194, u187_196, u187_198, u187_201, u187_202, u187_204, u187_206, u187_207, u187_209, u187_210, u187_212, u187_213, u187_216, u187_217, u187_218, u187_220, u187_222, u187_225, u187_227, u187_230, u187_231, u187_233, u187_234, u187_237, u187_238, u187_241, u187_242, u187_245, u187_246, u187_247, u187_249, u187_250, u187_253, u187_254, u187_256, u187_257, u187_258, u187_259, u187_261, u187_263, u187_264, u187_265, u187_266, u187_269, u187_270, u187_272, u187_273, u187_275, u187_276, u187_277, u187_278, u187_281, u187_282, u187_285, u187_286, u187_288, u187_290, u187_293, u187_294, u187_296, u187_297, u187_298, u187_299, u187_301, u187_302, u187_303, u187_304, u187_305, u187_307, u187_308, u187_309, u187_310, u187_312, u187_313, u187_315, u187_316, u187_317, u187_318, u187_319, u187_320, u187_321, u187_323, u187_326, u187_328, u187_331, u187_332, u187_334, u187_335, u187_338, u187_339, u187_342, u187_343, u187_346, u187_347, u187_348, u187_349, eq_self, q_nl0, q_nlI, q_nlR, not_false_eq_true, q_nz0, q_nz1, q_zv0, q_zv1, q_tl1, q_tl0, q_wif, q_swc, q_swn, List.cons_append, List.nil_append, if_true, if_false, e10, e01, Bool.false_eq_true, sh_1, k2, kl, k2e, eq_false ke2, k3e, eq_false ke3, k4e, eq_false ke4, q1]
            simp only [u187_352, u187_353, u187_354, u187_357, u187_360, u187_361, u187_364, u187_365, eq_self, q_nl0, q_nlI, q_nlR, not_false_eq_true, q_nz0, q_nz1, q_zv0, q_zv1, q_tl1, q_tl0, q_wif, q_swc, q_swn, List.cons_append, List.nil_append, if_true, if_false, e10, e01, Bool.false_eq_true, q2]
end ACT
