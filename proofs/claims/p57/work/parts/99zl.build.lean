/-! THE LAW WRITES A CITY: crafts -/
def mkN (m : Nat) (x : Int32) : Nat := (x &&& nI m).toNatClampNeg
theorem mk_e (m : Nat) (x : Int32) (hm : m < 2 ^ 31) : x &&& nI m = nI (mkN m x) ∧ mkN m x ≤ m := by
  have key : ∃ k, k ≤ m ∧ x &&& nI m = nI k := by
    refine ⟨(x.toBitVec &&& BitVec.ofNat 32 m).toNat, ?_, ?_⟩
    · rw [BitVec.toNat_and, BitVec.toNat_ofNat]
      exact Nat.le_trans Nat.and_le_right (Nat.mod_le _ _)
    · apply Int32.toBitVec_inj.mp
      rw [Int32.toBitVec_and]
      have hmm : m % 4294967296 = m := Nat.mod_eq_of_lt (by omega)
      simp [nI, Int32.toBitVec_ofNat', hmm]
  obtain ⟨k, h1, h2⟩ := key
  have : mkN m x = k := by
    unfold mkN
    rw [h2]
    exact q_cl (by omega)
  rw [this]
  exact ⟨h2, h1⟩
theorem tl_27 : (tb 27).length = 6 := by decide +kernel
theorem tl_28 : (tb 28).length = 6 := by decide +kernel
theorem tl_29 : (tb 29).length = 5 := by decide +kernel
theorem tl_30 : (tb 30).length = 1 := by decide +kernel
theorem tl_31 : (tb 31).length = 4 := by decide +kernel
theorem tl_32 : (tb 32).length = 3 := by decide +kernel
theorem tl_33 : (tb 33).length = 7 := by decide +kernel
theorem tl_34 : (tb 34).length = 5 := by decide +kernel
theorem tl_35 : (tb 35).length = 7 := by decide +kernel
theorem tl_36 : (tb 36).length = 3 := by decide +kernel
theorem tl_37 : (tb 37).length = 7 := by decide +kernel
theorem tl_38 : (tb 38).length = 5 := by decide +kernel
theorem tl_39 : (tb 39).length = 6 := by decide +kernel
theorem tl_43 : (tb 43).length = 5 := by decide +kernel
theorem tl_44 : (tb 44).length = 5 := by decide +kernel
theorem tl_45 : (tb 45).length = 5 := by decide +kernel
theorem dg_len (v : Nat) : (dg v).length ≤ 3 := by
  unfold dg
  split
  · exact Nat.le_trans (show 1 ≤ 1 by decide) (by decide)
  · split
    · exact Nat.le_trans (show 2 ≤ 2 by decide) (by decide)
    · exact Nat.le_trans (show 3 ≤ 3 by decide) (by decide)
theorem ln_app {T : List Nat} {n : Nat} {bs : List Nat} {m : Nat} (h : T.length ≤ n) (g : bs.length ≤ m) : (T ++ bs).length ≤ n + m := by
  rw [List.length_append]
  omega
theorem ln_nm {k : Nat} : ([97 + k, 32] : List Nat).length ≤ 2 := Nat.le_refl 2
theorem ln_dg {v : Nat} : (dg v ++ [32]).length ≤ 4 := by
  rw [List.length_append]
  have := dg_len v
  show (dg v).length + 1 ≤ 4
  omega
/-- the draws -/
def drC (X : XT) (n : Nat) : Int32 := if n < X.1 then X.2 n else 0
def cA (f g : Nat → Nat) : Nat → List Nat
  | 0 => []
  | k + 1 => cA f g k ++ cLn k (f k) (g k) []
def dA (f g : Nat → Nat) : Nat → List Nat
  | 0 => []
  | k + 1 => dA f g k ++ dLn k (f k) (g k) []
section BUILD
variable {X : XT} {d : Nat} {h : HT} {T : List Nat} {t : Nat → Int32}
theorem tw_as (W : TW h T t) : h = hC h 195 t := by
  obtain ⟨_, _, _, _, _, _, _, _, _, _, _, _, _, _, _, r⟩ := W
  rw [← r]
  exact hC_id.symm
theorem tw_r (W : TW h T t) : m_gI h 195 = t := by
  obtain ⟨_, _, _, _, _, _, _, _, _, _, _, _, _, _, _, r⟩ := W
  exact r
/-- name, words, two numbers: the form of crafts and demands -/
theorem l_line (W : TW h T t) {k a l i j p n : Nat} (hT : T.length ≤ n) (hn : n ≤ 1400) (hk : k < 5) (ha : a < 1000) (hl : l < 1000) (hi : i < 46 ∧ 27 ≤ i ∧ (tb i).length ≤ 7) (hj : j < 46 ∧ 27 ≤ j ∧ (tb j).length ≤ 7) (hp : p < 46 ∧ 27 ≤ p ∧ (tb p).length ≤ 7) : ∃ g1 g2 g3 g4 g5 g6 g7, TW g7 (T ++ (tb i ++ ([97 + k, 32] ++ (tb j ++ (dg a ++ ([32] ++ (tb p ++ (dg l ++ ([32] ++ tb 30))))))))) t ∧ m_gI g3 195 = t ∧ m_gI g5 195 = t ∧ (∀ Q : QT, wq X (d + 12) 127 0 [some (.ref 1), some (.int (nI T.length)), some (.ref (10000 + (10 + i))), none, none, none, none, none] [] h Q = Q (some (.int (nI (T ++ tb i).length))) g1) ∧ (∀ Q : QT, wq X (d + 12) 149 0 [some (.ref 1), some (.int (nI (T ++ tb i).length)), some (.int (nI (97 + k)))] [] g1 Q = Q (some (.int (nI (T ++ tb i ++ [97 + k, 32]).length))) g2) ∧ (∀ Q : QT, wq X (d + 12) 127 0 [some (.ref 1), some (.int (nI (T ++ tb i ++ [97 + k, 32]).length)), some (.ref (10000 + (10 + j))), none, none, none, none, none] [] g2 Q = Q (some (.int (nI (T ++ tb i ++ [97 + k, 32] ++ tb j).length))) g3) ∧ (∀ Q : QT, wq X (d + 12) 150 0 [some (.ref 1), some (.int (nI (T ++ tb i ++ [97 + k, 32] ++ tb j).length)), some (.int (nI a)), none, none] [] g3 Q = Q (some (.int (nI (T ++ tb i ++ [97 + k, 32] ++ tb j ++ (dg a ++ [32])).length))) g4) ∧ (∀ Q : QT, wq X (d + 12) 127 0 [some (.ref 1), some (.int (nI (T ++ tb i ++ [97 + k, 32] ++ tb j ++ (dg a ++ [32])).length)), some (.ref (10000 + (10 + p))), none, none, none, none, none] [] g4 Q = Q (some (.int (nI (T ++ tb i ++ [97 + k, 32] ++ tb j ++ (dg a ++ [32]) ++ tb p).length))) g5) ∧ (∀ Q : QT, wq X (d + 12) 150 0 [some (.ref 1), some (.int (nI (T ++ tb i ++ [97 + k, 32] ++ tb j ++ (dg a ++ [32]) ++ tb p).length)), some (.int (nI l)), none, none] [] g5 Q = Q (some (.int (nI (T ++ tb i ++ [97 + k, 32] ++ tb j ++ (dg a ++ [32]) ++ tb p ++ (dg l ++ [32])).length))) g6) ∧ (∀ Q : QT, wq X (d + 12) 127 0 [some (.ref 1), some (.int (nI (T ++ tb i ++ [97 + k, 32] ++ tb j ++ (dg a ++ [32]) ++ tb p ++ (dg l ++ [32])).length)), some (.ref (10000 + (10 + 30))), none, none, none, none, none] [] g6 Q = Q (some (.int (nI (T ++ (tb i ++ ([97 + k, 32] ++ (tb j ++ (dg a ++ ([32] ++ (tb p ++ (dg l ++ ([32] ++ tb 30))))))))).length))) g7) := by
  have b1 := ln_app hT hi.2.2
  have b2 := ln_app b1 (ln_nm (k := k))
  have b3 := ln_app b2 hj.2.2
  have b4 := ln_app b3 (ln_dg (v := a))
  have b5 := ln_app b4 hp.2.2
  have b6 := ln_app b5 (ln_dg (v := l))
  obtain ⟨g1, W1, q1⟩ := l_says (X := X) (d := d) W hi.1 hi.2.1 (by omega)
  obtain ⟨g2, W2, q2⟩ := l_name (X := X) (d := d) W1 hk (by omega)
  obtain ⟨g3, W3, q3⟩ := l_says (X := X) (d := d) W2 hj.1 hj.2.1 (by omega)
  obtain ⟨g4, W4, q4⟩ := l_digits (X := X) (d := d) W3 ha (by omega)
  obtain ⟨g5, W5, q5⟩ := l_says (X := X) (d := d) W4 hp.1 hp.2.1 (by omega)
  obtain ⟨g6, W6, q6⟩ := l_digits (X := X) (d := d) W5 hl (by omega)
  obtain ⟨g7, W7, q7⟩ := l_says (X := X) (d := d) (i := 30) W6 (by decide) (by decide) (by omega)
  have e : T ++ tb i ++ [97 + k, 32] ++ tb j ++ (dg a ++ [32]) ++ tb p ++ (dg l ++ [32]) ++ tb 30 = T ++ (tb i ++ ([97 + k, 32] ++ (tb j ++ (dg a ++ ([32] ++ (tb p ++ (dg l ++ ([32] ++ tb 30)))))))) := by
    simp only [List.append_assoc]
  rw [e] at W7 q7
  exact ⟨g1, g2, g3, g4, g5, g6, g7, W7, tw_r W3, tw_r W5, q1, q2, q3, q4, q5, q6, q7⟩
theorem cLn_0 {k a l : Nat} : cLn k a l [] = tb 27 ++ ([97 + k, 32] ++ (tb 28 ++ (dg a ++ ([32] ++ (tb 29 ++ (dg l ++ ([32] ++ tb 30))))))) := by
  unfold cLn
  rw [List.append_nil]
theorem dLn_0 {k a l : Nat} : dLn k a l [] = tb 37 ++ ([97 + k, 32] ++ (tb 38 ++ (dg a ++ ([32] ++ (tb 39 ++ (dg l ++ ([32] ++ tb 30))))))) := by
  unfold dLn
  rw [List.append_nil]
theorem cLn_len {k a l : Nat} : (cLn k a l []).length ≤ 40 := by
  rw [cLn_0]
  have := dg_len a
  have := dg_len l
  simp only [List.length_append, tl_27, tl_28, tl_29, tl_30, List.length_cons, List.length_nil]
  omega
theorem dLn_len {k a l : Nat} : (dLn k a l []).length ≤ 40 := by
  rw [dLn_0]
  have := dg_len a
  have := dg_len l
  simp only [List.length_append, tl_37, tl_38, tl_39, tl_30, List.length_cons, List.length_nil]
  omega
theorem cA_len {f g : Nat → Nat} : ∀ k, (cA f g k).length ≤ 40 * k
  | 0 => Nat.le_refl _
  | k + 1 => by
    have := ln_app (cA_len (f := f) (g := g) k) (cLn_len (k := k) (a := f k) (l := g k))
    show (cA f g k ++ cLn k (f k) (g k) []).length ≤ 40 * (k + 1)
    omega
theorem dA_len {f g : Nat → Nat} : ∀ k, (dA f g k).length ≤ 40 * k
  | 0 => Nat.le_refl _
  | k + 1 => by
    have := ln_app (dA_len (f := f) (g := g) k) (dLn_len (k := k) (a := f k) (l := g k))
    show (dA f g k ++ dLn k (f k) (g k) []).length ≤ 40 * (k + 1)
    omega
/-- the numbers of the crafts -/
def crN (c : Int32) (k : Nat) : Nat := mkN 3 (c >>> (nI (2 + 2 * k) &&& 31))
def crV (c : Int32) (k : Nat) : Nat := mkN 31 (c >>> (nI (8 + 3 * k) &&& 31))
def RC (t : Nat → Int32) (c : Int32) (k : Nat) : Prop := t 0 = nI (mkN 3 c) ∧ (∀ j, 1 ≤ j → j < 10 → t j = 0) ∧ (∀ j, j < k → t (10 + 2 * j) = nI (crN c j) ∧ t (11 + 2 * j) = nI (crV c j)) ∧ ∀ j, 20 ≤ j → j < 70 → t j = 0
theorem bl_crafts {c : Int32} (W : TW h [] t) (R : RC t c 0) : ∃ g t', TW g (cA (crN c) (crV c) (mkN 3 c)) t' ∧ RC t' c (mkN 3 c) ∧ ∀ Q : QT, wq X (d + 13) 102 39 [some (.ref 1), some (.ref 195), some (.ref 10000), some (.int c), some (.int 0), some (.int 0), none, none, none] [] h Q = wq X (d + 13) 102 156 [some (.ref 1), some (.ref 195), some (.ref 10000), some (.int c), some (.int (nI (cA (crN c) (crV c) (mkN 3 c)).length)), some (.int (nI (mkN 3 c))), none, none, none] [] g Q := by
  have h3 := (mk_e 3 c (by decide)).2
  obtain ⟨l', ⟨W', R'⟩, e⟩ := q_loopI (α := HT × (Nat → Int32)) (fun k l => fun (Q : QT) => wq X (d + 13) 102 39 [some (.ref 1), some (.ref 195), some (.ref 10000), some (.int c), some (.int (nI (cA (crN c) (crV c) k).length)), some (.int (nI k)), none, none, none] [] l.1 Q) (fun k l => TW l.1 (cA (crN c) (crV c) k) l.2 ∧ RC l.2 c k) (mkN 3 c) (by
    rintro k hk ⟨h, t⟩ ⟨W, R⟩
    obtain ⟨r0, r1, r2, r3⟩ := R
    have eh := tw_as W
    have f1 : (nI k < nI (mkN 3 c)) = True := eq_true (nI_lt hk (by omega))
    have e1 : m_in (nI (10 + 2 * k)) 70 = true := t_in (by omega)
    have e2 : (nI (10 + 2 * k)).toNatClampNeg = 10 + 2 * k := t_cl (by omega)
    have e3 : m_in (nI (11 + 2 * k)) 70 = true := t_in (by omega)
    have e4 : (nI (11 + 2 * k)).toNatClampNeg = 11 + 2 * k := t_cl (by omega)
    have m1 := (mk_e 3 (c >>> (nI (2 + 2 * k) &&& 31)) (by decide))
    have m2 := (mk_e 31 (c >>> (nI (8 + 3 * k) &&& 31)) (by decide))
    have a2 : (2 : Int32) + nI (2 * k) = nI (2 + 2 * k) := nI_add 2 _
    have a8 : (8 : Int32) + nI (3 * k) = nI (8 + 3 * k) := nI_add 8 _
    have m3 : (3 : Int32) * nI k = nI (3 * k) := pk_mul 3 k
    have a97 : (97 : Int32) + nI k = nI (97 + k) := nI_add 97 _
    have i3 : (3 : Int32) = nI 3 := rfl
    have i31 : (31 : Int32) = nI 31 := rfl
    have x1 : c >>> (nI (2 + 2 * k) &&& 31) &&& 3 = nI (crN c k) := m1.1
    have x2 : c >>> (nI (8 + 3 * k) &&& 31) &&& 31 = nI (crV c k) := m2.1
    have v1 : crN c k ≤ 3 := m1.2
    have v2 : crV c k ≤ 31 := m2.2
    have Wt := tw_t W (up (up t (10 + 2 * k) (nI (crN c k))) (11 + 2 * k) (nI (crV c k)))
    obtain ⟨g1, g2, g3, g4, g5, g6, g7, W7, p3, p5, q1, q2, q3, q4, q5, q6, q7⟩ := l_line (X := X) (d := d) (i := 27) (j := 28) (p := 29) (k := k) (a := crN c k) (l := crV c k) Wt (cA_len k) (by omega) (by omega) (by omega) (by omega) ⟨by decide, by decide, by rw [tl_27]; decide⟩ ⟨by decide, by decide, by rw [tl_28]; decide⟩ ⟨by decide, by decide, by rw [tl_29]; decide⟩
    have w3 : m_gI g3 195 (10 + 2 * k) = nI (crN c k) := (congrFun p3 _).trans ((up_o (by omega)).trans up_s)
    have w5 : m_gI g5 195 (11 + 2 * k) = nI (crV c k) := (congrFun p5 _).trans up_s
    rw [← cLn_0] at W7 q7
    have t0 : m_gI h 195 0 = nI (mkN 3 c) := (congrFun (tw_r W) 0).trans r0
    have hrow : m_sI (m_sI h 195 (10 + 2 * k) (nI (crN c k))) 195 (11 + 2 * k) (nI (crV c k)) = hC h 195 (up (up t (10 + 2 * k) (nI (crN c k))) (11 + 2 * k) (nI (crV c k))) := by
      rw [show m_sI h 195 (10 + 2 * k) (nI (crN c k)) = m_sI (hC h 195 t) 195 (10 + 2 * k) (nI (crN c k)) by rw [← eh], sI_hC, sI_hC]
    refine ⟨⟨g7, _⟩, ⟨W7, ?_⟩, funext fun Q => ?_⟩
    · refine ⟨(up_o (by omega)).trans ((up_o (by omega)).trans r0), fun j h1 h2 => (up_o (by omega)).trans ((up_o (by omega)).trans (r1 j h1 h2)), fun j hj => ?_, fun j h1 h2 => (up_o (by omega)).trans ((up_o (by omega)).trans (r3 j h1 h2))⟩
      by_cases e : j = k
      · rw [e]
        exact ⟨(up_o (by omega)).trans up_s, up_s⟩
      · obtain ⟨y1, y2⟩ := r2 j (by omega)
        exact ⟨(up_o (by omega)).trans ((up_o (by omega)).trans y1), (up_o (by omega)).trans ((up_o (by omega)).trans y2)⟩
    · show wq X (d + 13) 102 39 _ _ _ _ = wq X (d + 13) 102 39 [some (.ref 1), some (.ref 195), some (.ref 10000), some (.int c), some (.int (nI (cA (crN c) (crV c) k ++ cLn k (crN c k) (crV c k) []).length)), some (.int (nI (k + 1))), none, none, none] [] g7 Q
      rw [u102_39]
      simp only [u102_41, u102_42, u102_43, u102_44, u102_47, u102_48, u102_50, u102_51, u102_53, u102_54, u102_55, u102_56, u102_57, u102_58, u102_60, u102_61, u102_62, u102_63, u102_64, u102_65, u102_66, u102_67, u102_69, u102_70, u102_72, u102_73, u102_74, u102_75, u102_77, u102_78, u102_80, u102_81, u102_82, u102_83, u102_85, u102_86, u102_87, u102_88, u102_89, u102_90, u102_91, u102_92, u102_93, u102_94, u102_96, u102_98, eq_self, q_nl0, q_nlI, q_nlR, not_false_eq_true, q_nz0, q_nz1, q_zv0, q_zv1, q_tl1, q_tl0, q_wif, q_swc, q_swn, List.cons_append, List.nil_append, if_true, if_false, e10, e01, Bool.false_eq_true, sh_195, t_in0, t_cl0, t0, f1, l_m2, l_a10, l_a11, m3, a2, a8, e1, e2, e3, e4, x1, x2, hrow, q1]
      simp only [u102_101, u102_103, u102_105, u102_106, eq_self, q_nl0, q_nlI, q_nlR, not_false_eq_true, q_nz0, q_nz1, q_zv0, q_zv1, q_tl1, q_tl0, q_wif, q_swc, q_swn, List.cons_append, List.nil_append, if_true, if_false, e10, e01, Bool.false_eq_true, a97, q2]
      simp only [u102_109, u102_111, eq_self, q_nl0, q_nlI, q_nlR, not_false_eq_true, q_nz0, q_nz1, q_zv0, q_zv1, q_tl1, q_tl0, q_wif, q_swc, q_swn, List.cons_append, List.nil_append, if_true, if_false, e10, e01, Bool.false_eq_true, q3]
      simp only [u102_114, u102_115, u102_117, u102_118, u102_120, u102_121, u102_122, u102_123, eq_self, q_nl0, q_nlI, q_nlR, not_false_eq_true, q_nz0, q_nz1, q_zv0, q_zv1, q_tl1, q_tl0, q_wif, q_swc, q_swn, List.cons_append, List.nil_append, if_true, if_false, e10, e01, Bool.false_eq_true, sh_195, l_m2, l_a10, e1, e2, w3, q4]
      simp only [u102_126, u102_128, eq_self, q_nl0, q_nlI, q_nlR, not_false_eq_true, q_nz0, q_nz1, q_zv0, q_zv1, q_tl1, q_tl0, q_wif, q_swc, q_swn, List.cons_append, List.nil_append, if_true, if_false, e10, e01, Bool.false_eq_true, q5]
      simp only [u102_131, u102_132, u102_134, u102_135, u102_137, u102_138, u102_139, u102_140, eq_self, q_nl0, q_nlI, q_nlR, not_false_eq_true, q_nz0, q_nz1, q_zv0, q_zv1, q_tl1, q_tl0, q_wif, q_swc, q_swn, List.cons_append, List.nil_append, if_true, if_false, e10, e01, Bool.false_eq_true, sh_195, l_m2, l_a11, e3, e4, w5, q6]
      simp only [u102_143, u102_145, eq_self, q_nl0, q_nlI, q_nlR, not_false_eq_true, q_nz0, q_nz1, q_zv0, q_zv1, q_tl1, q_tl0, q_wif, q_swc, q_swn, List.cons_append, List.nil_append, if_true, if_false, e10, e01, Bool.false_eq_true, q7]
      simp only [u102_148, u102_150, u102_153, eq_self, q_nl0, q_nlI, q_nlR, not_false_eq_true, q_nz0, q_nz1, q_zv0, q_zv1, q_tl1, q_tl0, q_wif, q_swc, q_swn, List.cons_append, List.nil_append, if_true, if_false, e10, e01, Bool.false_eq_true, nI_1]) ⟨h, t⟩ ⟨W, R⟩
  refine ⟨l'.1, l'.2, W', R', fun Q => ?_⟩
  have e' := congrFun e Q
  have t0 : m_gI l'.1 195 0 = nI (mkN 3 c) := (congrFun (tw_r W') 0).trans R'.1
  refine Eq.trans (b := wq X (d + 13) 102 39 [some (.ref 1), some (.ref 195), some (.ref 10000), some (.int c), some (.int (nI (cA (crN c) (crV c) 0).length)), some (.int (nI 0)), none, none, none] [] h Q) rfl (e'.trans ?_)
  show wq X (d + 13) 102 39 _ _ _ _ = _
  rw [u102_39]
  simp only [u102_41, u102_42, u102_43, u102_44, eq_self, q_nl0, q_nlI, q_nlR, not_false_eq_true, q_nz0, q_nz1, q_zv0, q_zv1, q_tl1, q_tl0, q_wif, q_swc, q_swn, List.cons_append, List.nil_append, if_true, if_false, e10, e01, Bool.false_eq_true, sh_195, t_in0, t_cl0, t0, eq_false (nI_nlt (Nat.le_refl (mkN 3 c)) (show mkN 3 c < 2 ^ 31 by omega))]
end BUILD
