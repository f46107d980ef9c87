/-! THE LAW WRITES A CITY: a man's line as a whole -/
def mW (X : XT) (m : Nat) : Int32 := drC X (1 + m / 2) >>> (nI (15 * (m % 2)) &&& 31)
def mLv (w : Int32) : Nat := mkN 7 (w >>> 3)
def mDe (w : Int32) : Nat := mkN 15 (w >>> 6)
def mHo (w : Int32) : Bool := decide (bt1 w 10 = 1)
def mOt (w : Int32) : Nat := mkN 3 (w >>> 11)
def mHu (w : Int32) : Bool := decide (bt1 w 13 = 1)
/-- the row behind a man's line -/
def mRow (t : Nat → Int32) (w : Int32) (n m : Nat) : Nat → Int32 :=
  let t1 := up (up (up t (20 + 4 * m) (nI (skS w n n))) (21 + 4 * m) (nI (mLv w))) (22 + 4 * m) (nI (mDe w))
  let t2 := if mHo w = true then up t1 (23 + 4 * m) (nI (mOt w)) else t1
  if mHu w = true then up t2 7 (t2 7 ||| nI (2 ^ m)) else t2
section BN
variable {X : XT} {d : Nat} {h : HT} {T : List Nat} {t : Nat → Int32}
theorem hrow1 (W : TW h T t) {k : Nat} {v : Int32} : m_sI h 195 k v = hC h 195 (up t k v) := by
  have eh := tw_as W
  rw [show m_sI h 195 k v = m_sI (hC h 195 t) 195 k v by rw [← eh], sI_hC]
theorem bn_1 (hX1 : X.1 ≤ 260) (W : TW h T t) {c : Int32} {m M : Nat} (hm : m < M) (hM : M ≤ 5) (t1 : t 1 = nI M) (hT : T.length ≤ 1200) {l6 l7 l8 : Option Value} : ∃ g, TW g (T ++ (tb 31 ++ ([97 + m, 32] ++ tb 32))) t ∧ ∀ Q : QT, wq X (d + 13) 102 182 [some (.ref 1), some (.ref 195), some (.ref 10000), some (.int c), some (.int (nI T.length)), some (.int (nI m)), l6, l7, l8] [] h Q = wq X (d + 13) 102 247 [some (.ref 1), some (.ref 195), some (.ref 10000), some (.int c), some (.int (nI (T ++ (tb 31 ++ ([97 + m, 32] ++ tb 32))).length)), some (.int (nI m)), some (.int (mW X m)), some (.int (nI (20 + 4 * m))), some (.int 0)] [] g Q := by
  have f1 : (nI m < nI M) = True := eq_true (nI_lt hm (by omega))
  have r1 : m_gI h 195 1 = nI M := (congrFun (tw_r W) 1).trans t1
  have n2 : ¬ (2 : Int32) = 0 := by decide
  have e1 : nI m / 2 = nI (m / 2) := nI_div (b := 2) (by omega) (by decide)
  have e2 : nI m - nI (m / 2) * 2 = nI (m % 2) := by
    have := pk_rem (a := m) (d := 2) (by omega) (by decide) (by decide)
    rw [show nI 2 = (2 : Int32) from rfl, e1] at this
    exact this
  have e3 : (1 : Int32) + nI (m / 2) = nI (1 + m / 2) := nI_add 1 _
  have e4 : (15 : Int32) * nI (m % 2) = nI (15 * (m % 2)) := pk_mul 15 _
  have a97 : (97 : Int32) + nI m = nI (97 + m) := nI_add 97 _
  have lc := fun (Q : QT) => l_cell (X := X) (d := d + 12) (h := h) hX1 (show 1 + m / 2 < 1000 by omega) Q
  have ew : (if 1 + m / 2 < X.1 then X.2 (1 + m / 2) else 0) >>> (nI (15 * (m % 2)) &&& 31) = mW X m := rfl
  have b1 := ln_app hT (Nat.le_refl (tb 31).length)
  have b2 := ln_app b1 (ln_nm (k := m))
  rw [tl_31] at b1 b2
  obtain ⟨g1, W1, q1⟩ := l_says (X := X) (d := d) (i := 31) W (by decide) (by decide) (by omega)
  obtain ⟨g2, W2, q2⟩ := l_name (X := X) (d := d) W1 (k := m) (by omega) (by omega)
  obtain ⟨g3, W3, q3⟩ := l_says (X := X) (d := d) (i := 32) W2 (by decide) (by decide) (by omega)
  have eT : T ++ tb 31 ++ [97 + m, 32] ++ tb 32 = T ++ (tb 31 ++ ([97 + m, 32] ++ tb 32)) := by simp only [List.append_assoc]
  rw [eT] at W3 q3
  refine ⟨g3, W3, fun Q => ?_⟩
  rw [u102_182]
  simp only [u102_184, u102_185, u102_186, u102_187, u102_190, u102_191, u102_192, u102_194, u102_195, u102_196, u102_197, eq_self, q_nl0, q_nlI, q_nlR, not_false_eq_true, q_nz0, q_nz1, q_zv0, q_zv1, q_tl1, q_tl0, q_wif, q_swc, q_swn, List.cons_append, List.nil_append, if_true, if_false, e10, e01, Bool.false_eq_true, sh_195, t_in1, t_cl1, r1, f1, n2, not_false_eq_true, e1, e3, lc]
  simp only [u102_200, u102_202, u102_204, u102_205, u102_206, u102_207, u102_208, u102_210, u102_212, u102_213, u102_215, u102_216, u102_217, u102_219, u102_220, u102_221, u102_222, u102_224, u102_226, eq_self, q_nl0, q_nlI, q_nlR, not_false_eq_true, q_nz0, q_nz1, q_zv0, q_zv1, q_tl1, q_tl0, q_wif, q_swc, q_swn, List.cons_append, List.nil_append, if_true, if_false, e10, e01, Bool.false_eq_true, n2, not_false_eq_true, e1, e2, e4, ew, l_m4, l_a20, q1]
  simp only [u102_229, u102_231, u102_233, u102_234, eq_self, q_nl0, q_nlI, q_nlR, not_false_eq_true, q_nz0, q_nz1, q_zv0, q_zv1, q_tl1, q_tl0, q_wif, q_swc, q_swn, List.cons_append, List.nil_append, if_true, if_false, e10, e01, Bool.false_eq_true, a97, q2]
  simp only [u102_237, u102_239, eq_self, q_nl0, q_nlI, q_nlR, not_false_eq_true, q_nz0, q_nz1, q_zv0, q_zv1, q_tl1, q_tl0, q_wif, q_swc, q_swn, List.cons_append, List.nil_append, if_true, if_false, e10, e01, Bool.false_eq_true, q3]
  simp only [u102_242, u102_244, u102_245, eq_self, q_nl0, q_nlI, q_nlR, not_false_eq_true, q_nz0, q_nz1, q_zv0, q_zv1, q_tl1, q_tl0, q_wif, q_swc, q_swn, List.cons_append, List.nil_append, if_true, if_false, e10, e01, Bool.false_eq_true]
theorem bn_2 (W : TW h T t) {c w : Int32} {m : Nat} (hm : m < 5) (hT : T.length ≤ 1300) {l8 : Option Value} : ∃ g, TW g (T ++ (tb 33 ++ (dg (mLv w) ++ ([32] ++ (tb 34 ++ (dg (mDe w) ++ [32])))))) (up (up t (21 + 4 * m) (nI (mLv w))) (22 + 4 * m) (nI (mDe w))) ∧ ∀ Q : QT, wq X (d + 13) 102 315 [some (.ref 1), some (.ref 195), some (.ref 10000), some (.int c), some (.int (nI T.length)), some (.int (nI m)), some (.int w), some (.int (nI (20 + 4 * m))), l8] [] h Q = wq X (d + 13) 102 378 [some (.ref 1), some (.ref 195), some (.ref 10000), some (.int c), some (.int (nI (T ++ (tb 33 ++ (dg (mLv w) ++ ([32] ++ (tb 34 ++ (dg (mDe w) ++ [32])))))).length)), some (.int (nI m)), some (.int w), some (.int (nI (20 + 4 * m))), l8] [] g Q := by
  have e1 : m_in (nI (21 + 4 * m)) 70 = true := t_in (by omega)
  have e2 : (nI (21 + 4 * m)).toNatClampNeg = 21 + 4 * m := t_cl (by omega)
  have e3 : m_in (nI (22 + 4 * m)) 70 = true := t_in (by omega)
  have e4 : (nI (22 + 4 * m)).toNatClampNeg = 22 + 4 * m := t_cl (by omega)
  have a1 : nI (20 + 4 * m) + 1 = nI (21 + 4 * m) := by rw [nI_1]; congr 1; omega
  have a2 : nI (20 + 4 * m) + 2 = nI (22 + 4 * m) := by
    have := nI_add (20 + 4 * m) 2
    rw [show nI 2 = (2 : Int32) from rfl] at this
    rw [this]
    congr 1
    omega
  have m1 := mk_e 7 (w >>> 3) (by decide)
  have m2 := mk_e 15 (w >>> 6) (by decide)
  have s3 : (3 : Int32) &&& 31 = 3 := by decide
  have s6' : (6 : Int32) &&& 31 = 6 := by decide
  have x1 : w >>> 3 &&& 7 = nI (mLv w) := m1.1
  have x2 : w >>> 6 &&& 15 = nI (mDe w) := m2.1
  have v1 : mLv w ≤ 7 := m1.2
  have v2 : mDe w ≤ 15 := m2.2
  have Wt := tw_t W (up (up t (21 + 4 * m) (nI (mLv w))) (22 + 4 * m) (nI (mDe w)))
  have hr : m_sI (m_sI h 195 (21 + 4 * m) (nI (mLv w))) 195 (22 + 4 * m) (nI (mDe w)) = hC h 195 (up (up t (21 + 4 * m) (nI (mLv w))) (22 + 4 * m) (nI (mDe w))) := by
    rw [hrow1 W, sI_hC]
  have b1 := ln_app hT (Nat.le_refl (tb 33).length)
  have b2 := ln_app b1 (ln_dg (v := mLv w))
  have b3 := ln_app b2 (Nat.le_refl (tb 34).length)
  rw [tl_33] at b1 b2 b3
  rw [tl_34] at b3
  obtain ⟨g1, W1, q1⟩ := l_says (X := X) (d := d) (i := 33) Wt (by decide) (by decide) (by omega)
  obtain ⟨g2, W2, q2⟩ := l_digits (X := X) (d := d) (v := mLv w) W1 (by omega) (by omega)
  obtain ⟨g3, W3, q3⟩ := l_says (X := X) (d := d) (i := 34) W2 (by decide) (by decide) (by omega)
  obtain ⟨g4, W4, q4⟩ := l_digits (X := X) (d := d) (v := mDe w) W3 (by omega) (by omega)
  have w1 : m_gI g1 195 (21 + 4 * m) = nI (mLv w) := (congrFun (tw_r W1) _).trans ((up_o (by omega)).trans up_s)
  have w3 : m_gI g3 195 (22 + 4 * m) = nI (mDe w) := (congrFun (tw_r W3) _).trans up_s
  have eT : T ++ tb 33 ++ (dg (mLv w) ++ [32]) ++ tb 34 ++ (dg (mDe w) ++ [32]) = T ++ (tb 33 ++ (dg (mLv w) ++ ([32] ++ (tb 34 ++ (dg (mDe w) ++ [32]))))) := by simp only [List.append_assoc]
  rw [eT] at W4 q4
  refine ⟨g4, W4, fun Q => ?_⟩
  simp only [u102_315, u102_316, u102_318, u102_319, u102_320, u102_322, u102_323, u102_324, u102_326, u102_327, u102_328, u102_329, u102_331, u102_332, u102_333, u102_335, u102_337, u102_338, u102_340, u102_341, u102_342, u102_343, u102_344, u102_345, u102_346, u102_348, u102_350, eq_self, q_nl0, q_nlI, q_nlR, not_false_eq_true, q_nz0, q_nz1, q_zv0, q_zv1, q_tl1, q_tl0, q_wif, q_swc, q_swn, List.cons_append, List.nil_append, if_true, if_false, e10, e01, Bool.false_eq_true, sh_195, a1, a2, e1, e2, e3, e4, s3, s6', x1, x2, hr, q1]
  simp only [u102_353, u102_354, u102_356, u102_357, u102_358, u102_359, eq_self, q_nl0, q_nlI, q_nlR, not_false_eq_true, q_nz0, q_nz1, q_zv0, q_zv1, q_tl1, q_tl0, q_wif, q_swc, q_swn, List.cons_append, List.nil_append, if_true, if_false, e10, e01, Bool.false_eq_true, sh_195, a1, e1, e2, w1, q2]
  simp only [u102_362, u102_364, eq_self, q_nl0, q_nlI, q_nlR, not_false_eq_true, q_nz0, q_nz1, q_zv0, q_zv1, q_tl1, q_tl0, q_wif, q_swc, q_swn, List.cons_append, List.nil_append, if_true, if_false, e10, e01, Bool.false_eq_true, q3]
  simp only [u102_367, u102_368, u102_370, u102_371, u102_372, u102_373, eq_self, q_nl0, q_nlI, q_nlR, not_false_eq_true, q_nz0, q_nz1, q_zv0, q_zv1, q_tl1, q_tl0, q_wif, q_swc, q_swn, List.cons_append, List.nil_append, if_true, if_false, e10, e01, Bool.false_eq_true, sh_195, a2, e3, e4, w3, q4]
  simp only [u102_376, eq_self, q_nl0, q_nlI, q_nlR, not_false_eq_true, q_nz0, q_nz1, q_zv0, q_zv1, q_tl1, q_tl0, q_wif, q_swc, q_swn, List.cons_append, List.nil_append, if_true, if_false, e10, e01, Bool.false_eq_true]
theorem otL_0 {ho : Bool} {ot : Nat} { U : List Nat} : otL ho ot U = otL ho ot [] ++ U := by
  cases ho
  · rfl
  · show tb 35 ++ (dg ot ++ ([32] ++ U)) = tb 35 ++ (dg ot ++ ([32] ++ [])) ++ U
    simp only [List.append_assoc, List.append_nil]
theorem ouL_0 {hu : Bool} { U : List Nat} : ouL hu U = ouL hu [] ++ U := by
  cases hu
  · rfl
  · show tb 36 ++ U = tb 36 ++ [] ++ U
    rw [List.append_nil]
theorem otL_len {ho : Bool} {ot : Nat} : (otL ho ot []).length ≤ 11 := by
  cases ho
  · exact Nat.zero_le _
  · show (tb 35 ++ (dg ot ++ ([32] ++ []))).length ≤ 11
    have := dg_len ot
    simp only [List.length_append, tl_35, List.length_cons, List.length_nil]
    omega
theorem ouL_len {hu : Bool} : (ouL hu []).length ≤ 3 := by
  cases hu
  · exact Nat.zero_le _
  · show (tb 36 ++ []).length ≤ 3
    rw [List.append_nil, tl_36]
    exact Nat.le_refl 3
theorem bn_3 (W : TW h T t) {c w : Int32} {m : Nat} (hm : m < 5) (hT : T.length ≤ 1350) {l8 : Option Value} : ∃ g, TW g (T ++ otL (mHo w) (mOt w) []) (if mHo w = true then up t (23 + 4 * m) (nI (mOt w)) else t) ∧ ∀ Q : QT, wq X (d + 13) 102 378 [some (.ref 1), some (.ref 195), some (.ref 10000), some (.int c), some (.int (nI T.length)), some (.int (nI m)), some (.int w), some (.int (nI (20 + 4 * m))), l8] [] h Q = wq X (d + 13) 102 422 [some (.ref 1), some (.ref 195), some (.ref 10000), some (.int c), some (.int (nI (T ++ otL (mHo w) (mOt w) []).length)), some (.int (nI m)), some (.int w), some (.int (nI (20 + 4 * m))), l8] [] g Q := by
  have bo := b_o1 (w := w) (k := 10)
  rw [show nI 10 = (10 : Int32) from rfl] at bo
  unfold mHo
  by_cases z : bt1 w 10 = 1
  · have e1 : m_in (nI (23 + 4 * m)) 70 = true := t_in (by omega)
    have e2 : (nI (23 + 4 * m)).toNatClampNeg = 23 + 4 * m := t_cl (by omega)
    have a3 : nI (20 + 4 * m) + 3 = nI (23 + 4 * m) := by
      have := nI_add (20 + 4 * m) 3
      rw [show nI 3 = (3 : Int32) from rfl] at this
      rw [this]
      congr 1
      omega
    have m1 := mk_e 3 (w >>> 11) (by decide)
    have s11 : (11 : Int32) &&& 31 = 11 := by decide
    have x1 : w >>> 11 &&& 3 = nI (mOt w) := m1.1
    have v1 : mOt w ≤ 3 := m1.2
    have Wt := tw_t W (up t (23 + 4 * m) (nI (mOt w)))
    have b1 := ln_app hT (Nat.le_refl (tb 35).length)
    rw [tl_35] at b1
    obtain ⟨g1, W1, q1⟩ := l_says (X := X) (d := d) (i := 35) Wt (by decide) (by decide) (by omega)
    obtain ⟨g2, W2, q2⟩ := l_digits (X := X) (d := d) (v := mOt w) W1 (by omega) (by omega)
    have w1 : m_gI g1 195 (23 + 4 * m) = nI (mOt w) := (congrFun (tw_r W1) _).trans up_s
    have eT : T ++ tb 35 ++ (dg (mOt w) ++ [32]) = T ++ otL true (mOt w) [] := by
      show _ = T ++ (tb 35 ++ (dg (mOt w) ++ ([32] ++ [])))
      simp only [List.append_assoc, List.append_nil]
    rw [eT] at W2 q2
    rw [decide_eq_true z]
    refine ⟨g2, W2, fun Q => ?_⟩
    simp only [u102_378, u102_380, u102_382, u102_383, u102_384, u102_385, u102_386, u102_389, u102_390, u102_392, u102_393, u102_394, u102_396, u102_398, u102_399, u102_400, u102_401, u102_402, u102_403, u102_404, u102_406, u102_408, eq_self, q_nl0, q_nlI, q_nlR, not_false_eq_true, q_nz0, q_nz1, q_zv0, q_zv1, q_tl1, q_tl0, q_wif, q_swc, q_swn, List.cons_append, List.nil_append, if_true, if_false, e10, e01, Bool.false_eq_true, sh_195, bo, eq_true z, a3, e1, e2, s11, x1, hrow1 W, q1]
    simp only [u102_411, u102_412, u102_414, u102_415, u102_416, u102_417, eq_self, q_nl0, q_nlI, q_nlR, not_false_eq_true, q_nz0, q_nz1, q_zv0, q_zv1, q_tl1, q_tl0, q_wif, q_swc, q_swn, List.cons_append, List.nil_append, if_true, if_false, e10, e01, Bool.false_eq_true, sh_195, a3, e1, e2, w1, q2]
    simp only [u102_420, eq_self, q_nl0, q_nlI, q_nlR, not_false_eq_true, q_nz0, q_nz1, q_zv0, q_zv1, q_tl1, q_tl0, q_wif, q_swc, q_swn, List.cons_append, List.nil_append, if_true, if_false, e10, e01, Bool.false_eq_true]
  · rw [decide_eq_false z]
    refine ⟨h, ?_, fun Q => ?_⟩
    · show TW h (T ++ []) (if false = true then _ else t)
      rw [List.append_nil, if_neg (by decide)]
      exact W
    · show _ = wq X (d + 13) 102 422 [some (.ref 1), some (.ref 195), some (.ref 10000), some (.int c), some (.int (nI (T ++ []).length)), some (.int (nI m)), some (.int w), some (.int (nI (20 + 4 * m))), l8] [] h Q
      rw [List.append_nil]
      simp only [u102_378, u102_380, u102_382, u102_383, u102_384, u102_385, u102_386, eq_self, q_nl0, q_nlI, q_nlR, not_false_eq_true, q_nz0, q_nz1, q_zv0, q_zv1, q_tl1, q_tl0, q_wif, q_swc, q_swn, List.cons_append, List.nil_append, if_true, if_false, e10, e01, Bool.false_eq_true, bo, z]
theorem bn_4 (W : TW h T t) {c w : Int32} {m : Nat} (hm : m < 5) (hT : T.length ≤ 1400) {l7 l8 : Option Value} : ∃ g, TW g (T ++ (ouL (mHu w) [] ++ tb 30)) (if mHu w = true then up t 7 (t 7 ||| nI (2 ^ m)) else t) ∧ ∀ Q : QT, wq X (d + 13) 102 422 [some (.ref 1), some (.ref 195), some (.ref 10000), some (.int c), some (.int (nI T.length)), some (.int (nI m)), some (.int w), l7, l8] [] h Q = wq X (d + 13) 102 182 [some (.ref 1), some (.ref 195), some (.ref 10000), some (.int c), some (.int (nI (T ++ (ouL (mHu w) [] ++ tb 30)).length)), some (.int (nI (m + 1))), some (.int w), l7, l8] [] g Q := by
  have bo := b_o1 (w := w) (k := 13)
  rw [show nI 13 = (13 : Int32) from rfl] at bo
  unfold mHu
  by_cases z : bt1 w 13 = 1
  · have t7 : m_gI h 195 7 = t 7 := congrFun (tw_r W) 7
    obtain ⟨g1, W1, q1⟩ := l_says (X := X) (d := d) (i := 36) (tw_t W (up t 7 (t 7 ||| nI (2 ^ m)))) (by decide) (by decide) (by omega)
    have b1 := ln_app hT (Nat.le_refl (tb 36).length)
    rw [tl_36] at b1
    obtain ⟨g2, W2, q2⟩ := l_says (X := X) (d := d) (i := 30) W1 (by decide) (by decide) (by omega)
    have eT : T ++ tb 36 ++ tb 30 = T ++ (ouL true [] ++ tb 30) := by
      show _ = T ++ (tb 36 ++ [] ++ tb 30)
      rw [List.append_nil, List.append_assoc]
    rw [eT] at W2 q2
    rw [decide_eq_true z]
    refine ⟨g2, W2, fun Q => ?_⟩
    simp only [u102_422, u102_424, u102_426, u102_427, u102_428, u102_429, u102_430, u102_433, u102_434, u102_436, u102_437, u102_438, u102_439, u102_441, u102_442, u102_443, u102_444, u102_445, u102_447, u102_449, eq_self, q_nl0, q_nlI, q_nlR, not_false_eq_true, q_nz0, q_nz1, q_zv0, q_zv1, q_tl1, q_tl0, q_wif, q_swc, q_swn, List.cons_append, List.nil_append, if_true, if_false, e10, e01, Bool.false_eq_true, sh_195, bo, eq_true z, t_in7, t_cl7, t7, nI_sh m (show m < 8 by omega), hrow1 W, q1]
    simp only [u102_452, u102_454, u102_455, u102_457, u102_459, eq_self, q_nl0, q_nlI, q_nlR, not_false_eq_true, q_nz0, q_nz1, q_zv0, q_zv1, q_tl1, q_tl0, q_wif, q_swc, q_swn, List.cons_append, List.nil_append, if_true, if_false, e10, e01, Bool.false_eq_true, q2]
    simp only [u102_462, u102_464, u102_467, eq_self, q_nl0, q_nlI, q_nlR, not_false_eq_true, q_nz0, q_nz1, q_zv0, q_zv1, q_tl1, q_tl0, q_wif, q_swc, q_swn, List.cons_append, List.nil_append, if_true, if_false, e10, e01, Bool.false_eq_true, nI_1]
  · obtain ⟨g2, W2, q2⟩ := l_says (X := X) (d := d) (i := 30) W (by decide) (by decide) (by omega)
    rw [decide_eq_false z]
    refine ⟨g2, W2, fun Q => ?_⟩
    simp only [u102_422, u102_424, u102_426, u102_427, u102_428, u102_429, u102_430, u102_454, u102_455, u102_457, u102_459, eq_self, q_nl0, q_nlI, q_nlR, not_false_eq_true, q_nz0, q_nz1, q_zv0, q_zv1, q_tl1, q_tl0, q_wif, q_swc, q_swn, List.cons_append, List.nil_append, if_true, if_false, e10, e01, Bool.false_eq_true, bo, z, q2]
    simp only [u102_462, u102_464, u102_467, eq_self, q_nl0, q_nlI, q_nlR, not_false_eq_true, q_nz0, q_nz1, q_zv0, q_zv1, q_tl1, q_tl0, q_wif, q_swc, q_swn, List.cons_append, List.nil_append, if_true, if_false, e10, e01, Bool.false_eq_true, nI_1]
    rfl
end BN
