/-! THE LAW WRITES A CITY: men -/
section BM
variable {X : XT} {d : Nat} {h : HT} {T : List Nat} {t : Nat → Int32}
/-- which crafts a man has -/
def bt1 (w : Int32) (k : Nat) : Nat := mkN 1 (w >>> (nI k &&& 31))
def skT (w : Int32) (n k s : Nat) : Bool := decide (bt1 w k ≠ 0) || (decide (n ≤ k + 1) && decide (s = 0))
def skS (w : Int32) (n : Nat) : Nat → Nat
  | 0 => 0
  | k + 1 => if skT w n k (skS w n k) = true then skS w n k ||| 2 ^ k else skS w n k
def skN (w : Int32) (n : Nat) : Nat → List Nat
  | 0 => []
  | k + 1 => if skT w n k (skS w n k) = true then skN w n k ++ [97 + k, 32] else skN w n k
theorem skS_lt {w : Int32} {n : Nat} : ∀ k, skS w n k < 2 ^ k
  | 0 => Nat.one_pos
  | k + 1 => by
    have ih := skS_lt (w := w) (n := n) k
    show (if skT w n k (skS w n k) = true then skS w n k ||| 2 ^ k else skS w n k) < 2 ^ (k + 1)
    split
    · exact orb (Nat.lt_trans ih (Nat.pow_lt_pow_right (by decide) (Nat.lt_succ_self k))) (Nat.lt_succ_self k)
    · exact Nat.lt_trans ih (Nat.pow_lt_pow_right (by decide) (Nat.lt_succ_self k))
theorem skS_pos {w : Int32} {n : Nat} (hn : 0 < n) : 0 < skS w n n := by
  obtain ⟨k, rfl⟩ : ∃ k, n = k + 1 := ⟨n - 1, by omega⟩
  show 0 < if skT w (k + 1) k (skS w (k + 1) k) = true then skS w (k + 1) k ||| 2 ^ k else skS w (k + 1) k
  by_cases z : skT w (k + 1) k (skS w (k + 1) k) = true
  · rw [if_pos z]
    apply Nat.pos_of_ne_zero
    intro e
    have := congrArg (fun x => x.testBit k) e
    simp at this
  · rw [if_neg z]
    unfold skT at z
    simp only [Bool.or_eq_true, Bool.and_eq_true, decide_eq_true_eq, not_or, not_and] at z
    have := z.2 (Nat.le_refl _)
    omega
/-- the names written are those of the set -/
def seg (s k : Nat) : List Nat := if s.testBit k = true then [97 + k, 32] else []
def segs (s : Nat) : Nat → List Nat
  | 0 => []
  | k + 1 => segs s k ++ seg s k
theorem segs_cg {s s' : Nat} : ∀ k, (∀ j, j < k → s.testBit j = s'.testBit j) → segs s k = segs s' k
  | 0, _ => rfl
  | k + 1, h => by
    show segs s k ++ seg s k = segs s' k ++ seg s' k
    rw [segs_cg k (fun j hj => h j (by omega))]
    unfold seg
    rw [h k (Nat.lt_succ_self k)]
theorem skN_e {w : Int32} {n : Nat} : ∀ k, skN w n k = segs (skS w n k) k
  | 0 => rfl
  | k + 1 => by
    have lt := skS_lt (w := w) (n := n) k
    show (if skT w n k (skS w n k) = true then skN w n k ++ [97 + k, 32] else skN w n k) = segs (if skT w n k (skS w n k) = true then skS w n k ||| 2 ^ k else skS w n k) k ++ seg (if skT w n k (skS w n k) = true then skS w n k ||| 2 ^ k else skS w n k) k
    rw [skN_e k]
    by_cases z : skT w n k (skS w n k) = true
    · simp only [z, if_true]
      congr 1
      · exact segs_cg k (fun j hj => by rw [Nat.testBit_or, Nat.testBit_two_pow, decide_eq_false (by omega), Bool.or_false])
      · unfold seg
        rw [if_pos (by rw [Nat.testBit_or, Nat.testBit_two_pow, decide_eq_true rfl, Bool.or_true])]
    · simp only [z, if_false, Bool.false_eq_true]
      unfold seg
      rw [if_neg (by rw [bit_ge lt (Nat.le_refl k)]; decide), List.append_nil]
theorem segs_3 : ∀ n, n ≤ 3 → ∀ s, s < 2 ^ n → nmL (ksl s) [] = segs s n := by decide +kernel
theorem nmL_app {ks U : List Nat} : nmL ks U = nmL ks [] ++ U := by
  induction ks with
  | nil => rfl
  | cons k ks ih =>
    show [97 + k, 32] ++ nmL ks U = [97 + k, 32] ++ nmL ks [] ++ U
    rw [ih, List.append_assoc]
theorem skN_len {w : Int32} {n : Nat} : ∀ k, (skN w n k).length ≤ 2 * k
  | 0 => Nat.le_refl _
  | k + 1 => by
    have ih := skN_len (w := w) (n := n) k
    show (if skT w n k (skS w n k) = true then skN w n k ++ [97 + k, 32] else skN w n k).length ≤ 2 * (k + 1)
    split
    · have := ln_app ih (ln_nm (k := k))
      omega
    · omega
theorem b_z1 {w : Int32} {k : Nat} : (w >>> (nI k &&& 31) &&& 1 = 0) = (bt1 w k = 0) := by
  have m := mk_e 1 (w >>> (nI k &&& 31)) (by decide)
  have e : w >>> (nI k &&& 31) &&& 1 = nI (bt1 w k) := m.1
  have l : bt1 w k ≤ 1 := m.2
  rw [e]
  exact nI_eqB (b := 0) (by omega) (by decide)
theorem b_o1 {w : Int32} {k : Nat} : (w >>> (nI k &&& 31) &&& 1 = 1) = (bt1 w k = 1) := by
  have m := mk_e 1 (w >>> (nI k &&& 31)) (by decide)
  have e : w >>> (nI k &&& 31) &&& 1 = nI (bt1 w k) := m.1
  have l : bt1 w k ≤ 1 := m.2
  rw [e]
  exact nI_eqB (b := 1) (by omega) (by decide)
/-- the crafts of a man -/
theorem bl_sk {c w : Int32} {n m : Nat} (W : TW h T t) (hn3 : n ≤ 3) (hn0 : 0 < n) (hm : m < 5) (t0 : t 0 = nI n) (ta : t (20 + 4 * m) = 0) (hT : T.length ≤ 1400) {l8 : Option Value} : ∃ g, TW g (T ++ skN w n n) (up t (20 + 4 * m) (nI (skS w n n))) ∧ ∀ Q : QT, wq X (d + 13) 102 247 [some (.ref 1), some (.ref 195), some (.ref 10000), some (.int c), some (.int (nI T.length)), some (.int (nI m)), some (.int w), some (.int (nI (20 + 4 * m))), some (.int 0)] [] h Q = wq X (d + 13) 102 315 [some (.ref 1), some (.ref 195), some (.ref 10000), some (.int c), some (.int (nI (T ++ skN w n n).length)), some (.int (nI m)), some (.int w), some (.int (nI (20 + 4 * m))), some (.int (nI n))] [] g Q := by
  have e1 : m_in (nI (20 + 4 * m)) 70 = true := t_in (by omega)
  have e2 : (nI (20 + 4 * m)).toNatClampNeg = 20 + 4 * m := t_cl (by omega)
  obtain ⟨g, W', e⟩ := q_loopI (α := HT) (fun k h => fun (Q : QT) => wq X (d + 13) 102 247 [some (.ref 1), some (.ref 195), some (.ref 10000), some (.int c), some (.int (nI (T ++ skN w n k).length)), some (.int (nI m)), some (.int w), some (.int (nI (20 + 4 * m))), some (.int (nI k))] [] h Q) (fun k h => TW h (T ++ skN w n k) (up t (20 + 4 * m) (nI (skS w n k)))) n (by
    intro k hk h W
    have f1 : (nI k < nI n) = True := eq_true (nI_lt hk (by omega))
    have eh := tw_as W
    have r0 : m_gI h 195 0 = nI n := (congrFun (tw_r W) 0).trans ((up_o (by omega)).trans t0)
    have ra : m_gI h 195 (20 + 4 * m) = nI (skS w n k) := (congrFun (tw_r W) _).trans up_s
    have lt := skS_lt (w := w) (n := n) k
    have lt8 : skS w n k < 8 := Nat.lt_of_lt_of_le lt (Nat.pow_le_pow_right (n := 2) (i := k) (j := 3) (by decide) (by omega))
    have a97 : (97 : Int32) + nI k = nI (97 + k) := nI_add 97 _
    have en : nI n - 1 = nI (n - 1) := by
      obtain ⟨u, rfl⟩ : ∃ u, n = u + 1 := ⟨n - 1, by omega⟩
      exact nI_dn
    have f2 : (nI k < nI (n - 1)) = (k < n - 1) := nI_ltB (by omega) (by omega)
    have f3 : (0 < nI (skS w n k)) = (0 < skS w n k) := ev_0 _ (by omega)
    have hl := ln_app (T := T) (Nat.le_refl _) (skN_len (w := w) (n := n) k)
    have es : skS w n (k + 1) = if skT w n k (skS w n k) = true then skS w n k ||| 2 ^ k else skS w n k := rfl
    have en2 : skN w n (k + 1) = if skT w n k (skS w n k) = true then skN w n k ++ [97 + k, 32] else skN w n k := rfl
    by_cases z : skT w n k (skS w n k) = true
    · have hrow : m_sI h 195 (20 + 4 * m) (nI (skS w n k ||| 2 ^ k)) = hC h 195 (up t (20 + 4 * m) (nI (skS w n k ||| 2 ^ k))) := by
        rw [show m_sI h 195 (20 + 4 * m) (nI (skS w n k ||| 2 ^ k)) = m_sI (hC h 195 (up t (20 + 4 * m) (nI (skS w n k)))) 195 (20 + 4 * m) (nI (skS w n k ||| 2 ^ k)) by rw [← eh], sI_hC]
        congr 1
        funext j
        show (if j = 20 + 4 * m then _ else if j = 20 + 4 * m then _ else t j) = if j = 20 + 4 * m then _ else t j
        by_cases e : j = 20 + 4 * m
        · rw [if_pos e, if_pos e]
        · rw [if_neg e, if_neg e, if_neg e]
      obtain ⟨g, W1, q1⟩ := l_name (X := X) (d := d) (k := k) (tw_t W (up t (20 + 4 * m) (nI (skS w n k ||| 2 ^ k)))) (by omega) (by omega)
      refine ⟨g, ?_, funext fun Q => ?_⟩
      · rw [es, en2, if_pos z, if_pos z, ← List.append_assoc]
        exact W1
      · have tail : wq X (d + 13) 102 285 [some (.ref 1), some (.ref 195), some (.ref 10000), some (.int c), some (.int (nI (T ++ skN w n k).length)), some (.int (nI m)), some (.int w), some (.int (nI (20 + 4 * m))), some (.int (nI k))] [] h Q = wq X (d + 13) 102 247 [some (.ref 1), some (.ref 195), some (.ref 10000), some (.int c), some (.int (nI (T ++ skN w n (k + 1)).length)), some (.int (nI m)), some (.int w), some (.int (nI (20 + 4 * m))), some (.int (nI (k + 1)))] [] g Q := by
          rw [en2, if_pos z, ← List.append_assoc]
          simp only [u102_285, u102_286, u102_288, u102_289, u102_290, u102_291, u102_293, u102_294, u102_295, u102_296, u102_297, u102_299, u102_301, u102_303, u102_304, eq_self, q_nl0, q_nlI, q_nlR, not_false_eq_true, q_nz0, q_nz1, q_zv0, q_zv1, q_tl1, q_tl0, q_wif, q_swc, q_swn, List.cons_append, List.nil_append, if_true, if_false, e10, e01, Bool.false_eq_true, sh_195, e1, e2, ra, nI_sh k (show k < 8 by omega), nI_or, hrow, a97, q1]
          simp only [u102_307, u102_309, u102_312, eq_self, q_nl0, q_nlI, q_nlR, not_false_eq_true, q_nz0, q_nz1, q_zv0, q_zv1, q_tl1, q_tl0, q_wif, q_swc, q_swn, List.cons_append, List.nil_append, if_true, if_false, e10, e01, Bool.false_eq_true, nI_1]
        show wq X (d + 13) 102 247 _ _ _ _ = _
        rw [u102_247]
        unfold skT at z
        simp only [Bool.or_eq_true, Bool.and_eq_true, decide_eq_true_eq] at z
        by_cases y : bt1 w k = 0
        · obtain ⟨z1, z2⟩ := z.resolve_left (fun q => q y)
          have nk : ¬ k < n - 1 := by omega
          have ns : ¬ 0 < skS w n k := by omega
          simp only [u102_249, u102_250, u102_251, u102_252, u102_255, u102_257, u102_259, u102_260, u102_261, u102_262, u102_265, u102_267, u102_268, u102_269, u102_270, u102_271, u102_272, u102_275, u102_276, u102_278, u102_279, u102_282, eq_self, q_nl0, q_nlI, q_nlR, not_false_eq_true, q_nz0, q_nz1, q_zv0, q_zv1, q_tl1, q_tl0, q_wif, q_swc, q_swn, List.cons_append, List.nil_append, if_true, if_false, e10, e01, Bool.false_eq_true, sh_195, t_in0, t_cl0, r0, f1, b_z1, eq_true y, en, f2, nk, e1, e2, ra, f3, ns]
          exact tail
        · simp only [u102_249, u102_250, u102_251, u102_252, u102_255, u102_257, u102_259, u102_260, u102_261, u102_262, eq_self, q_nl0, q_nlI, q_nlR, not_false_eq_true, q_nz0, q_nz1, q_zv0, q_zv1, q_tl1, q_tl0, q_wif, q_swc, q_swn, List.cons_append, List.nil_append, if_true, if_false, e10, e01, Bool.false_eq_true, sh_195, t_in0, t_cl0, r0, f1, b_z1, y]
          exact tail
    · refine ⟨h, ?_, funext fun Q => ?_⟩
      · rw [es, en2, if_neg z, if_neg z]
        exact W
      · show wq X (d + 13) 102 247 _ _ _ _ = _
        rw [u102_247, en2, if_neg z]
        unfold skT at z
        simp only [Bool.or_eq_true, Bool.and_eq_true, decide_eq_true_eq, not_or, not_and, Classical.not_not] at z
        obtain ⟨z1, z2⟩ := z
        by_cases nk : k < n - 1
        · simp only [u102_249, u102_250, u102_251, u102_252, u102_255, u102_257, u102_259, u102_260, u102_261, u102_262, u102_265, u102_267, u102_268, u102_269, u102_270, u102_271, u102_272, u102_309, u102_312, eq_self, q_nl0, q_nlI, q_nlR, not_false_eq_true, q_nz0, q_nz1, q_zv0, q_zv1, q_tl1, q_tl0, q_wif, q_swc, q_swn, List.cons_append, List.nil_append, if_true, if_false, e10, e01, Bool.false_eq_true, sh_195, t_in0, t_cl0, r0, f1, b_z1, eq_true z1, en, f2, nk, nI_1]
        · have ns : 0 < skS w n k := Nat.pos_of_ne_zero (z2 (by omega))
          simp only [u102_249, u102_250, u102_251, u102_252, u102_255, u102_257, u102_259, u102_260, u102_261, u102_262, u102_265, u102_267, u102_268, u102_269, u102_270, u102_271, u102_272, u102_275, u102_276, u102_278, u102_279, u102_282, u102_309, u102_312, eq_self, q_nl0, q_nlI, q_nlR, not_false_eq_true, q_nz0, q_nz1, q_zv0, q_zv1, q_tl1, q_tl0, q_wif, q_swc, q_swn, List.cons_append, List.nil_append, if_true, if_false, e10, e01, Bool.false_eq_true, sh_195, t_in0, t_cl0, r0, f1, b_z1, eq_true z1, en, f2, nk, e1, e2, ra, f3, ns, nI_1]) h (by
      rw [show skN w n 0 = [] from rfl, List.append_nil]
      have : up t (20 + 4 * m) (nI (skS w n 0)) = t := by
        funext j
        show (if j = 20 + 4 * m then nI 0 else t j) = t j
        by_cases e : j = 20 + 4 * m
        · rw [if_pos e, e, ta]
          rfl
        · rw [if_neg e]
      rw [this]
      exact W)
  refine ⟨g, W', fun Q => ?_⟩
  have e' := congrFun e Q
  have r0 : m_gI g 195 0 = nI n := (congrFun (tw_r W') 0).trans ((up_o (by omega)).trans t0)
  have a0 : T ++ skN w n 0 = T := List.append_nil T
  refine Eq.trans (b := wq X (d + 13) 102 247 [some (.ref 1), some (.ref 195), some (.ref 10000), some (.int c), some (.int (nI (T ++ skN w n 0).length)), some (.int (nI m)), some (.int w), some (.int (nI (20 + 4 * m))), some (.int (nI 0))] [] h Q) (by rw [a0]; rfl) (e'.trans ?_)
  show wq X (d + 13) 102 247 _ _ _ _ = _
  rw [u102_247]
  simp only [u102_249, u102_250, u102_251, u102_252, eq_self, q_nl0, q_nlI, q_nlR, not_false_eq_true, q_nz0, q_nz1, q_zv0, q_zv1, q_tl1, q_tl0, q_wif, q_swc, q_swn, List.cons_append, List.nil_append, if_true, if_false, e10, e01, Bool.false_eq_true, sh_195, t_in0, t_cl0, r0, eq_false (nI_nlt (Nat.le_refl n) (show n < 2 ^ 31 by omega))]
end BM
