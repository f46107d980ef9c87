/-! same: crafts, demands, the end -/
theorem nI_div {a b : Nat} (ha : a < 2 ^ 31) (hb : b < 2 ^ 31) : nI a / nI b = nI (a / b) := by
  have hab : a / b < 2 ^ 31 := Nat.lt_of_le_of_lt (Nat.div_le_self a b) ha
  apply Int32.toInt_inj.mp
  rw [Int32.toInt_div_of_ne_left, nI_toInt ha, nI_toInt hb, nI_toInt hab]
  · exact (Int.ofNat_tdiv a b).symm
  · intro e
    have := congrArg Int32.toInt e
    rw [nI_toInt ha] at this
    have e2 : Int32.minValue.toInt = -2147483648 := by decide
    rw [e2] at this
    omega
theorem and_z {n : Nat} (h : n < 128) : n &&& (127 ^^^ 0) = n := by
  have : ∀ n, n < 128 → n &&& (127 ^^^ 0) = n := by decide +kernel
  exact this n h
section SAME2
variable {X : XT} {d : Nat} {h : HT} {τ : CT} {b : Nat} {A : Nat → Int32} {j : Nat} {A0 : Nat → Int32} {Z : Option (Nat → Int32)}
def smM (τ : CT) (A : Nat → Int32) (l12 : Int32) (j13 j14 j15 j16 : Option Value) : LT := [some (.ref 1), some (.ref 195), some (.ref 196), some (.int (nI (sAll τ))), some (.int (nI (sLoss τ (sAll τ)))), some (.int 1), some (.int (oI (fL (lgS A) none (τ 0 1)))), some (.int (nI (fL (bS (piP τ (aN A))) 0 (τ 0 1)))), some (.int (nI (fL (bS (idP τ (aN A))) 0 (τ 0 1)))), some (.int (oI (fL (deS τ (aN A)) none (τ 0 1)))), some (.int (nI (fL (twS τ) 0 (τ 0 1)))), some (.int (fL (stS A) 0 (τ 0 1))), some (.int l12), j13, j14, j15, j16]
theorem sm_crafts (hX : X.2 100000 ≠ 0) (L : LB τ b) (W : WW h τ b A A j A0 Z) (j13 j14 j15 : Option Value) : ∃ g, WW g τ b A A j A0 Z ∧ ∀ Q : QT, wq X (d + 11) 191 146 (smL τ A (τ 0 1) j13 j14 j15) [] h Q = wq X (d + 11) 191 690 (smM τ A (nI (τ 0 0)) j13 j14 j15 none) [] g Q := by
  have h5 := L.2.2.1
  have h3 := L.2.1
  have s6 : m_sh (KS X) 196 = (20, 21) := sh_196 hX
  have K := ww_a W
  have hn := aN_lt L.1 K
  have h14 := K.1.1
  have hm : m_gI h 195 1 = nI (τ 0 1) := (ww_T W).1.2.1
  obtain ⟨g, W', e⟩ := q_loopI (α := HT) (fun i h => fun (Q : QT) => wq X (d + 11) 191 563 (smM τ A (nI i) j13 j14 j15 none) [] h Q) (fun _ h => WW h τ b A A j A0 Z) (τ 0 0) (by
    intro i hi h W
    have rw_ : ∀ {g : HT}, WW g τ b A A j A0 Z → ∀ k, m_gI g 196 k = A k := fun w k => congrFun (ww_C w) k
    have f1 : (nI i < nI (τ 0 0)) = True := eq_true (nI_lt hi (by omega))
    have hc : m_gI h 195 0 = nI (τ 0 0) := (ww_T W).1.1
    have e1 : m_in (nI (10 + 2 * i)) 70 = true := t_in (by omega)
    have e2 : (nI (10 + 2 * i)).toNatClampNeg = 10 + 2 * i := t_cl (by omega)
    have e3 : m_in (nI (11 + 2 * i)) 70 = true := t_in (by omega)
    have e4 : (nI (11 + 2 * i)).toNatClampNeg = 11 + 2 * i := t_cl (by omega)
    have hb := bit_i (s128 L.1 (aN A)) (show i < 8 by omega)
    have hz := and_z (sMen_lt L.1 i)
    obtain ⟨g0, W0, q0⟩ := w_ask W (fun T H => a_craft0 (X := X) (d := d) H hi (w := 0) rfl)
    obtain ⟨g1, W1, q1⟩ := w_ask W0 (fun T H => a_craft1 (X := X) (d := d) H hi (w := 1) rfl)
    obtain ⟨g2, W2, q2⟩ := w_ask W1 (fun T H => a_craft2 (X := X) (d := d) H hi (w := 2) rfl)
    obtain ⟨g3, W3, q3⟩ := w_ask W2 (fun T H => a_craft3 (X := X) (d := d) H hi (w := 3) rfl)
    obtain ⟨g4, W4, q4⟩ := w_ask W3 (fun T H => a_craft4 (X := X) (d := d) H hi (w := 4) rfl)
    have l1 := fun (Q : QT) => l_in (X := X) (d := d + 9) (ww_T W1) L hn hi Q
    have l2 := fun (Q : QT) => l_brief (X := X) (d := d + 8) (ww_T W2) L hn Q
    have l3 := fun (Q : QT) => l_in (X := X) (d := d + 9) (n := 0) (ww_T W4) L (by decide) hi Q
    have n0 : nI 0 = (0 : Int32) := rfl
    simp only [hz, n0] at l3
    refine ⟨g4, W4, funext fun Q => ?_⟩
    show wq X (d + 11) 191 563 _ _ _ _ = _
    unfold smM
    rw [u191_563]
    simp only [u191_565, u191_566, u191_567, u191_568, u191_571, u191_573, u191_576, u191_577, u191_579, u191_580, eq_self, q_nl0, q_nlI, q_nlR, not_false_eq_true, q_nz0, q_nz1, q_zv0, q_zv1, q_tl1, q_tl0, q_wif, q_swc, q_swn, List.cons_append, List.nil_append, if_true, if_false, e10, e01, Bool.false_eq_true, sh_1, sh_195, t_in0, t_cl0, hc, f1, e10, q0]
    simp only [u191_583, u191_584, u191_586, u191_587, u191_589, u191_590, u191_591, u191_592, u191_595, u191_596, u191_598, u191_599, eq_self, q_nl0, q_nlI, q_nlR, not_false_eq_true, q_nz0, q_nz1, q_zv0, q_zv1, q_tl1, q_tl0, q_wif, q_swc, q_swn, List.cons_append, List.nil_append, if_true, if_false, e10, e01, Bool.false_eq_true, sh_1, sh_195, l_m2, l_a10, e1, e2, ((ww_T W0).2.1 i hi).1, q1]
    simp only [u191_602, u191_603, u191_604, u191_606, u191_607, u191_609, u191_612, u191_615, u191_616, u191_618, u191_619, eq_self, q_nl0, q_nlI, q_nlR, not_false_eq_true, q_nz0, q_nz1, q_zv0, q_zv1, q_tl1, q_tl0, q_wif, q_swc, q_swn, List.cons_append, List.nil_append, if_true, if_false, e10, e01, Bool.false_eq_true, sh_1, s6, c_in14, cl14, rw_ W1, h14, l1, q2]
    simp only [u191_622, u191_623, u191_624, u191_626, u191_627, u191_630, u191_632, u191_633, u191_634, u191_635, u191_638, u191_639, u191_641, u191_642, eq_self, q_nl0, q_nlI, q_nlR, not_false_eq_true, q_nz0, q_nz1, q_zv0, q_zv1, q_tl1, q_tl0, q_wif, q_swc, q_swn, List.cons_append, List.nil_append, if_true, if_false, e10, e01, Bool.false_eq_true, sh_1, s6, c_in14, cl14, rw_ W2, h14, l2, hb, q3]
    simp only [u191_645, u191_646, u191_648, u191_649, u191_651, u191_652, u191_653, u191_654, u191_657, u191_658, u191_660, u191_661, eq_self, q_nl0, q_nlI, q_nlR, not_false_eq_true, q_nz0, q_nz1, q_zv0, q_zv1, q_tl1, q_tl0, q_wif, q_swc, q_swn, List.cons_append, List.nil_append, if_true, if_false, e10, e01, Bool.false_eq_true, sh_1, sh_195, l_m2, l_a11, e3, e4, ((ww_T W3).2.1 i hi).2, q4]
    simp only [u191_664, u191_667, u191_668, u191_669, u191_671, u191_674, u191_677, u191_678, u191_681, u191_682, u191_684, u191_687, eq_self, q_nl0, q_nlI, q_nlR, not_false_eq_true, q_nz0, q_nz1, q_zv0, q_zv1, q_tl1, q_tl0, q_wif, q_swc, q_swn, List.cons_append, List.nil_append, if_true, if_false, e10, e01, Bool.false_eq_true, c_bitCount (sMen_lt L.1 i), l3, nI_1]) h W
  refine ⟨g, W', fun Q => ?_⟩
  have e' := congrFun e Q
  have hc : m_gI g 195 0 = nI (τ 0 0) := (ww_T W').1.1
  refine Eq.trans ?_ (e'.trans ?_)
  · unfold smL
    simp only [u191_146, u191_148, u191_149, u191_150, u191_151, u191_560, u191_561, eq_self, q_nl0, q_nlI, q_nlR, not_false_eq_true, q_nz0, q_nz1, q_zv0, q_zv1, q_tl1, q_tl0, q_wif, q_swc, q_swn, List.cons_append, List.nil_append, if_true, if_false, e10, e01, Bool.false_eq_true, sh_195, t_in1, t_cl1, hm, eq_false (nI_nlt (Nat.le_refl (τ 0 1)) (show τ 0 1 < 2 ^ 31 by omega))]
    rfl
  · show wq X (d + 11) 191 563 _ _ _ _ = _
    unfold smM
    simp only [u191_563, u191_565, u191_566, u191_567, u191_568, eq_self, q_nl0, q_nlI, q_nlR, not_false_eq_true, q_nz0, q_nz1, q_zv0, q_zv1, q_tl1, q_tl0, q_wif, q_swc, q_swn, List.cons_append, List.nil_append, if_true, if_false, e10, e01, Bool.false_eq_true, sh_195, t_in0, t_cl0, hc, eq_false (nI_nlt (Nat.le_refl (τ 0 0)) (show τ 0 0 < 2 ^ 31 by omega))]
/-- how many days it pays -/
def paN (c a : Nat) : Nat := if a = 0 then 0 else (c + a - 1) / a
theorem pa_1 {c a k : Nat} (ha : 0 < a) : (k < paN c a) = (k * a < c) := by
  unfold paN
  rw [if_neg (by omega)]
  refine propext ⟨fun h => ?_, fun h => ?_⟩
  · have h1 := (Nat.le_div_iff_mul_le ha).mp (show k + 1 ≤ (c + a - 1) / a from h)
    rw [Nat.add_mul] at h1
    omega
  · refine Nat.lt_of_lt_of_le (Nat.lt_succ_self k) ((Nat.le_div_iff_mul_le ha).mpr ?_)
    rw [Nat.succ_mul]
    omega
theorem pa_le {c a : Nat} : paN c a ≤ c := by
  unfold paN
  split
  · omega
  · rename_i h
    refine Nat.le_of_lt_succ ((Nat.div_lt_iff_lt_mul (by omega)).mpr ?_)
    have : c + 1 ≤ (c + 1) * a := Nat.le_mul_of_pos_right _ (by omega)
    cases c with
    | zero => omega
    | succ c =>
      have : (c + 1) * 1 ≤ (c + 1) * a := Nat.mul_le_mul_left _ (by omega)
      show c + 1 + a - 1 < (c + 1 + 1) * a
      rw [Nat.succ_mul (c + 1)]
      omega
theorem pays_e {c a : Nat} (hc : c ≤ 999) (ha : a ≤ 396) : (if c = 0 then (0 : Int32) else if a = 0 then -1 else (nI c + nI a - 1) / nI a) = if a = 0 ∧ 0 < c then -1 else nI (paN c a) := by
  by_cases z : c = 0
  · rw [if_pos z, if_neg (by omega)]
    have : paN c a = 0 := by
      have := pa_le (c := c) (a := a)
      omega
    rw [this]
    rfl
  · rw [if_neg z]
    by_cases y : a = 0
    · rw [if_pos y, if_pos ⟨y, by omega⟩]
    · rw [if_neg y, if_neg (by omega)]
      unfold paN
      rw [if_neg y]
      obtain ⟨k, rfl⟩ : ∃ k, a = k + 1 := ⟨a - 1, by omega⟩
      rw [nI_add, show c + (k + 1) = c + k + 1 by omega, nI_dn, nI_div (by omega) (by omega)]
      rfl
theorem sm_days (L : LB τ b) {q : Nat} {l3 l4 l5 l6 l7 l8 l9 l10 l11 l12 l13 l14 : Int32} (hl : l4 = nI (sLoss τ (sAll τ))) (Q : QT) : wq X (d + 11) 191 768 [some (.ref 1), some (.ref 195), some (.ref 196), some (.int l3), some (.int l4), some (.int l5), some (.int l6), some (.int l7), some (.int l8), some (.int l9), some (.int l10), some (.int l11), some (.int l12), some (.int l13), some (.int l14), some (.int (nI (τ 7 q))), some (.int 0)] [] h Q = wq X (d + 11) 191 789 [some (.ref 1), some (.ref 195), some (.ref 196), some (.int l3), some (.int l4), some (.int l5), some (.int l6), some (.int l7), some (.int l8), some (.int l9), some (.int l10), some (.int l11), some (.int l12), some (.int l13), some (.int l14), some (.int (nI (τ 7 q))), some (.int (nI (paN (τ 7 q) (sLoss τ (sAll τ)))))] [] h Q := by
  subst hl
  have hc := o_co L.1 q
  have ha := sLoss_le L.1 (sAll τ)
  have hle := pa_le (c := τ 7 q) (a := sLoss τ (sAll τ))
  have mul : ∀ k, k ≤ 999 → k * sLoss τ (sAll τ) < 2 ^ 31 := fun k hk => by
    have := Nat.mul_le_mul hk ha
    omega
  have apos : (0 < nI (sLoss τ (sAll τ))) = (0 < sLoss τ (sAll τ)) := nI_ltB (a := 0) (by decide) (by omega)
  refine (q_loop (fun k => wq X (d + 11) 191 768 [some (.ref 1), some (.ref 195), some (.ref 196), some (.int l3), some (.int (nI (sLoss τ (sAll τ)))), some (.int l5), some (.int l6), some (.int l7), some (.int l8), some (.int l9), some (.int l10), some (.int l11), some (.int l12), some (.int l13), some (.int l14), some (.int (nI (τ 7 q))), some (.int (nI k))] [] h Q) (paN (τ 7 q) (sLoss τ (sAll τ))) ?_).trans ?_
  · intro k hk
    have h0 : 0 < sLoss τ (sAll τ) := by
      apply Nat.pos_of_ne_zero
      intro z
      unfold paN at hk
      rw [if_pos z] at hk
      omega
    have e1 : k * sLoss τ (sAll τ) < τ 7 q := by
      rw [← pa_1 h0]
      exact hk
    have e2 : (nI (k * sLoss τ (sAll τ)) < nI (τ 7 q)) = True := eq_true (nI_lt e1 (by omega))
    show wq X (d + 11) 191 768 _ _ _ _ = _
    rw [u191_768]
    simp only [u191_770, u191_772, u191_773, u191_775, u191_778, u191_780, u191_783, u191_786, eq_self, q_nl0, q_nlI, q_nlR, not_false_eq_true, q_nz0, q_nz1, q_zv0, q_zv1, q_tl1, q_tl0, q_wif, q_swc, q_swn, List.cons_append, List.nil_append, if_true, if_false, e10, e01, Bool.false_eq_true, pk_mul, e2, apos, eq_true h0, nI_1]
  · have e2 : (nI (paN (τ 7 q) (sLoss τ (sAll τ)) * sLoss τ (sAll τ)) < nI (τ 7 q)) = (paN (τ 7 q) (sLoss τ (sAll τ)) * sLoss τ (sAll τ) < τ 7 q) := nI_ltB (mul _ (by omega)) (by omega)
    rw [u191_768]
    simp only [u191_770, u191_772, u191_773, u191_775, eq_self, q_nl0, q_nlI, q_nlR, not_false_eq_true, q_nz0, q_nz1, q_zv0, q_zv1, q_tl1, q_tl0, q_wif, q_swc, q_swn, List.cons_append, List.nil_append, if_true, if_false, e10, e01, Bool.false_eq_true, pk_mul, e2]
    by_cases z : paN (τ 7 q) (sLoss τ (sAll τ)) * sLoss τ (sAll τ) < τ 7 q
    · have : sLoss τ (sAll τ) = 0 := by
        apply Classical.byContradiction
        intro w
        rw [← pa_1 (Nat.pos_of_ne_zero w)] at z
        omega
      have nz : ¬ 0 < sLoss τ (sAll τ) := by omega
      simp only [z, u191_778, u191_780, eq_self, q_nl0, q_nlI, q_nlR, not_false_eq_true, q_nz0, q_nz1, q_zv0, q_zv1, q_tl1, q_tl0, q_wif, q_swc, q_swn, List.cons_append, List.nil_append, if_true, if_false, e10, e01, Bool.false_eq_true, apos, nz]
    · simp only [z, eq_self, q_nl0, q_nlI, q_nlR, not_false_eq_true, q_nz0, q_nz1, q_zv0, q_zv1, q_tl1, q_tl0, q_wif, q_swc, q_swn, List.cons_append, List.nil_append, if_true, if_false, e10, e01, Bool.false_eq_true]
theorem sm_demands (hX : X.2 100000 ≠ 0) (L : LB τ b) (W : WW h τ b A A j A0 Z) (j13 j14 j15 : Option Value) : ∃ g g0 j14' j15' j16', g0 < 2 ^ τ 0 2 ∧ A 15 = nI g0 ∧ WW g τ b A A j A0 Z ∧ ∀ Q : QT, wq X (d + 11) 191 690 (smM τ A (nI (τ 0 0)) j13 j14 j15 none) [] h Q = wq X (d + 11) 191 905 (smM τ A (nI (brL τ g0 (τ 0 2))) (some (.int (nI (τ 0 2)))) j14' j15' j16') [] g Q := by
  have h5 := L.2.2.2.1
  have s6 : m_sh (KS X) 196 = (20, 21) := sh_196 hX
  have K := ww_a W
  obtain ⟨g0, hg0, eg⟩ := K.2.1
  have hg1 : g0 < 128 := Nat.lt_of_lt_of_le hg0 (p2_7 (by omega))
  obtain ⟨l', W', e⟩ := q_loopI (α := HT × Option Value × Option Value × Option Value) (fun i l => fun (Q : QT) => wq X (d + 11) 191 696 (smM τ A (nI (brL τ g0 i)) (some (.int (nI i))) l.2.1 l.2.2.1 l.2.2.2) [] l.1 Q) (fun _ l => WW l.1 τ b A A j A0 Z) (τ 0 2) (by
    rintro i hi ⟨h, j14, j15, j16⟩ W
    have rw_ : ∀ {g : HT}, WW g τ b A A j A0 Z → ∀ k, m_gI g 196 k = A k := fun w k => congrFun (ww_C w) k
    have f1 : (nI i < nI (τ 0 2)) = True := eq_true (nI_lt hi (by omega))
    have hc : m_gI h 195 2 = nI (τ 0 2) := (ww_T W).1.2.2.1
    have e1 : m_in (nI (50 + 2 * i)) 70 = true := t_in (by omega)
    have e2 : (nI (50 + 2 * i)).toNatClampNeg = 50 + 2 * i := t_cl (by omega)
    have e3 : m_in (nI (51 + 2 * i)) 70 = true := t_in (by omega)
    have e4 : (nI (51 + 2 * i)).toNatClampNeg = 51 + 2 * i := t_cl (by omega)
    have hb := bit_i hg1 (show i < 8 by omega)
    have hco := o_co L.1 i
    have ha := sLoss_le L.1 (sAll τ)
    obtain ⟨h0, W0, q0⟩ := w_ask W (fun T H => a_demand0 (X := X) (d := d) H hi hg0 eg (w := 0) rfl)
    obtain ⟨h1, W1, q1⟩ := w_ask W0 (fun T H => a_demand1 (X := X) (d := d) H hi hg0 eg (w := 1) rfl)
    obtain ⟨h2, W2, q2⟩ := w_ask W1 (fun T H => a_demand2 (X := X) (d := d) H hi hg0 eg (w := 2) rfl)
    obtain ⟨h3, W3, q3⟩ := w_ask W2 (fun T H => a_demand3 (X := X) (d := d) H hi hg0 eg (w := 3) rfl)
    obtain ⟨h4, W4, q4⟩ := w_ask W3 (fun T H => a_pays (X := X) (d := d) H hi)
    rw [pays_e hco ha] at q4
    have lt1 : (nI (sLoss τ (sAll τ)) < nI (τ 7 i)) = (sLoss τ (sAll τ) < τ 7 i) := nI_ltB (by omega) (by omega)
    have ek : (sKept τ i = true) = ¬ (sLoss τ (sAll τ) < τ 7 i) := by
      unfold sKept
      rw [decide_eq_true_eq]
      exact propext (by omega)
    have ek' : (sKept τ i = false) = (sLoss τ (sAll τ) < τ 7 i) := by
      unfold sKept
      rw [decide_eq_false_iff_not]
      exact propext (by omega)
    have lt2 : (0 < nI (τ 7 i)) = (0 < τ 7 i) := nI_ltB (a := 0) (by decide) (by omega)
    have az : (nI (sLoss τ (sAll τ)) = 0) = (sLoss τ (sAll τ) = 0) := nI_eqB (b := 0) (by omega) (by decide)
    refine ⟨⟨h4, some (.int (if g0.testBit i = true then 1 else 0)), some (.int (nI (τ 7 i))), some (.int (nI (paN (τ 7 i) (sLoss τ (sAll τ)))))⟩, W4, funext fun Q => ?_⟩
    have es : brL τ g0 (i + 1) = if g0.testBit i = true ∧ sKept τ i = false then brL τ g0 i ||| 2 ^ i else brL τ g0 i := rfl
    have hd := fun l12 l14 => sm_days (X := X) (d := d) (h := h) (q := i) (l3 := nI (sAll τ)) (l4 := nI (sLoss τ (sAll τ))) (l5 := 1) (l6 := oI (fL (lgS A) none (τ 0 1))) (l7 := nI (fL (bS (piP τ (aN A))) 0 (τ 0 1))) (l8 := nI (fL (bS (idP τ (aN A))) 0 (τ 0 1))) (l9 := oI (fL (deS τ (aN A)) none (τ 0 1))) (l10 := nI (fL (twS τ) 0 (τ 0 1))) (l11 := fL (stS A) 0 (τ 0 1)) (l12 := l12) (l13 := nI i) (l14 := l14) L rfl Q
    show wq X (d + 11) 191 696 _ _ _ _ = _
    unfold smM
    simp only [es, ek']
    have tail : ∀ l12 : Int32, wq X (d + 11) 191 768 [some (.ref 1), some (.ref 195), some (.ref 196), some (.int (nI (sAll τ))), some (.int (nI (sLoss τ (sAll τ)))), some (.int 1), some (.int (oI (fL (lgS A) none (τ 0 1)))), some (.int (nI (fL (bS (piP τ (aN A))) 0 (τ 0 1)))), some (.int (nI (fL (bS (idP τ (aN A))) 0 (τ 0 1)))), some (.int (oI (fL (deS τ (aN A)) none (τ 0 1)))), some (.int (nI (fL (twS τ) 0 (τ 0 1)))), some (.int (fL (stS A) 0 (τ 0 1))), some (.int l12), some (.int (nI i)), some (.int (if g0.testBit i = true then 1 else 0)), some (.int (nI (τ 7 i))), some (.int 0)] [] h Q = wq X (d + 11) 191 696 [some (.ref 1), some (.ref 195), some (.ref 196), some (.int (nI (sAll τ))), some (.int (nI (sLoss τ (sAll τ)))), some (.int 1), some (.int (oI (fL (lgS A) none (τ 0 1)))), some (.int (nI (fL (bS (piP τ (aN A))) 0 (τ 0 1)))), some (.int (nI (fL (bS (idP τ (aN A))) 0 (τ 0 1)))), some (.int (oI (fL (deS τ (aN A)) none (τ 0 1)))), some (.int (nI (fL (twS τ) 0 (τ 0 1)))), some (.int (fL (stS A) 0 (τ 0 1))), some (.int l12), some (.int (nI (i + 1))), some (.int (if g0.testBit i = true then 1 else 0)), some (.int (nI (τ 7 i))), some (.int (nI (paN (τ 7 i) (sLoss τ (sAll τ)))))] [] h4 Q := by
      intro l12
      rw [hd]
      simp only [u191_789, u191_790, u191_792, u191_793, eq_self, q_nl0, q_nlI, q_nlR, not_false_eq_true, q_nz0, q_nz1, q_zv0, q_zv1, q_tl1, q_tl0, q_wif, q_swc, q_swn, List.cons_append, List.nil_append, if_true, if_false, e10, e01, Bool.false_eq_true, sh_1, q0]
      simp only [u191_796, u191_798, u191_801, u191_802, u191_804, u191_805, eq_self, q_nl0, q_nlI, q_nlR, not_false_eq_true, q_nz0, q_nz1, q_zv0, q_zv1, q_tl1, q_tl0, q_wif, q_swc, q_swn, List.cons_append, List.nil_append, if_true, if_false, e10, e01, Bool.false_eq_true, sh_1, q1]
      simp only [u191_808, u191_809, u191_811, u191_812, u191_814, u191_815, u191_816, u191_817, u191_820, u191_821, u191_823, u191_824, eq_self, q_nl0, q_nlI, q_nlR, not_false_eq_true, q_nz0, q_nz1, q_zv0, q_zv1, q_tl1, q_tl0, q_wif, q_swc, q_swn, List.cons_append, List.nil_append, if_true, if_false, e10, e01, Bool.false_eq_true, sh_1, sh_195, l_m2, l_a51, e3, e4, ((ww_T W1).2.2.2 i hi).2, q2]
      by_cases z : g0.testBit i = true
      · simp only [z, if_true, true_and, ek] at q3 ⊢
        simp only [u191_827, u191_829, u191_832, u191_833, u191_836, u191_837, u191_840, u191_841, u191_843, u191_844, eq_self, q_nl0, q_nlI, q_nlR, not_false_eq_true, q_nz0, q_nz1, q_zv0, q_zv1, q_tl1, q_tl0, q_wif, q_swc, q_swn, List.cons_append, List.nil_append, if_true, if_false, e10, e01, Bool.false_eq_true, sh_1, q3]
        by_cases y : sLoss τ (sAll τ) < τ 7 i
        · simp only [u191_847, u191_849, u191_852, u191_854, u191_856, u191_859, u191_860, u191_863, u191_864, u191_867, u191_868, u191_870, eq_self, q_nl0, q_nlI, q_nlR, not_false_eq_true, q_nz0, q_nz1, q_zv0, q_zv1, q_tl1, q_tl0, q_wif, q_swc, q_swn, List.cons_append, List.nil_append, if_true, if_false, e10, e01, Bool.false_eq_true, sh_1, lt1, y, not_true_eq_false, q4]
          by_cases x : sLoss τ (sAll τ) = 0
          · simp only [u191_873, u191_875, u191_878, u191_880, u191_883, u191_884, u191_887, u191_889, u191_892, u191_893, u191_896, u191_897, u191_899, u191_902, eq_self, q_nl0, q_nlI, q_nlR, not_false_eq_true, q_nz0, q_nz1, q_zv0, q_zv1, q_tl1, q_tl0, q_wif, q_swc, q_swn, List.cons_append, List.nil_append, if_true, if_false, e10, e01, Bool.false_eq_true, az, lt2, eq_true x, true_and, eq_true (show 0 < τ 7 i by omega), nI_1]
          · simp only [u191_873, u191_875, u191_878, u191_880, u191_883, u191_884, u191_887, u191_889, u191_892, u191_893, u191_896, u191_897, u191_899, u191_902, eq_self, q_nl0, q_nlI, q_nlR, not_false_eq_true, q_nz0, q_nz1, q_zv0, q_zv1, q_tl1, q_tl0, q_wif, q_swc, q_swn, List.cons_append, List.nil_append, if_true, if_false, e10, e01, Bool.false_eq_true, az, lt2, x, false_and, nI_1]
        · simp only [u191_847, u191_849, u191_852, u191_854, u191_856, u191_859, u191_860, u191_863, u191_864, u191_867, u191_868, u191_870, eq_self, q_nl0, q_nlI, q_nlR, not_false_eq_true, q_nz0, q_nz1, q_zv0, q_zv1, q_tl1, q_tl0, q_wif, q_swc, q_swn, List.cons_append, List.nil_append, if_true, if_false, e10, e01, Bool.false_eq_true, sh_1, lt1, y, not_false_eq_true, q4]
          by_cases x : sLoss τ (sAll τ) = 0
          · simp only [u191_873, u191_875, u191_878, u191_880, u191_883, u191_884, u191_887, u191_889, u191_892, u191_893, u191_896, u191_897, u191_899, u191_902, eq_self, q_nl0, q_nlI, q_nlR, not_false_eq_true, q_nz0, q_nz1, q_zv0, q_zv1, q_tl1, q_tl0, q_wif, q_swc, q_swn, List.cons_append, List.nil_append, if_true, if_false, e10, e01, Bool.false_eq_true, az, lt2, eq_true x, true_and, eq_false (show ¬ 0 < τ 7 i by omega), nI_1]
          · simp only [u191_873, u191_875, u191_878, u191_880, u191_883, u191_884, u191_887, u191_889, u191_892, u191_893, u191_896, u191_897, u191_899, u191_902, eq_self, q_nl0, q_nlI, q_nlR, not_false_eq_true, q_nz0, q_nz1, q_zv0, q_zv1, q_tl1, q_tl0, q_wif, q_swc, q_swn, List.cons_append, List.nil_append, if_true, if_false, e10, e01, Bool.false_eq_true, az, lt2, x, false_and, nI_1]
      · simp only [z, if_false, false_and, Bool.false_eq_true] at q3 ⊢
        simp only [u191_827, u191_829, u191_832, u191_833, u191_836, u191_837, u191_840, u191_841, u191_843, u191_844, u191_847, u191_849, u191_852, u191_854, u191_856, u191_859, u191_860, u191_863, u191_864, u191_867, u191_868, u191_870, eq_self, q_nl0, q_nlI, q_nlR, not_false_eq_true, q_nz0, q_nz1, q_zv0, q_zv1, q_tl1, q_tl0, q_wif, q_swc, q_swn, List.cons_append, List.nil_append, if_true, if_false, e10, e01, Bool.false_eq_true, sh_1, q3, q4]
        by_cases x : sLoss τ (sAll τ) = 0
        · by_cases y : 0 < τ 7 i
          · simp only [u191_873, u191_875, u191_878, u191_880, u191_883, u191_884, u191_887, u191_889, u191_892, u191_893, u191_896, u191_897, u191_899, u191_902, eq_self, q_nl0, q_nlI, q_nlR, not_false_eq_true, q_nz0, q_nz1, q_zv0, q_zv1, q_tl1, q_tl0, q_wif, q_swc, q_swn, List.cons_append, List.nil_append, if_true, if_false, e10, e01, Bool.false_eq_true, az, lt2, eq_true x, y, true_and, nI_1]
          · simp only [u191_873, u191_875, u191_878, u191_880, u191_883, u191_884, u191_887, u191_889, u191_892, u191_893, u191_896, u191_897, u191_899, u191_902, eq_self, q_nl0, q_nlI, q_nlR, not_false_eq_true, q_nz0, q_nz1, q_zv0, q_zv1, q_tl1, q_tl0, q_wif, q_swc, q_swn, List.cons_append, List.nil_append, if_true, if_false, e10, e01, Bool.false_eq_true, az, lt2, eq_true x, y, and_false, nI_1]
        · simp only [u191_873, u191_875, u191_878, u191_880, u191_883, u191_884, u191_887, u191_889, u191_892, u191_893, u191_896, u191_897, u191_899, u191_902, eq_self, q_nl0, q_nlI, q_nlR, not_false_eq_true, q_nz0, q_nz1, q_zv0, q_zv1, q_tl1, q_tl0, q_wif, q_swc, q_swn, List.cons_append, List.nil_append, if_true, if_false, e10, e01, Bool.false_eq_true, az, lt2, x, false_and, nI_1]
    by_cases z : g0.testBit i = true
    · simp only [z, if_true] at tail
      rw [u191_696]
      simp only [u191_698, u191_699, u191_700, u191_701, u191_704, u191_706, u191_709, u191_710, u191_712, u191_713, u191_715, u191_716, u191_717, u191_718, u191_719, u191_722, u191_723, u191_726, u191_727, u191_729, u191_730, u191_732, u191_733, u191_735, u191_736, u191_737, u191_738, u191_740, u191_742, u191_744, eq_self, q_nl0, q_nlI, q_nlR, not_false_eq_true, q_nz0, q_nz1, q_zv0, q_zv1, q_tl1, q_tl0, q_wif, q_swc, q_swn, List.cons_append, List.nil_append, if_true, if_false, e10, e01, Bool.false_eq_true, sh_1, sh_195, s6, t_in2, t_cl2, hc, f1, c_in15, cl15, rw_ W, eg, hb, z, l_m2, l_a50, e1, e2, ((ww_T W).2.2.2 i hi).1, e10]
      by_cases y : sLoss τ (sAll τ) < τ 7 i
      · simp only [u191_747, u191_749, u191_751, u191_754, u191_755, u191_757, u191_758, u191_761, u191_762, u191_763, u191_765, u191_766, eq_self, q_nl0, q_nlI, q_nlR, not_false_eq_true, q_nz0, q_nz1, q_zv0, q_zv1, q_tl1, q_tl0, q_wif, q_swc, q_swn, List.cons_append, List.nil_append, if_true, if_false, e10, e01, Bool.false_eq_true, lt1, y, and_self, nI_sh i (show i < 8 by omega), nI_or]
        exact tail _
      · simp only [u191_747, u191_749, u191_751, u191_754, u191_755, u191_757, u191_758, u191_761, u191_762, u191_763, u191_765, u191_766, eq_self, q_nl0, q_nlI, q_nlR, not_false_eq_true, q_nz0, q_nz1, q_zv0, q_zv1, q_tl1, q_tl0, q_wif, q_swc, q_swn, List.cons_append, List.nil_append, if_true, if_false, e10, e01, Bool.false_eq_true, lt1, y, and_false, Int32.or_zero]
        exact tail _
    · simp only [z, if_false] at tail
      rw [u191_696]
      simp only [u191_698, u191_699, u191_700, u191_701, u191_704, u191_706, u191_709, u191_710, u191_712, u191_713, u191_715, u191_716, u191_717, u191_718, u191_719, u191_722, u191_723, u191_726, u191_727, u191_729, u191_730, u191_732, u191_733, u191_735, u191_736, u191_737, u191_738, u191_740, u191_742, u191_744, u191_747, u191_749, u191_751, u191_754, u191_755, u191_757, u191_758, u191_761, u191_762, u191_763, u191_765, u191_766, eq_self, q_nl0, q_nlI, q_nlR, not_false_eq_true, q_nz0, q_nz1, q_zv0, q_zv1, q_tl1, q_tl0, q_wif, q_swc, q_swn, List.cons_append, List.nil_append, if_true, if_false, e10, e01, Bool.false_eq_true, sh_1, sh_195, s6, t_in2, t_cl2, hc, f1, c_in15, cl15, rw_ W, eg, hb, z, l_m2, l_a50, e1, e2, ((ww_T W).2.2.2 i hi).1, e10, false_and, Int32.or_zero]
      exact tail _) ⟨h, j14, j15, none⟩ W
  refine ⟨l'.1, g0, l'.2.1, l'.2.2.1, l'.2.2.2, hg0, eg, W', fun Q => ?_⟩
  have e' := congrFun e Q
  have hc : m_gI l'.1 195 2 = nI (τ 0 2) := (ww_T W').1.2.2.1
  refine Eq.trans ?_ (e'.trans ?_)
  · unfold smM
    simp only [u191_690, u191_691, u191_693, u191_694, eq_self, q_nl0, q_nlI, q_nlR, not_false_eq_true, q_nz0, q_nz1, q_zv0, q_zv1, q_tl1, q_tl0, q_wif, q_swc, q_swn, List.cons_append, List.nil_append, if_true, if_false, e10, e01, Bool.false_eq_true]
    rfl
  · show wq X (d + 11) 191 696 _ _ _ _ = _
    unfold smM
    simp only [u191_696, u191_698, u191_699, u191_700, u191_701, eq_self, q_nl0, q_nlI, q_nlR, not_false_eq_true, q_nz0, q_nz1, q_zv0, q_zv1, q_tl1, q_tl0, q_wif, q_swc, q_swn, List.cons_append, List.nil_append, if_true, if_false, e10, e01, Bool.false_eq_true, sh_195, t_in2, t_cl2, hc, eq_false (nI_nlt (Nat.le_refl (τ 0 2)) (show τ 0 2 < 2 ^ 31 by omega))]
/-- same(o, t, c): 1 -/
theorem l_same (hX : X.2 100000 ≠ 0) (L : LB τ b) (W : WW h τ b A A j A0 Z) : ∃ g, WW g τ b A A j A0 Z ∧ ∀ Q : QT, wq X (d + 11) 191 0 [some (.ref 1), some (.ref 195), some (.ref 196), none, none, none, none, none, none, none, none, none, none, none, none, none, none] [] h Q = Q (some (.int 1)) g := by
  have s6 : m_sh (KS X) 196 = (20, 21) := sh_196 hX
  have K := ww_a W
  have hn := aN_lt L.1 K
  have h14 := K.1.1
  obtain ⟨g1, W1, q1⟩ := sm_0 (X := X) (d := d) hX L W
  obtain ⟨g2, j13, j14, j15, W2, q2⟩ := sm_men (X := X) (d := d) hX L W1
  obtain ⟨g3, W3, q3⟩ := sm_crafts (X := X) (d := d) hX L W2 j13 j14 j15
  obtain ⟨g4, g0, k14, k15, k16, hg0, eg, W4, q4⟩ := sm_demands (X := X) (d := d) hX L W3 j13 j14 j15
  obtain ⟨f0, V0, r0⟩ := w_ask W4 (fun T H => a_broken (X := X) (d := d) H hg0 eg)
  obtain ⟨f1, V1, r1⟩ := w_ask V0 (fun T H => a_longest (X := X) (d := d) H (by decide))
  obtain ⟨f2, V2, r2⟩ := w_ask V1 (fun T H => a_pillars (X := X) (d := d) H)
  obtain ⟨f3, V3, r3⟩ := w_ask V2 (fun T H => a_idle (X := X) (d := d) H)
  obtain ⟨f4, V4, r4⟩ := w_ask V3 (fun T H => a_dearest (X := X) (d := d) H)
  obtain ⟨f5, V5, r5⟩ := w_ask V4 (fun T H => a_twins (X := X) (d := d) H)
  obtain ⟨f6, V6, r6⟩ := w_ask V5 (fun T H => a_stock (X := X) (d := d) H)
  have rw_ : ∀ k, m_gI f6 196 k = A k := fun k => congrFun (ww_C V6) k
  have hp8 := pcN_le _ hn
  have p0 : (nI (pcN (aN A)) = 0) = (aN A = 0) := (nI_eqB (b := 0) (by omega) (by decide)).trans (pc_0 _ hn)
  refine ⟨f6, V6, fun Q => ?_⟩
  refine (q1 Q).trans (Eq.trans (b := wq X (d + 11) 191 146 (smL τ A 0 none none none) [] g1 Q) rfl ((q2 Q).trans ((q3 Q).trans ((q4 Q).trans ?_))))
  unfold smM
  simp only [u191_905, u191_907, u191_910, u191_911, eq_self, q_nl0, q_nlI, q_nlR, not_false_eq_true, q_nz0, q_nz1, q_zv0, q_zv1, q_tl1, q_tl0, q_wif, q_swc, q_swn, List.cons_append, List.nil_append, if_true, if_false, e10, e01, Bool.false_eq_true, sh_1, e10, r0]
  simp only [u191_914, u191_916, u191_919, u191_920, eq_self, q_nl0, q_nlI, q_nlR, not_false_eq_true, q_nz0, q_nz1, q_zv0, q_zv1, q_tl1, q_tl0, q_wif, q_swc, q_swn, List.cons_append, List.nil_append, if_true, if_false, e10, e01, Bool.false_eq_true, sh_1, r1]
  simp only [u191_923, u191_925, u191_928, u191_929, eq_self, q_nl0, q_nlI, q_nlR, not_false_eq_true, q_nz0, q_nz1, q_zv0, q_zv1, q_tl1, q_tl0, q_wif, q_swc, q_swn, List.cons_append, List.nil_append, if_true, if_false, e10, e01, Bool.false_eq_true, sh_1, r2]
  simp only [u191_932, u191_934, u191_937, u191_938, eq_self, q_nl0, q_nlI, q_nlR, not_false_eq_true, q_nz0, q_nz1, q_zv0, q_zv1, q_tl1, q_tl0, q_wif, q_swc, q_swn, List.cons_append, List.nil_append, if_true, if_false, e10, e01, Bool.false_eq_true, sh_1, r3]
  simp only [u191_941, u191_943, u191_946, u191_947, eq_self, q_nl0, q_nlI, q_nlR, not_false_eq_true, q_nz0, q_nz1, q_zv0, q_zv1, q_tl1, q_tl0, q_wif, q_swc, q_swn, List.cons_append, List.nil_append, if_true, if_false, e10, e01, Bool.false_eq_true, sh_1, r4]
  simp only [u191_950, u191_952, u191_955, u191_956, eq_self, q_nl0, q_nlI, q_nlR, not_false_eq_true, q_nz0, q_nz1, q_zv0, q_zv1, q_tl1, q_tl0, q_wif, q_swc, q_swn, List.cons_append, List.nil_append, if_true, if_false, e10, e01, Bool.false_eq_true, sh_1, r5]
  simp only [u191_959, u191_961, u191_964, u191_965, eq_self, q_nl0, q_nlI, q_nlR, not_false_eq_true, q_nz0, q_nz1, q_zv0, q_zv1, q_tl1, q_tl0, q_wif, q_swc, q_swn, List.cons_append, List.nil_append, if_true, if_false, e10, e01, Bool.false_eq_true, sh_1, r6]
  by_cases z : aN A = 0
  · simp only [u191_968, u191_969, u191_971, u191_972, u191_975, u191_976, u191_979, u191_981, u191_982, u191_984, u191_985, u191_988, u191_989, u191_992, u191_993, u191_996, u191_997, eq_self, q_nl0, q_nlI, q_nlR, not_false_eq_true, q_nz0, q_nz1, q_zv0, q_zv1, q_tl1, q_tl0, q_wif, q_swc, q_swn, List.cons_append, List.nil_append, if_true, if_false, e10, e01, Bool.false_eq_true, s6, c_in14, cl14, rw_, h14, nI_0eq hn, eq_true z]
  · simp only [u191_968, u191_969, u191_971, u191_972, u191_975, u191_976, u191_979, u191_981, u191_982, u191_984, u191_985, u191_988, u191_989, u191_992, u191_993, u191_996, u191_997, eq_self, q_nl0, q_nlI, q_nlR, not_false_eq_true, q_nz0, q_nz1, q_zv0, q_zv1, q_tl1, q_tl0, q_wif, q_swc, q_swn, List.cons_append, List.nil_append, if_true, if_false, e10, e01, Bool.false_eq_true, s6, c_in14, cl14, rw_, h14, nI_0eq hn, z, c_bitCount hn, p0]
end SAME2
