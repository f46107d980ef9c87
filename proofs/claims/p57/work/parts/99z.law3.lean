/-! THE LAW: stops and presses -/
theorem or_cty {τ : CT} {n : Nat} (h7 : τ 0 1 ≤ 7) (hn : n < 2 ^ τ 0 1) : n ||| sCity τ n = sAll τ := by
  apply Nat.eq_of_testBit_eq
  intro i
  unfold sAll
  rw [Nat.testBit_or, Nat.testBit_two_pow_sub_one]
  by_cases z : i < τ 0 1
  · rw [sCity_bit (by omega), decide_eq_true z]
    cases n.testBit i <;> rfl
  · rw [bit_ge hn (by omega), city_ge (by omega), decide_eq_false z]
    rfl
theorem city_lt2 {τ : CT} {n : Nat} : sCity τ n < 2 ^ τ 0 1 := by
  have : 0 < 2 ^ τ 0 1 := Nat.two_pow_pos _
  refine Nat.lt_of_le_of_lt Nat.and_le_left ?_
  unfold sAll
  omega
theorem mod_self_lt {s k : Nat} (h : s < 2 ^ k) : s % 2 ^ k = s := Nat.mod_eq_of_lt h
section LAW3
variable {X : XT} {d : Nat} {h : HT} {τ : CT} {b : Nat} {A : Nat → Int32} {Z : Option (Nat → Int32)}
theorem lw_stop (L : LB τ b) {i : Nat} (hi : i < 5) (W : WW h τ b A A (i % 3) A Z) {c : Nat} (hc8 : c < 2 ^ τ 0 0) {k11 : Int32} {l13 l14 l15 l16 l17 l18 l19 l20 l21 l22 : Option Value} : ∃ g j13 j14, WW g τ b A A (i % 3) A none ∧ ∀ Q : QT, wq X (d + 12) 315 578 [some (.ref 10000), some (.ref 1), some (.ref 195), some (.int 1), some (.ref 196), some (.int (nI (sAll τ))), some (.int (nI i)), some (.int (A 18)), some (.int (nI (aN A))), some (.int (nI (sShort τ (aN A)))), some (.int (nI (sLoss τ (aN A)))), some (.int k11), some (.int (nI c)), l13, l14, l15, l16, l17, l18, l19, l20, l21, l22] [] h Q = wq X (d + 12) 315 578 [some (.ref 10000), some (.ref 1), some (.ref 195), some (.int 1), some (.ref 196), some (.int (nI (sAll τ))), some (.int (nI i)), some (.int (A 18)), some (.int (nI (aN A))), some (.int (nI (sShort τ (aN A)))), some (.int (nI (sLoss τ (aN A)))), some (.int k11), some (.int (nI (c + 1))), j13, j14, l15, l16, l17, l18, l19, l20, l21, l22] [] g Q := by
  have h5 := L.2.2.1
  have h3 := L.2.1
  have h7 := o_mn L.1
  have K := ww_a W
  have hn := aN_lt L.1 K
  have hw := K.1.2
  have hc128 : c < 128 := Nat.lt_of_lt_of_le hc8 (p2_7 (by omega))
  have h28 : 2 ^ τ 0 0 ≤ 128 := p2_7 (by omega)
  have f1 : (nI c < nI (2 ^ τ 0 0)) = True := eq_true (nI_lt hc8 (by omega))
  have hc0 : m_gI h 195 0 = nI (τ 0 0) := (ww_T W).1.1
  have hsh := nI_sh (τ 0 0) (show τ 0 0 < 8 by omega)
  have n3 : ¬ (3 : Int32) = 0 := by decide
  have m10 : ((0 : Int32) < -1) = False := eq_false (by decide)
  have m00 : ((0 : Int32) < 0) = False := eq_false (by decide)
  have m1z : ((-1 : Int32) = 0) = False := eq_false (by decide)
  have hal := sAll_lt L.1
  have sA := s128 L.1
  obtain ⟨g1, W1, q1⟩ := w_ask W (fun T H => a_stop1 (X := X) (d := d + 1) (w := 1) H hc8 rfl)
  have hm1 : m_gI g1 195 1 = nI (τ 0 1) := (ww_T W1).1.2.1
  cases e : fL (miS (soP τ c (aN A))) none (2 ^ τ 0 1) with
  | none =>
    rw [e] at q1
    simp only [oI_n] at q1
    have lb := fun (Q : QT) => l_brief (X := X) (d := d + 9) (ww_T W1) L hal Q
    have nz : ¬ c &&& (127 ^^^ sShort τ (sAll τ)) = 0 := by
      intro w
      refine miS_some (p := soP τ c (aN A)) (i := sCity τ (aN A)) ?_ _ city_lt2 e
      unfold soP
      rw [or_cty h7 hw, w, self_and (sCity_lt L.1)]
      rfl
    have nz' : ¬ nI (c &&& (127 ^^^ sShort τ (sAll τ))) = 0 := by
      rw [nI_0eq (and_128 hc128)]
      exact nz
    obtain ⟨g2, W2, q2⟩ := w_back (X := X) (d := d + 1) W1 (show i % 3 < 3 by omega)
    refine ⟨g2, some (.int (-1)), some (.int 0), W2, fun Q => ?_⟩
    rw [u315_578]
    simp only [u315_580, u315_581, u315_582, u315_583, u315_584, u315_585, u315_588, u315_589, u315_592, u315_593, u315_595, u315_596, eq_self, q_nl0, q_nlI, q_nlR, not_false_eq_true, q_nz0, q_nz1, q_zv0, q_zv1, q_tl1, q_tl0, q_wif, q_swc, q_swn, List.cons_append, List.nil_append, if_true, if_false, e10, e01, Bool.false_eq_true, sh_1, sh_195, t_in0, t_cl0, hc0, hsh, f1, q1]
    have cont : wq X (d + 12) 315 652 [some (.ref 10000), some (.ref 1), some (.ref 195), some (.int 1), some (.ref 196), some (.int (nI (sAll τ))), some (.int (nI i)), some (.int (A 18)), some (.int (nI (aN A))), some (.int (nI (sShort τ (aN A)))), some (.int (nI (sLoss τ (aN A)))), some (.int k11), some (.int (nI c)), some (.int (-1)), some (.int 0), l15, l16, l17, l18, l19, l20, l21, l22] [] g1 Q = wq X (d + 12) 315 578 [some (.ref 10000), some (.ref 1), some (.ref 195), some (.int 1), some (.ref 196), some (.int (nI (sAll τ))), some (.int (nI i)), some (.int (A 18)), some (.int (nI (aN A))), some (.int (nI (sShort τ (aN A)))), some (.int (nI (sLoss τ (aN A)))), some (.int k11), some (.int (nI (c + 1))), some (.int (-1)), some (.int 0), l15, l16, l17, l18, l19, l20, l21, l22] [] g2 Q := by
      simp only [u315_652, u315_653, u315_656, u315_658, u315_661, u315_663, u315_664, u315_666, u315_669, u315_670, u315_671, u315_672, u315_675, u315_677, u315_680, u315_682, u315_683, u315_685, eq_self, q_nl0, q_nlI, q_nlR, not_false_eq_true, q_nz0, q_nz1, q_zv0, q_zv1, q_tl1, q_tl0, q_wif, q_swc, q_swn, List.cons_append, List.nil_append, if_true, if_false, e10, e01, Bool.false_eq_true, sh_195, m1_lt0, lb]
      simp only [u315_688, u315_689, u315_690, u315_691, u315_694, u315_696, u315_699, u315_701, u315_703, u315_704, u315_705, u315_706, u315_709, u315_710, u315_712, u315_713, u315_714, eq_self, q_nl0, q_nlI, q_nlR, not_false_eq_true, q_nz0, q_nz1, q_zv0, q_zv1, q_tl1, q_tl0, q_wif, q_swc, q_swn, List.cons_append, List.nil_append, if_true, if_false, e10, e01, Bool.false_eq_true, sh_1, nI_not _ hc128 _ (sA _), nz', m1z, n3, rem3 i hi, q2]
      simp only [u315_717, u315_719, u315_722, u315_723, u315_726, u315_727, u315_728, u315_731, eq_self, q_nl0, q_nlI, q_nlR, not_false_eq_true, q_nz0, q_nz1, q_zv0, q_zv1, q_tl1, q_tl0, q_wif, q_swc, q_swn, List.cons_append, List.nil_append, if_true, if_false, e10, e01, Bool.false_eq_true, nI_1]
    simp only [u315_599, u315_601, u315_602, u315_604, u315_606, u315_607, u315_608, u315_609, u315_612, u315_613, u315_616, u315_618, eq_self, q_nl0, q_nlI, q_nlR, not_false_eq_true, q_nz0, q_nz1, q_zv0, q_zv1, q_tl1, q_tl0, q_wif, q_swc, q_swn, List.cons_append, List.nil_append, if_true, if_false, e10, e01, Bool.false_eq_true, sh_195, t_in1, t_cl1, hm1, m10]
    by_cases y : (0 : Int32) < nI (τ 0 1)
    · simp only [y, if_true]
      exact cont
    · simp only [y, if_false]
      exact cont
  | some s =>
    rw [e] at q1
    simp only [oI_s] at q1
    have hs := fO_lt (miS_o (p := soP τ c (aN A))) _ _ e
    have hs7 : s < 128 := Nat.lt_of_lt_of_le hs (p2_7 h7)
    have so := miS_sat _ _ e
    unfold soP at so
    rw [Bool.and_eq_true, decide_eq_true_eq, decide_eq_true_eq] at so
    obtain ⟨so1, so2⟩ := so
    rw [city_sub h7 hs7] at so1
    by_cases s0 : s = 0
    · subst s0
      rw [Nat.or_zero] at so2
      simp only [nI_n0] at q1
      obtain ⟨g2, W2, q2⟩ := w_about7 (X := X) (d := d + 1) W1
      obtain ⟨g3, W3, q3⟩ := w_back (X := X) (d := d + 1) W2 (show i % 3 < 3 by omega)
      refine ⟨g3, some (.int 0), some (.int 0), W3, fun Q => ?_⟩
      rw [u315_578]
      simp only [u315_580, u315_581, u315_582, u315_583, u315_584, u315_585, u315_588, u315_589, u315_592, u315_593, u315_595, u315_596, eq_self, q_nl0, q_nlI, q_nlR, not_false_eq_true, q_nz0, q_nz1, q_zv0, q_zv1, q_tl1, q_tl0, q_wif, q_swc, q_swn, List.cons_append, List.nil_append, if_true, if_false, e10, e01, Bool.false_eq_true, sh_1, sh_195, t_in0, t_cl0, hc0, hsh, f1, q1]
      have cont : wq X (d + 12) 315 652 [some (.ref 10000), some (.ref 1), some (.ref 195), some (.int 1), some (.ref 196), some (.int (nI (sAll τ))), some (.int (nI i)), some (.int (A 18)), some (.int (nI (aN A))), some (.int (nI (sShort τ (aN A)))), some (.int (nI (sLoss τ (aN A)))), some (.int k11), some (.int (nI c)), some (.int 0), some (.int 0), l15, l16, l17, l18, l19, l20, l21, l22] [] g1 Q = wq X (d + 12) 315 578 [some (.ref 10000), some (.ref 1), some (.ref 195), some (.int 1), some (.ref 196), some (.int (nI (sAll τ))), some (.int (nI i)), some (.int (A 18)), some (.int (nI (aN A))), some (.int (nI (sShort τ (aN A)))), some (.int (nI (sLoss τ (aN A)))), some (.int k11), some (.int (nI (c + 1))), some (.int 0), some (.int 0), l15, l16, l17, l18, l19, l20, l21, l22] [] g3 Q := by
        simp only [u315_652, u315_653, u315_656, u315_658, u315_661, u315_663, u315_664, u315_666, eq_self, q_nl0, q_nlI, q_nlR, not_false_eq_true, q_nz0, q_nz1, q_zv0, q_zv1, q_tl1, q_tl0, q_wif, q_swc, q_swn, List.cons_append, List.nil_append, if_true, if_false, e10, e01, Bool.false_eq_true, sh_1, m00, q2]
        simp only [u315_669, u315_670, u315_671, u315_672, u315_675, u315_677, u315_680, u315_682, u315_683, u315_685, u315_688, u315_689, u315_690, u315_691, u315_694, u315_696, u315_699, u315_701, u315_703, u315_704, u315_705, u315_706, u315_709, u315_710, u315_712, u315_713, u315_714, eq_self, q_nl0, q_nlI, q_nlR, not_false_eq_true, q_nz0, q_nz1, q_zv0, q_zv1, q_tl1, q_tl0, q_wif, q_swc, q_swn, List.cons_append, List.nil_append, if_true, if_false, e10, e01, Bool.false_eq_true, sh_1, nI_not _ hc128 _ (sA _), so2, nI_n0, m00, n3, rem3 i hi, q3]
        simp only [u315_717, u315_719, u315_722, u315_723, u315_726, u315_727, u315_728, u315_731, eq_self, q_nl0, q_nlI, q_nlR, not_false_eq_true, q_nz0, q_nz1, q_zv0, q_zv1, q_tl1, q_tl0, q_wif, q_swc, q_swn, List.cons_append, List.nil_append, if_true, if_false, e10, e01, Bool.false_eq_true, nI_1]
      simp only [u315_599, u315_601, u315_602, u315_604, u315_606, u315_607, u315_608, u315_609, u315_612, u315_613, u315_616, u315_618, eq_self, q_nl0, q_nlI, q_nlR, not_false_eq_true, q_nz0, q_nz1, q_zv0, q_zv1, q_tl1, q_tl0, q_wif, q_swc, q_swn, List.cons_append, List.nil_append, if_true, if_false, e10, e01, Bool.false_eq_true, sh_195, t_in1, t_cl1, hm1, m00]
      by_cases y : (0 : Int32) < nI (τ 0 1)
      · simp only [y, if_true]
        exact cont
      · simp only [y, if_false]
        exact cont
    · obtain ⟨g2, Z2, W2, q2⟩ := lw_so1 (X := X) (d := d) (i := i) (k11 := k11) (k12 := nI c) (l14 := none) (l15 := l15) (l16 := l16) (l17 := l17) (l18 := l18) (l19 := l19) (l20 := l20) (l21 := l21) (l22 := l22) L W1 hs (by omega) so1.2
      obtain ⟨g3, W3, q3⟩ := w_about7 (X := X) (d := d + 1) W2
      obtain ⟨g4, W4, q4⟩ := w_back (X := X) (d := d + 1) W3 (show i % 3 < 3 by omega)
      rw [lvA_n hn hs7 _ h7, mod_self_lt hs] at q3
      have z0 : (nI s = 0) = False := eq_false (fun w => s0 ((nI_eqB (b := 0) (by omega) (by decide)).mp w))
      have zl := oI_lt0 (show s < 2 ^ 31 by omega)
      refine ⟨g4, some (.int (nI s)), some (.int (nI (τ 0 1))), W4, fun Q => ?_⟩
      rw [u315_578]
      simp only [u315_580, u315_581, u315_582, u315_583, u315_584, u315_585, u315_588, u315_589, u315_592, u315_593, u315_595, u315_596, eq_self, q_nl0, q_nlI, q_nlR, not_false_eq_true, q_nz0, q_nz1, q_zv0, q_zv1, q_tl1, q_tl0, q_wif, q_swc, q_swn, List.cons_append, List.nil_append, if_true, if_false, e10, e01, Bool.false_eq_true, sh_1, sh_195, t_in0, t_cl0, hc0, hsh, f1, q1]
      simp only [u315_599, u315_601, u315_602, eq_self, q_nl0, q_nlI, q_nlR, not_false_eq_true, q_nz0, q_nz1, q_zv0, q_zv1, q_tl1, q_tl0, q_wif, q_swc, q_swn, List.cons_append, List.nil_append, if_true, if_false, e10, e01, Bool.false_eq_true]
      rw [q2]
      simp only [u315_652, u315_653, u315_656, u315_658, u315_661, u315_663, u315_664, u315_666, eq_self, q_nl0, q_nlI, q_nlR, not_false_eq_true, q_nz0, q_nz1, q_zv0, q_zv1, q_tl1, q_tl0, q_wif, q_swc, q_swn, List.cons_append, List.nil_append, if_true, if_false, e10, e01, Bool.false_eq_true, sh_1, zl, q3]
      simp only [u315_669, u315_670, u315_671, u315_672, u315_675, u315_677, u315_680, u315_682, u315_683, u315_685, u315_688, u315_689, u315_690, u315_691, u315_694, u315_696, u315_699, u315_701, u315_703, u315_704, u315_705, u315_706, u315_709, u315_710, u315_712, u315_713, u315_714, eq_self, q_nl0, q_nlI, q_nlR, not_false_eq_true, q_nz0, q_nz1, q_zv0, q_zv1, q_tl1, q_tl0, q_wif, q_swc, q_swn, List.cons_append, List.nil_append, if_true, if_false, e10, e01, Bool.false_eq_true, sh_1, nI_not _ hc128 _ (sA _), so2, nI_n0, zl, z0, n3, rem3 i hi, q4]
      simp only [u315_717, u315_719, u315_722, u315_723, u315_726, u315_727, u315_728, u315_731, eq_self, q_nl0, q_nlI, q_nlR, not_false_eq_true, q_nz0, q_nz1, q_zv0, q_zv1, q_tl1, q_tl0, q_wif, q_swc, q_swn, List.cons_append, List.nil_append, if_true, if_false, e10, e01, Bool.false_eq_true, nI_1]
theorem lw_stops (L : LB τ b) {i : Nat} (hi : i < 5) (W : WW h τ b A A (i % 3) A Z) {k11 : Int32} (l13 l14 l15 l16 l17 l18 l19 l20 l21 l22 : Option Value) : ∃ g j13 j14 Z', WW g τ b A A (i % 3) A Z' ∧ ∀ Q : QT, wq X (d + 12) 315 578 [some (.ref 10000), some (.ref 1), some (.ref 195), some (.int 1), some (.ref 196), some (.int (nI (sAll τ))), some (.int (nI i)), some (.int (A 18)), some (.int (nI (aN A))), some (.int (nI (sShort τ (aN A)))), some (.int (nI (sLoss τ (aN A)))), some (.int k11), some (.int 0), l13, l14, l15, l16, l17, l18, l19, l20, l21, l22] [] h Q = wq X (d + 12) 315 734 [some (.ref 10000), some (.ref 1), some (.ref 195), some (.int 1), some (.ref 196), some (.int (nI (sAll τ))), some (.int (nI i)), some (.int (A 18)), some (.int (nI (aN A))), some (.int (nI (sShort τ (aN A)))), some (.int (nI (sLoss τ (aN A)))), some (.int k11), some (.int (nI (2 ^ τ 0 0))), j13, j14, l15, l16, l17, l18, l19, l20, l21, l22] [] g Q := by
  have h3 := L.2.1
  have h28 : 2 ^ τ 0 0 ≤ 128 := p2_7 (by omega)
  obtain ⟨l', ⟨Z', W'⟩, e⟩ := q_loopI (α := HT × Option Value × Option Value) (fun c l => fun (Q : QT) => wq X (d + 12) 315 578 [some (.ref 10000), some (.ref 1), some (.ref 195), some (.int 1), some (.ref 196), some (.int (nI (sAll τ))), some (.int (nI i)), some (.int (A 18)), some (.int (nI (aN A))), some (.int (nI (sShort τ (aN A)))), some (.int (nI (sLoss τ (aN A)))), some (.int k11), some (.int (nI c)), l.2.1, l.2.2, l15, l16, l17, l18, l19, l20, l21, l22] [] l.1 Q) (fun _ l => ∃ Z', WW l.1 τ b A A (i % 3) A Z') (2 ^ τ 0 0) (by
    rintro c hc ⟨h, j13, j14⟩ ⟨Z', W⟩
    obtain ⟨g, k13, k14, W1, q⟩ := lw_stop (X := X) (d := d) (k11 := k11) (l13 := j13) (l14 := j14) (l15 := l15) (l16 := l16) (l17 := l17) (l18 := l18) (l19 := l19) (l20 := l20) (l21 := l21) (l22 := l22) L hi W hc
    exact ⟨⟨g, k13, k14⟩, ⟨none, W1⟩, funext q⟩) ⟨h, l13, l14⟩ ⟨Z, W⟩
  refine ⟨l'.1, l'.2.1, l'.2.2, Z', W', fun Q => ?_⟩
  have e' := congrFun e Q
  have hc0 : m_gI l'.1 195 0 = nI (τ 0 0) := (ww_T W').1.1
  have hsh := nI_sh (τ 0 0) (show τ 0 0 < 8 by omega)
  refine Eq.trans (b := wq X (d + 12) 315 578 [some (.ref 10000), some (.ref 1), some (.ref 195), some (.int 1), some (.ref 196), some (.int (nI (sAll τ))), some (.int (nI i)), some (.int (A 18)), some (.int (nI (aN A))), some (.int (nI (sShort τ (aN A)))), some (.int (nI (sLoss τ (aN A)))), some (.int k11), some (.int (nI 0)), l13, l14, l15, l16, l17, l18, l19, l20, l21, l22] [] h Q) rfl (e'.trans ?_)
  show wq X (d + 12) 315 578 _ _ _ _ = _
  rw [u315_578]
  simp only [u315_580, u315_581, u315_582, u315_583, u315_584, u315_585, eq_self, q_nl0, q_nlI, q_nlR, not_false_eq_true, q_nz0, q_nz1, q_zv0, q_zv1, q_tl1, q_tl0, q_wif, q_swc, q_swn, List.cons_append, List.nil_append, if_true, if_false, e10, e01, Bool.false_eq_true, sh_195, t_in0, t_cl0, hc0, hsh, eq_false (nI_nlt (Nat.le_refl (2 ^ τ 0 0)) (show 2 ^ τ 0 0 < 2 ^ 31 by omega))]
/-- the press -/
theorem lw_press (L : LB τ b) {i : Nat} (hi : i < 5) (W : WW h τ b A A (i % 3) A Z) {k11 : Int32} {l12 l13 l14 l15 l16 l17 l18 l19 l20 l21 l22 : Option Value} : ∃ g j12 j13, WW g τ b A A (i % 3) A none ∧ ∀ Q : QT, wq X (d + 12) 315 734 [some (.ref 10000), some (.ref 1), some (.ref 195), some (.int 1), some (.ref 196), some (.int (nI (sAll τ))), some (.int (nI i)), some (.int (A 18)), some (.int (nI (aN A))), some (.int (nI (sShort τ (aN A)))), some (.int (nI (sLoss τ (aN A)))), some (.int k11), l12, l13, l14, l15, l16, l17, l18, l19, l20, l21, l22] [] h Q = wq X (d + 12) 315 876 [some (.ref 10000), some (.ref 1), some (.ref 195), some (.int 1), some (.ref 196), some (.int (nI (sAll τ))), some (.int (nI i)), some (.int (A 18)), some (.int (nI (aN A))), some (.int (nI (sShort τ (aN A)))), some (.int (nI (sLoss τ (aN A)))), some (.int k11), some (.int j12), some (.int j13), l14, l15, l16, l17, l18, l19, l20, l21, l22] [] g Q := by
  have h5 := L.2.2.1
  have h7 := o_mn L.1
  have K := ww_a W
  have hn := aN_lt L.1 K
  have hw := K.1.2
  have n3 : ¬ (3 : Int32) = 0 := by decide
  have m00 : ((0 : Int32) < 0) = False := eq_false (by decide)
  have P1 : ∃ best g, fL (prS τ 2 (aN A)) none (2 ^ τ 0 1) = some best ∧ best < 128 ∧ WW g τ b A A (i % 3) A Z ∧ ∀ Q : QT, wq X (d + 1 + 10) 142 0 [some (.ref 1), some (.int 2), some (.int 1), none, none, none] [] h Q = Q (some (.int (nI best))) g := by
    obtain ⟨T, H⟩ := ww_q W
    obtain ⟨best, e, lt, P⟩ := a_press1 (X := X) (d := d + 1) (mo := 2) (w := 1) H (by decide) rfl
    obtain ⟨g, W1, q⟩ := w_q W P
    exact ⟨best, g, e, lt, W1, q⟩
  obtain ⟨best, g1, e1, lt, W1, q1⟩ := P1
  obtain ⟨b1, _⟩ := bvS_max _ _ ((prS_bv _).symm.trans e1)
  unfold prP at b1
  rw [Bool.and_eq_true, decide_eq_true_eq, decide_eq_true_eq] at b1
  obtain ⟨b2, b3⟩ := b1
  rw [city_sub h7 lt] at b2
  have p8 := pcN_le _ lt
  have b4 : ((2 : Int32) < nI (pcN best)) = False := eq_false b3
  have hm1 : m_gI g1 195 1 = nI (τ 0 1) := (ww_T W1).1.2.1
  have ln := sLoss_le L.1 (aN A)
  -- behind the loop
  have tail : ∀ {g : HT} {A' : Nat → Int32} {Z2 : Option (Nat → Int32)} {k13 : Int32}, WW g τ b A A' (i % 3) A Z2 → aN A' = aN A ||| best → ∃ g' , WW g' τ b A A (i % 3) A none ∧ ∀ Q : QT, wq X (d + 12) 315 793 [some (.ref 10000), some (.ref 1), some (.ref 195), some (.int 1), some (.ref 196), some (.int (nI (sAll τ))), some (.int (nI i)), some (.int (A 18)), some (.int (nI (aN A))), some (.int (nI (sShort τ (aN A)))), some (.int (nI (sLoss τ (aN A)))), some (.int k11), some (.int (nI best)), some (.int k13), l14, l15, l16, l17, l18, l19, l20, l21, l22] [] g Q = wq X (d + 12) 315 876 [some (.ref 10000), some (.ref 1), some (.ref 195), some (.int 1), some (.ref 196), some (.int (nI (sAll τ))), some (.int (nI i)), some (.int (A 18)), some (.int (nI (aN A))), some (.int (nI (sShort τ (aN A)))), some (.int (nI (sLoss τ (aN A)))), some (.int k11), some (.int (nI best)), some (.int k13), l14, l15, l16, l17, l18, l19, l20, l21, l22] [] g' Q := by
    intro g A' Z2 k13 W2 en
    obtain ⟨g2, W2a, q2a⟩ := w_loss0 (X := X) (d := d + 1) W2
    obtain ⟨g3, W3, q3⟩ := w_loss0 (X := X) (d := d + 1) W2a
    obtain ⟨g3z, W3z, q3z⟩ := w_loss0 (X := X) (d := d + 1) W2
    rw [en] at q2a q3 q3z
    have ml := sLoss_mono L.1 (aN A) best
    have lb := sLoss_le L.1 (aN A ||| best)
    have f2 : (nI (sLoss τ (aN A ||| best)) < nI (sLoss τ (aN A))) = False := eq_false (by rw [nI_ltI (by omega) (by omega)]; omega)
    -- what stands behind `821`
    have last : ∀ {g : HT} {Z3 : Option (Nat → Int32)}, WW g τ b A A' (i % 3) A Z3 → ∃ g', WW g' τ b A A (i % 3) A none ∧ ∀ Q : QT, wq X (d + 12) 315 821 [some (.ref 10000), some (.ref 1), some (.ref 195), some (.int 1), some (.ref 196), some (.int (nI (sAll τ))), some (.int (nI i)), some (.int (A 18)), some (.int (nI (aN A))), some (.int (nI (sShort τ (aN A)))), some (.int (nI (sLoss τ (aN A)))), some (.int k11), some (.int (nI best)), some (.int k13), l14, l15, l16, l17, l18, l19, l20, l21, l22] [] g Q = wq X (d + 12) 315 876 [some (.ref 10000), some (.ref 1), some (.ref 195), some (.int 1), some (.ref 196), some (.int (nI (sAll τ))), some (.int (nI i)), some (.int (A 18)), some (.int (nI (aN A))), some (.int (nI (sShort τ (aN A)))), some (.int (nI (sLoss τ (aN A)))), some (.int k11), some (.int (nI best)), some (.int k13), l14, l15, l16, l17, l18, l19, l20, l21, l22] [] g' Q := by
      intro g Z3 V3
      obtain ⟨u1, V4, r1⟩ := w_loss0 (X := X) (d := d + 1) V3
      obtain ⟨u2, V5, r2⟩ := w_back (X := X) (d := d + 1) V4 (show i % 3 < 3 by omega)
      rw [en] at r1
      have P7 : ∃ b7 g', sLoss τ (aN A ||| b7) = sLoss τ (sAll τ) ∧ WW g' τ b A A (i % 3) A none ∧ ∀ Q : QT, wq X (d + 1 + 10) 142 0 [some (.ref 1), some (.int 7), some (.int 0), none, none, none] [] u2 Q = Q (some (.int (nI (sLoss τ (aN A ||| b7))))) g' := by
        obtain ⟨T, H⟩ := ww_q V5
        obtain ⟨b7, e7, lt7, P⟩ := a_press0 (X := X) (d := d + 1) (mo := 7) (w := 0) H (by decide) rfl
        obtain ⟨g', W', q⟩ := w_q V5 P
        obtain ⟨c1, c2⟩ := bvS_max _ _ ((prS_bv _).symm.trans e7)
        unfold prP at c1
        rw [Bool.and_eq_true, decide_eq_true_eq, decide_eq_true_eq] at c1
        have c3 := c1.1
        rw [city_sub h7 lt7] at c3
        refine ⟨b7, g', Nat.le_antisymm (loss_all L.1 (Nat.or_lt_two_pow hw c3.1)) ?_, W', q⟩
        have hcp := pcN_le _ (sCity_lt (n := aN A) L.1)
        have := c2 (sCity τ (aN A)) city_lt2 (by
          unfold prP
          rw [Bool.and_eq_true, decide_eq_true_eq, decide_eq_true_eq]
          refine ⟨self_and (sCity_lt L.1), ?_⟩
          rw [nI_ltI (by omega) (by omega)]
          omega)
        rw [or_cty h7 hw] at this
        exact this
      obtain ⟨b7, u3, e7, V6, r3⟩ := P7
      rw [e7] at r3
      obtain ⟨u4, V7, r4⟩ := w_loss1 (X := X) (d := d + 1) V6
      have P0 : ∃ g', WW g' τ b A A (i % 3) A none ∧ ∀ Q : QT, wq X (d + 1 + 10) 142 0 [some (.ref 1), some (.int 0), some (.int 0), none, none, none] [] u4 Q = Q (some (.int (nI (sLoss τ (aN A))))) g' := by
        obtain ⟨T, H⟩ := ww_q V7
        obtain ⟨b0, e0, lt0, P⟩ := a_press0 (X := X) (d := d + 1) (mo := 0) (w := 0) H (by decide) rfl
        obtain ⟨g', W', q⟩ := w_q V7 P
        obtain ⟨c1, _⟩ := bvS_max _ _ ((prS_bv _).symm.trans e0)
        unfold prP at c1
        rw [Bool.and_eq_true, decide_eq_true_eq, decide_eq_true_eq] at c1
        have c2 := c1.2
        have hcp := pcN_le _ lt0
        rw [nI_ltI (by omega) (by omega)] at c2
        have b00 : b0 = 0 := by
          have := pc_0 _ lt0
          exact this.mp (by omega)
        rw [b00, Nat.or_zero] at q
        exact ⟨g', W', q⟩
      obtain ⟨u5, V8, r5⟩ := P0
      refine ⟨u5, V8, fun Q => ?_⟩
      simp only [u315_821, u315_822, u315_823, eq_self, q_nl0, q_nlI, q_nlR, not_false_eq_true, q_nz0, q_nz1, q_zv0, q_zv1, q_tl1, q_tl0, q_wif, q_swc, q_swn, List.cons_append, List.nil_append, if_true, if_false, e10, e01, Bool.false_eq_true, sh_1, r1]
      simp only [u315_826, u315_828, u315_831, u315_832, u315_834, u315_835, u315_836, eq_self, q_nl0, q_nlI, q_nlR, not_false_eq_true, q_nz0, q_nz1, q_zv0, q_zv1, q_tl1, q_tl0, q_wif, q_swc, q_swn, List.cons_append, List.nil_append, if_true, if_false, e10, e01, Bool.false_eq_true, sh_1, f2, n3, rem3 i hi, r2]
      simp only [u315_839, u315_841, u315_844, u315_845, u315_847, u315_848, eq_self, q_nl0, q_nlI, q_nlR, not_false_eq_true, q_nz0, q_nz1, q_zv0, q_zv1, q_tl1, q_tl0, q_wif, q_swc, q_swn, List.cons_append, List.nil_append, if_true, if_false, e10, e01, Bool.false_eq_true, sh_1, r3]
      simp only [u315_851, u315_852, u315_853, eq_self, q_nl0, q_nlI, q_nlR, not_false_eq_true, q_nz0, q_nz1, q_zv0, q_zv1, q_tl1, q_tl0, q_wif, q_swc, q_swn, List.cons_append, List.nil_append, if_true, if_false, e10, e01, Bool.false_eq_true, sh_1, r4]
      simp only [u315_856, u315_859, u315_860, u315_861, u315_862, eq_self, q_nl0, q_nlI, q_nlR, not_false_eq_true, q_nz0, q_nz1, q_zv0, q_zv1, q_tl1, q_tl0, q_wif, q_swc, q_swn, List.cons_append, List.nil_append, if_true, if_false, e10, e01, Bool.false_eq_true, sh_1, r5]
      simp only [u315_865, u315_867, u315_870, u315_871, u315_874, u315_875, eq_self, q_nl0, q_nlI, q_nlR, not_false_eq_true, q_nz0, q_nz1, q_zv0, q_zv1, q_tl1, q_tl0, q_wif, q_swc, q_swn, List.cons_append, List.nil_append, if_true, if_false, e10, e01, Bool.false_eq_true]
    by_cases b0 : best = 0
    · subst b0
      obtain ⟨g', W', q'⟩ := last W3z
      rw [Nat.or_zero] at q3z
      refine ⟨g', W', fun Q => ?_⟩
      have pc0 : nI (pcN 0) = (0 : Int32) := rfl
      have m2 : ((2 : Int32) < 0) = False := eq_false (by decide)
      simp only [nI_n0] at q' ⊢
      simp only [u315_793, u315_794, u315_797, u315_799, u315_802, u315_803, u315_806, u315_808, u315_811, u315_812, u315_813, eq_self, q_nl0, q_nlI, q_nlR, not_false_eq_true, q_nz0, q_nz1, q_zv0, q_zv1, q_tl1, q_tl0, q_wif, q_swc, q_swn, List.cons_append, List.nil_append, if_true, if_false, e10, e01, Bool.false_eq_true, sh_1, show wq X (d + 11) 74 0 [some (.int 0)] [] g = fun Q => Q (some (.int (nI (pcN 0)))) g from funext fun Q => c_bitCount (n := 0) (by decide), pc0, m2, m00, q3z]
      simp only [u315_816, u315_818, eq_self, q_nl0, q_nlI, q_nlR, not_false_eq_true, q_nz0, q_nz1, q_zv0, q_zv1, q_tl1, q_tl0, q_wif, q_swc, q_swn, List.cons_append, List.nil_append, if_true, if_false, e10, e01, Bool.false_eq_true]
      exact q' Q
    · obtain ⟨g', W', q'⟩ := last W2
      refine ⟨g', W', fun Q => ?_⟩
      have f3 : (0 < nI best) = True := eq_true ((ev_0 _ (by omega)).mpr (by omega))
      simp only [u315_793, u315_794, u315_797, u315_799, u315_802, u315_803, u315_806, u315_808, eq_self, q_nl0, q_nlI, q_nlR, not_false_eq_true, q_nz0, q_nz1, q_zv0, q_zv1, q_tl1, q_tl0, q_wif, q_swc, q_swn, List.cons_append, List.nil_append, if_true, if_false, e10, e01, Bool.false_eq_true, c_bitCount lt, b4, f3]
      exact q' Q
  by_cases b0 : best = 0
  · subst b0
    obtain ⟨g', W', q'⟩ := tail (k13 := 0) W1 (Nat.or_zero _).symm
    refine ⟨g', nI 0, 0, W', fun Q => ?_⟩
    simp only [nI_n0] at q1 q' ⊢
    simp only [u315_734, u315_735, u315_736, u315_737, eq_self, q_nl0, q_nlI, q_nlR, not_false_eq_true, q_nz0, q_nz1, q_zv0, q_zv1, q_tl1, q_tl0, q_wif, q_swc, q_swn, List.cons_append, List.nil_append, if_true, if_false, e10, e01, Bool.false_eq_true, sh_1, q1]
    simp only [u315_740, u315_742, u315_743, u315_745, u315_747, u315_748, u315_749, u315_750, u315_753, u315_754, u315_757, u315_759, eq_self, q_nl0, q_nlI, q_nlR, not_false_eq_true, q_nz0, q_nz1, q_zv0, q_zv1, q_tl1, q_tl0, q_wif, q_swc, q_swn, List.cons_append, List.nil_append, if_true, if_false, e10, e01, Bool.false_eq_true, sh_195, t_in1, t_cl1, hm1, m00]
    by_cases y : (0 : Int32) < nI (τ 0 1)
    · simp only [y, if_true]
      exact q' Q
    · simp only [y, if_false]
      exact q' Q
  · obtain ⟨g2, Z2, W2, q2⟩ := lw_so2 (X := X) (d := d) (i := i) (k11 := k11) (l14 := l14) (l15 := l15) (l16 := l16) (l17 := l17) (l18 := l18) (l19 := l19) (l20 := l20) (l21 := l21) (l22 := l22) L W1 b2.1 (by omega) b2.2
    have en := lvA_n (A := A) hn lt _ h7
    rw [mod_self_lt b2.1] at en
    obtain ⟨g', W', q'⟩ := tail (k13 := nI (τ 0 1)) W2 en
    refine ⟨g', nI best, nI (τ 0 1), W', fun Q => ?_⟩
    simp only [u315_734, u315_735, u315_736, u315_737, eq_self, q_nl0, q_nlI, q_nlR, not_false_eq_true, q_nz0, q_nz1, q_zv0, q_zv1, q_tl1, q_tl0, q_wif, q_swc, q_swn, List.cons_append, List.nil_append, if_true, if_false, e10, e01, Bool.false_eq_true, sh_1, q1]
    simp only [u315_740, u315_742, u315_743, eq_self, q_nl0, q_nlI, q_nlR, not_false_eq_true, q_nz0, q_nz1, q_zv0, q_zv1, q_tl1, q_tl0, q_wif, q_swc, q_swn, List.cons_append, List.nil_append, if_true, if_false, e10, e01, Bool.false_eq_true]
    exact (q2 Q).trans (q' Q)
end LAW3
