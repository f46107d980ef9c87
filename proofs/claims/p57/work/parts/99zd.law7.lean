/-! THE LAW: the weights are all the loss -/
def addC : List Int → Nat → Int → List Int
  | [], _, _ => []
  | a :: l, 0, c => (a + c) :: l
  | a :: l, j + 1, c => a :: addC l j c
def evL : List Int → (Nat → Int) → Int
  | [], _ => 0
  | a :: l, V => a * V 0 + evL l (fun j => V (j + 1))
theorem addC_len : ∀ (l : List Int) (j : Nat) (c : Int), (addC l j c).length = l.length
  | [], _, _ => rfl
  | _ :: _, 0, _ => rfl
  | a :: l, j + 1, c => by
    show (addC l j c).length + 1 = l.length + 1
    rw [addC_len l j c]
theorem ev_add : ∀ (l : List Int) (j : Nat) (c : Int) (V : Nat → Int), j < l.length → evL (addC l j c) V = evL l V + c * V j
  | [], j, c, V, h => absurd h (Nat.not_lt_zero j)
  | a :: l, 0, c, V, _ => by
    show (a + c) * V 0 + evL l (fun j => V (j + 1)) = a * V 0 + evL l (fun j => V (j + 1)) + c * V 0
    rw [Int.add_mul]
    omega
  | a :: l, j + 1, c, V, h => by
    have hl : j < l.length := by
      simp only [List.length_cons] at h
      omega
    show a * V 0 + evL (addC l j c) (fun j => V (j + 1)) = a * V 0 + evL l (fun j => V (j + 1)) + c * V (j + 1)
    rw [ev_add l j c (fun j => V (j + 1)) hl]
    omega
/-- one set's share in a man's weight, as coefficients of the losses -/
def cfS (k m i : Nat) (l : List Int) : List Int := if i < 2 ^ k ∧ i.testBit m = false then addC (addC l (i ||| 2 ^ m) (fct (pcN i) * fct (k - 1 - pcN i) : Nat)) i (-(fct (pcN i) * fct (k - 1 - pcN i) : Nat)) else l
def cfM (k m : Nat) (l : List Int) : Nat → List Int := fL (cfS k m) l
def cfA (k : Nat) : Nat → List Int := fL (fun m l => cfM k m l (2 ^ k)) (List.replicate (2 ^ k) 0)
theorem cf_all : ∀ k, k < 6 → cfA k k = addC (addC (List.replicate (2 ^ k) 0) (2 ^ k - 1) (fct k : Nat)) 0 (-(fct k : Nat)) := by decide +kernel
theorem ev_rep (V : Nat → Int) : ∀ n, evL (List.replicate n 0) V = 0 := by
  intro n
  induction n generalizing V with
  | zero => rfl
  | succ n ih =>
    show 0 * V 0 + evL (List.replicate n 0) (fun j => V (j + 1)) = 0
    rw [ih, Int.zero_mul]
    rfl
theorem cfS_len {k m i : Nat} {l : List Int} : (cfS k m i l).length = l.length := by
  unfold cfS
  split
  · rw [addC_len, addC_len]
  · rfl
theorem cfM_len {k m : Nat} {l : List Int} : ∀ n, (cfM k m l n).length = l.length
  | 0 => rfl
  | n + 1 => by
    show (cfS k m n (cfM k m l n)).length = l.length
    rw [cfS_len, cfM_len n]
theorem cfA_len {k : Nat} : ∀ n, (cfA k n).length = 2 ^ k
  | 0 => List.length_replicate
  | n + 1 => by
    show (cfM k n (cfA k n) (2 ^ k)).length = 2 ^ k
    rw [cfM_len, cfA_len n]
def lsV (τ : CT) : Nat → Int := fun j => (sLoss τ j : Nat)
theorem cfM_ev {τ : CT} (H : cOk τ) {m : Nat} (hm : m < τ 0 1) {l : List Int} (hl : l.length = 2 ^ τ 0 1) {s : Nat} (e : evL l (lsV τ) = (s : Nat)) : ∀ n, evL (cfM (τ 0 1) m l n) (lsV τ) = ((s + fL (wS τ m) 0 n : Nat) : Int)
  | 0 => by
    show evL l (lsV τ) = ((s + 0 : Nat) : Int)
    rw [e, Nat.add_zero]
  | n + 1 => by
    have ih := cfM_ev H hm hl e n
    have hlen := cfM_len (k := τ 0 1) (m := m) (l := l) n
    rw [hl] at hlen
    show evL (cfS (τ 0 1) m n (cfM (τ 0 1) m l n)) (lsV τ) = _
    have ew : fL (wS τ m) 0 (n + 1) = if n < 2 ^ τ 0 1 ∧ n.testBit m = false then fL (wS τ m) 0 n + wT τ m n else fL (wS τ m) 0 n := rfl
    rw [ew]
    generalize fL (wS τ m) 0 n = F at ih ⊢
    unfold cfS
    by_cases z : n < 2 ^ τ 0 1 ∧ n.testBit m = false
    · rw [if_pos z, if_pos z]
      have ho : n ||| 2 ^ m < 2 ^ τ 0 1 := orb z.1 hm
      rw [ev_add _ _ _ _ (by rw [addC_len, hlen]; exact z.1), ev_add _ _ _ _ (by rw [hlen]; exact ho), ih]
      unfold wT lsV
      have mo := sLoss_mono H n (2 ^ m)
      generalize hc : fct (pcN n) * fct (τ 0 1 - 1 - pcN n) = c
      generalize sLoss τ (n ||| 2 ^ m) = x at mo ⊢
      generalize sLoss τ n = y at mo ⊢
      obtain ⟨u, rfl⟩ : ∃ u, x = y + u := ⟨x - y, by omega⟩
      rw [Nat.add_sub_cancel_left]
      push_cast
      rw [Int.mul_add, Int.neg_mul]
      omega
    · rw [if_neg z, if_neg z]
      exact ih
/-- all the weights together -/
def sumW (τ : CT) : Nat → Nat
  | 0 => 0
  | m + 1 => sumW τ m + fL (wS τ m) 0 (2 ^ τ 0 1)
theorem cfA_ev {τ : CT} (H : cOk τ) : ∀ n, n ≤ τ 0 1 → evL (cfA (τ 0 1) n) (lsV τ) = (sumW τ n : Nat)
  | 0, _ => ev_rep _ _
  | n + 1, h => cfM_ev H (show n < τ 0 1 by omega) (cfA_len n) (cfA_ev H n (by omega)) _
theorem sumW_e {τ : CT} (H : cOk τ) (h5 : τ 0 1 ≤ 5) : sumW τ (τ 0 1) = (sLoss τ (sAll τ) - sLoss τ 0) * fct (τ 0 1) := by
  have e := cfA_ev H (τ 0 1) (Nat.le_refl _)
  rw [cf_all _ (by omega)] at e
  have hp : 0 < 2 ^ τ 0 1 := Nat.two_pow_pos _
  rw [ev_add _ _ _ _ (by rw [addC_len, List.length_replicate]; exact hp), ev_add _ _ _ _ (by rw [List.length_replicate]; omega), ev_rep] at e
  have mo : sLoss τ 0 ≤ sLoss τ (sAll τ) := loss_all H hp
  unfold lsV at e
  rw [show 2 ^ τ 0 1 - 1 = sAll τ from rfl] at e
  generalize sLoss τ (sAll τ) = x at mo e ⊢
  generalize sLoss τ 0 = y at mo e ⊢
  generalize fct (τ 0 1) = c at e ⊢
  obtain ⟨u, rfl⟩ : ∃ u, x = y + u := ⟨x - y, by omega⟩
  rw [Nat.add_sub_cancel_left]
  push_cast at e
  rw [Int.mul_add, Int.neg_mul] at e
  have e2 : (c : Int) * (u : Int) = ((c * u : Nat) : Int) := by push_cast; rfl
  rw [e2] at e
  rw [Nat.mul_comm u c]
  omega
theorem gcd_back {a c : Nat} (hc : 0 < c) : c / (c / Nat.gcd a c) = Nat.gcd a c := by
  have hg : 0 < Nat.gcd a c := Nat.gcd_pos_of_pos_right a hc
  obtain ⟨k, hk⟩ := Nat.gcd_dvd_right a c
  have hk0 : 0 < k := by
    apply Nat.pos_of_ne_zero
    intro z
    rw [z, Nat.mul_zero] at hk
    omega
  generalize Nat.gcd a c = g at hk hg ⊢
  rw [hk, Nat.mul_div_cancel_left _ hg, Nat.mul_div_cancel _ hk0]
section LAW7
variable {X : XT} {d : Nat} {h : HT} {τ : CT} {b : Nat} {A : Nat → Int32} {Z : Option (Nat → Int32)}
theorem lw_w (L : LB τ b) {i j : Nat} {A0 : Nat → Int32} (W : WW h τ b A A j A0 Z) {k11 j12 v13 v14 v15 v16 v17 v18 v19 v20 : Int32} {l21 l22 : Option Value} : ∃ g v20' v21 v22, WW g τ b A A j A0 Z ∧ ∀ Q : QT, wq X (d + 12) 315 1359 [some (.ref 10000), some (.ref 1), some (.ref 195), some (.int 1), some (.ref 196), some (.int (nI (sAll τ))), some (.int (nI i)), some (.int (A 18)), some (.int (nI (aN A))), some (.int (nI (sShort τ (aN A)))), some (.int (nI (sLoss τ (aN A)))), some (.int k11), some (.int j12), some (.int v13), some (.int v14), some (.int v15), some (.int v16), some (.int v17), some (.int v18), some (.int v19), some (.int v20), l21, l22] [] h Q = wq X (d + 12) 315 1460 [some (.ref 10000), some (.ref 1), some (.ref 195), some (.int 1), some (.ref 196), some (.int (nI (sAll τ))), some (.int (nI i)), some (.int (A 18)), some (.int (nI (aN A))), some (.int (nI (sShort τ (aN A)))), some (.int (nI (sLoss τ (aN A)))), some (.int k11), some (.int j12), some (.int v13), some (.int v14), some (.int v15), some (.int v16), some (.int v17), some (.int v18), some (.int v19), some (.int v20'), some (.int v21), some (.int v22)] [] g Q := by
  have h5 := L.2.2.1
  have h7 := o_mn L.1
  have K := ww_a W
  have hf := fct_7 (τ 0 1) (by omega)
  have hf0 := fct_pos (τ 0 1)
  have hm1 : m_gI h 195 1 = nI (τ 0 1) := (ww_T W).1.2.1
  have s1 : ∀ Q : QT, wq X (d + 12) 315 1365 [some (.ref 10000), some (.ref 1), some (.ref 195), some (.int 1), some (.ref 196), some (.int (nI (sAll τ))), some (.int (nI i)), some (.int (A 18)), some (.int (nI (aN A))), some (.int (nI (sShort τ (aN A)))), some (.int (nI (sLoss τ (aN A)))), some (.int k11), some (.int j12), some (.int v13), some (.int v14), some (.int v15), some (.int v16), some (.int v17), some (.int v18), some (.int v19), some (.int (nI (fct 0))), some (.int (nI 0)), l22] [] h Q = wq X (d + 12) 315 1365 [some (.ref 10000), some (.ref 1), some (.ref 195), some (.int 1), some (.ref 196), some (.int (nI (sAll τ))), some (.int (nI i)), some (.int (A 18)), some (.int (nI (aN A))), some (.int (nI (sShort τ (aN A)))), some (.int (nI (sLoss τ (aN A)))), some (.int k11), some (.int j12), some (.int v13), some (.int v14), some (.int v15), some (.int v16), some (.int v17), some (.int v18), some (.int v19), some (.int (nI (fct (τ 0 1)))), some (.int (nI (τ 0 1))), l22] [] h Q := by
    intro Q
    refine q_loop (fun m => wq X (d + 12) 315 1365 [some (.ref 10000), some (.ref 1), some (.ref 195), some (.int 1), some (.ref 196), some (.int (nI (sAll τ))), some (.int (nI i)), some (.int (A 18)), some (.int (nI (aN A))), some (.int (nI (sShort τ (aN A)))), some (.int (nI (sLoss τ (aN A)))), some (.int k11), some (.int j12), some (.int v13), some (.int v14), some (.int v15), some (.int v16), some (.int v17), some (.int v18), some (.int v19), some (.int (nI (fct m))), some (.int (nI m)), l22] [] h Q) (τ 0 1) ?_
    intro m hm
    have f1 : (nI m < nI (τ 0 1)) = True := eq_true (nI_lt hm (by omega))
    have e1 : nI (fct m) * nI (m + 1) = nI (fct (m + 1)) := pk_mul _ _
    show wq X (d + 12) 315 1365 _ _ _ _ = _
    rw [u315_1365]
    simp only [u315_1367, u315_1368, u315_1369, u315_1370, u315_1373, u315_1375, u315_1377, u315_1378, u315_1379, u315_1380, u315_1382, u315_1385, eq_self, q_nl0, q_nlI, q_nlR, not_false_eq_true, q_nz0, q_nz1, q_zv0, q_zv1, q_tl1, q_tl0, q_wif, q_swc, q_swn, List.cons_append, List.nil_append, if_true, if_false, e10, e01, Bool.false_eq_true, sh_195, t_in1, t_cl1, hm1, f1, nI_1, e1]
  obtain ⟨l', W', e⟩ := q_loopI (α := HT) (fun m h => fun (Q : QT) => wq X (d + 12) 315 1394 [some (.ref 10000), some (.ref 1), some (.ref 195), some (.int 1), some (.ref 196), some (.int (nI (sAll τ))), some (.int (nI i)), some (.int (A 18)), some (.int (nI (aN A))), some (.int (nI (sShort τ (aN A)))), some (.int (nI (sLoss τ (aN A)))), some (.int k11), some (.int j12), some (.int v13), some (.int v14), some (.int v15), some (.int v16), some (.int v17), some (.int v18), some (.int v19), some (.int (nI (fct (τ 0 1)))), some (.int (nI (sumW τ m))), some (.int (nI m))] [] h Q) (fun m h => WW h τ b A A j A0 Z) (τ 0 1) (by
    intro m hm h W
    have hm1 : m_gI h 195 1 = nI (τ 0 1) := (ww_T W).1.2.1
    have f1 : (nI m < nI (τ 0 1)) = True := eq_true (nI_lt hm (by omega))
    obtain ⟨g1, W1, q1⟩ := w_ask W (fun T H => a_weight0 (X := X) (d := d + 1) (w := 0) H hm rfl)
    obtain ⟨g2, W2, q2⟩ := w_ask W1 (fun T H => a_weight1 (X := X) (d := d + 1) (w := 1) H hm rfl)
    have wle := wS_le L.1 hm (2 ^ τ 0 1)
    have h128 := p2_7 h7
    have wlt : fL (wS τ m) 0 (2 ^ τ 0 1) < 2 ^ 31 := by
      have := Nat.mul_le_mul_left 285120 h128
      omega
    have gp := Nat.gcd_pos_of_pos_right (fL (wS τ m) 0 (2 ^ τ 0 1)) hf0
    have gle := Nat.gcd_le_right (fL (wS τ m) 0 (2 ^ τ 0 1)) hf0
    have gd := Nat.gcd_dvd_left (fL (wS τ m) 0 (2 ^ τ 0 1)) (fct (τ 0 1))
    have gb := gcd_back (a := fL (wS τ m) 0 (2 ^ τ 0 1)) hf0
    have dpos : 0 < fct (τ 0 1) / Nat.gcd (fL (wS τ m) 0 (2 ^ τ 0 1)) (fct (τ 0 1)) := Nat.div_pos gle gp
    have dle := Nat.div_le_self (fct (τ 0 1)) (Nat.gcd (fL (wS τ m) 0 (2 ^ τ 0 1)) (fct (τ 0 1)))
    rw [nI_div wlt (by omega)] at q1
    rw [nI_div (by omega) (by omega)] at q2
    have nz : ¬ nI (fct (τ 0 1) / Nat.gcd (fL (wS τ m) 0 (2 ^ τ 0 1)) (fct (τ 0 1))) = 0 := fun w => by
      have := (nI_eqB (b := 0) (by omega) (by decide)).mp w
      omega
    have ed : nI (fct (τ 0 1)) / nI (fct (τ 0 1) / Nat.gcd (fL (wS τ m) 0 (2 ^ τ 0 1)) (fct (τ 0 1))) = nI (Nat.gcd (fL (wS τ m) 0 (2 ^ τ 0 1)) (fct (τ 0 1))) := by
      rw [nI_div (by omega) (by omega), gb]
    have em : nI (fL (wS τ m) 0 (2 ^ τ 0 1) / Nat.gcd (fL (wS τ m) 0 (2 ^ τ 0 1)) (fct (τ 0 1))) * nI (Nat.gcd (fL (wS τ m) 0 (2 ^ τ 0 1)) (fct (τ 0 1))) = nI (fL (wS τ m) 0 (2 ^ τ 0 1)) := by
      rw [pk_mul, Nat.div_mul_cancel gd]
    have ea : nI (sumW τ m) + nI (fL (wS τ m) 0 (2 ^ τ 0 1)) = nI (sumW τ (m + 1)) := nI_add _ _
    refine ⟨g2, W2, funext fun Q => ?_⟩
    show wq X (d + 12) 315 1394 _ _ _ _ = _
    rw [u315_1394]
    simp only [u315_1396, u315_1397, u315_1398, u315_1399, u315_1402, u315_1404, u315_1405, u315_1407, u315_1408, eq_self, q_nl0, q_nlI, q_nlR, not_false_eq_true, q_nz0, q_nz1, q_zv0, q_zv1, q_tl1, q_tl0, q_wif, q_swc, q_swn, List.cons_append, List.nil_append, if_true, if_false, e10, e01, Bool.false_eq_true, sh_1, sh_195, t_in1, t_cl1, hm1, f1, q1]
    simp only [u315_1411, u315_1413, u315_1414, u315_1416, u315_1417, eq_self, q_nl0, q_nlI, q_nlR, not_false_eq_true, q_nz0, q_nz1, q_zv0, q_zv1, q_tl1, q_tl0, q_wif, q_swc, q_swn, List.cons_append, List.nil_append, if_true, if_false, e10, e01, Bool.false_eq_true, sh_1, q2]
    simp only [u315_1420, u315_1421, u315_1422, u315_1423, u315_1425, u315_1428, eq_self, q_nl0, q_nlI, q_nlR, not_false_eq_true, q_nz0, q_nz1, q_zv0, q_zv1, q_tl1, q_tl0, q_wif, q_swc, q_swn, List.cons_append, List.nil_append, if_true, if_false, e10, e01, Bool.false_eq_true, nz, not_false_eq_true, ed, em, ea, nI_1]) h W
  have hm2 : m_gI l' 195 1 = nI (τ 0 1) := (ww_T W').1.2.1
  obtain ⟨g3, W3, q3⟩ := w_loss1 (X := X) (d := d + 1) W'
  have l0 := fun (Q : QT) => l_loss (X := X) (d := d + 8) (n := 0) (ww_T W3) L (by decide) Q
  simp only [nI_n0] at l0
  have mo : sLoss τ 0 ≤ sLoss τ (sAll τ) := loss_all L.1 (Nat.two_pow_pos _)
  have fin : (nI (sLoss τ (sAll τ)) - nI (sLoss τ 0)) * nI (fct (τ 0 1)) = nI (sumW τ (τ 0 1)) := by
    rw [nI_sb mo, pk_mul, sumW_e L.1 h5]
  refine ⟨g3, _, _, _, W3, fun Q => Eq.trans (b := wq X (d + 12) 315 1460 [some (.ref 10000), some (.ref 1), some (.ref 195), some (.int 1), some (.ref 196), some (.int (nI (sAll τ))), some (.int (nI i)), some (.int (A 18)), some (.int (nI (aN A))), some (.int (nI (sShort τ (aN A)))), some (.int (nI (sLoss τ (aN A)))), some (.int k11), some (.int j12), some (.int v13), some (.int v14), some (.int v15), some (.int v16), some (.int v17), some (.int v18), some (.int v19), some (.int (nI (fct (τ 0 1)))), some (.int (nI (sumW τ (τ 0 1)))), some (.int (nI (τ 0 1)))] [] g3 Q) ?_ rfl⟩
  have e' := congrFun e Q
  have a1 : wq X (d + 12) 315 1359 [some (.ref 10000), some (.ref 1), some (.ref 195), some (.int 1), some (.ref 196), some (.int (nI (sAll τ))), some (.int (nI i)), some (.int (A 18)), some (.int (nI (aN A))), some (.int (nI (sShort τ (aN A)))), some (.int (nI (sLoss τ (aN A)))), some (.int k11), some (.int j12), some (.int v13), some (.int v14), some (.int v15), some (.int v16), some (.int v17), some (.int v18), some (.int v19), some (.int v20), l21, l22] [] h Q = wq X (d + 12) 315 1365 [some (.ref 10000), some (.ref 1), some (.ref 195), some (.int 1), some (.ref 196), some (.int (nI (sAll τ))), some (.int (nI i)), some (.int (A 18)), some (.int (nI (aN A))), some (.int (nI (sShort τ (aN A)))), some (.int (nI (sLoss τ (aN A)))), some (.int k11), some (.int j12), some (.int v13), some (.int v14), some (.int v15), some (.int v16), some (.int v17), some (.int v18), some (.int v19), some (.int (nI (fct 0))), some (.int (nI 0)), l22] [] h Q := by
    simp only [u315_1359, u315_1360, u315_1362, u315_1363, eq_self, q_nl0, q_nlI, q_nlR, not_false_eq_true, q_nz0, q_nz1, q_zv0, q_zv1, q_tl1, q_tl0, q_wif, q_swc, q_swn, List.cons_append, List.nil_append, if_true, if_false, e10, e01, Bool.false_eq_true]
    rfl
  have a2 : wq X (d + 12) 315 1365 [some (.ref 10000), some (.ref 1), some (.ref 195), some (.int 1), some (.ref 196), some (.int (nI (sAll τ))), some (.int (nI i)), some (.int (A 18)), some (.int (nI (aN A))), some (.int (nI (sShort τ (aN A)))), some (.int (nI (sLoss τ (aN A)))), some (.int k11), some (.int j12), some (.int v13), some (.int v14), some (.int v15), some (.int v16), some (.int v17), some (.int v18), some (.int v19), some (.int (nI (fct (τ 0 1)))), some (.int (nI (τ 0 1))), l22] [] h Q = wq X (d + 12) 315 1394 [some (.ref 10000), some (.ref 1), some (.ref 195), some (.int 1), some (.ref 196), some (.int (nI (sAll τ))), some (.int (nI i)), some (.int (A 18)), some (.int (nI (aN A))), some (.int (nI (sShort τ (aN A)))), some (.int (nI (sLoss τ (aN A)))), some (.int k11), some (.int j12), some (.int v13), some (.int v14), some (.int v15), some (.int v16), some (.int v17), some (.int v18), some (.int v19), some (.int (nI (fct (τ 0 1)))), some (.int (nI (sumW τ 0))), some (.int (nI 0))] [] h Q := by
    rw [u315_1365]
    simp only [u315_1367, u315_1368, u315_1369, u315_1370, u315_1388, u315_1389, u315_1391, u315_1392, eq_self, q_nl0, q_nlI, q_nlR, not_false_eq_true, q_nz0, q_nz1, q_zv0, q_zv1, q_tl1, q_tl0, q_wif, q_swc, q_swn, List.cons_append, List.nil_append, if_true, if_false, e10, e01, Bool.false_eq_true, sh_195, t_in1, t_cl1, hm1, eq_false (nI_nlt (Nat.le_refl (τ 0 1)) (show τ 0 1 < 2 ^ 31 by omega))]
    rfl
  refine a1.trans ((s1 Q).trans (a2.trans (e'.trans ?_)))
  show wq X (d + 12) 315 1394 _ _ _ _ = _
  rw [u315_1394]
  simp only [u315_1396, u315_1397, u315_1398, u315_1399, u315_1431, u315_1432, u315_1435, u315_1437, u315_1438, u315_1439, eq_self, q_nl0, q_nlI, q_nlR, not_false_eq_true, q_nz0, q_nz1, q_zv0, q_zv1, q_tl1, q_tl0, q_wif, q_swc, q_swn, List.cons_append, List.nil_append, if_true, if_false, e10, e01, Bool.false_eq_true, sh_1, sh_195, t_in1, t_cl1, hm2, eq_false (nI_nlt (Nat.le_refl (τ 0 1)) (show τ 0 1 < 2 ^ 31 by omega)), q3]
  simp only [u315_1442, u315_1443, u315_1444, eq_self, q_nl0, q_nlI, q_nlR, not_false_eq_true, q_nz0, q_nz1, q_zv0, q_zv1, q_tl1, q_tl0, q_wif, q_swc, q_swn, List.cons_append, List.nil_append, if_true, if_false, e10, e01, Bool.false_eq_true, l0]
  simp only [u315_1447, u315_1448, u315_1450, u315_1451, u315_1454, u315_1455, u315_1458, u315_1459, eq_self, q_nl0, q_nlI, q_nlR, not_false_eq_true, q_nz0, q_nz1, q_zv0, q_zv1, q_tl1, q_tl0, q_wif, q_swc, q_swn, List.cons_append, List.nil_append, if_true, if_false, e10, e01, Bool.false_eq_true, fin]
end LAW7
