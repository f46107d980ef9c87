/-! WHAT THE LAW WROTE, READ AGAIN: lines of crafts and demands, foes, a draw -/
theorem fp_none {P : Nat → Bool} : ∀ n i, (∀ j, i ≤ j → j < i + n → P j = false) → fp P n i = i + n
  | 0, i, _ => rfl
  | n + 1, i, h => by
    unfold fp
    rw [if_neg (by rw [h i (Nat.le_refl i) (by omega)]; decide), fp_none n (i + 1) (fun j h1 h2 => h j (by omega) (by omega))]
    omega
theorem fp_at {P : Nat → Bool} : ∀ n i k, k < n → (∀ j, i ≤ j → j < i + k → P j = false) → P (i + k) = true → fp P n i = i + k
  | 0, _, _, h, _, _ => absurd h (Nat.not_lt_zero _)
  | n + 1, i, 0, _, _, h => by
    unfold fp
    rw [if_pos (by rw [Nat.add_zero] at h; exact h)]
    rfl
  | n + 1, i, k + 1, hk, h1, h2 => by
    unfold fp
    rw [if_neg (by rw [h1 i (Nat.le_refl i) (by omega)]; decide), fp_at n (i + 1) k (by omega) (fun j g1 g2 => h1 j (by omega) (by omega)) (by rw [show i + 1 + k = i + (k + 1) by omega]; exact h2)]
    omega
def cLn (k a l : Nat) (U : List Nat) : List Nat := tb 27 ++ ([97 + k, 32] ++ (tb 28 ++ (dg a ++ ([32] ++ (tb 29 ++ (dg l ++ ([32] ++ (tb 30 ++ U))))))))
def dLn (k a l : Nat) (U : List Nat) : List Nat := tb 37 ++ ([97 + k, 32] ++ (tb 38 ++ (dg a ++ ([32] ++ (tb 39 ++ (dg l ++ ([32] ++ (tb 30 ++ U))))))))
def fLn (a l : Nat) (U : List Nat) : List Nat := tb 43 ++ (dg a ++ ([32] ++ (tb 44 ++ (dg l ++ ([32] ++ (tb 30 ++ U))))))
def wLn (a : Nat) (U : List Nat) : List Nat := tb 45 ++ (dg a ++ ([32] ++ (tb 30 ++ U)))
section LINES
variable {V : Nat → Nat} {L s : Nat} {τ : CT} { U : List Nat}
theorem wdE {s : Nat} : wd V L s = wN V s (nLt V L s) := rfl
theorem own_nm : ∀ k, k < 5 → own (nL (1 + k)) = false := by decide +kernel
/-- a name not told yet -/
theorem p_new {ν : Nat → Nat} {n k : Nat} { U : List Nat} (hk : k < 5) (H : St V L s ([97 + k, 32] ++ U)) (nn : nb U) (hν : ∀ i, i < n → ν i ≠ 1 + k) : nmP V L ν n (.inr s) = .inr (nx V L s) ∧ wd V L s = 1 + k ∧ St V L (nx V L s) U := by
  obtain ⟨k1, w1, H1⟩ := t_nm hk H nn
  refine ⟨?_, w1, H1⟩
  have e1 : isN V L s = true := by
    rw [isN_is k1 w1, own_nm k hk]
    rfl
  have e2 : fp (wP ν (wd V L s)) n 0 = n := by
    rw [fp_none n 0 (fun j _ h => by
      unfold wP
      rw [wdE, w1]
      exact decide_eq_false (hν j (by omega)))]
    omega
  show (if isN V L s = true then (if fp (wP ν (wd V L s)) n 0 < n then (.inl (kdO V L s 3, s) : RP) else .inr (nx V L s)) else .inl (kdO V L s 2, s)) = _
  rw [if_pos e1, e2, if_neg (by omega)]
theorem p_exW {i j : Nat} { U : List Nat} (hi : i < 46) (hk : kwI i = true) (hj : nL (kwv i) = txW j) (H : St V L s (tb i ++ U)) (n : nb U) : exW V L j (.inr s) = .inr (nx V L s) ∧ St V L (nx V L s) U := by
  obtain ⟨k0, w0, H1⟩ := t_kw hi hk H n
  refine ⟨?_, H1⟩
  show (if isW V L s j = true then (.inr (nx V L s) : RP) else .inl (kdO V L s 2, s)) = _
  rw [if_pos (by rw [isW_is k0 w0]; exact decide_eq_true hj)]
theorem p_nuP {v m : Nat} { U : List Nat} (hv : v < 1000) (hm : v ≤ m) (H : St V L s (dg v ++ ([32] ++ U))) (n : nb U) : nuP V L m (.inr s) = (.inr (nx V L s), v) ∧ St V L (nx V L s) U := by
  obtain ⟨k0, v0, H1⟩ := t_dg hv H n
  refine ⟨?_, H1⟩
  show (if tK V L s = 2 then (if m < dN V s (nDg V L s) then ((.inl (kdO V L s 4, s) : RP), 0) else (.inr (nx V L s), dN V s (nDg V L s))) else (.inl (kdO V L s 2, s), 0)) = _
  rw [if_pos k0, v0, if_neg (by omega)]
theorem p_semi {τ : CT} { U : List Nat} (H : St V L s (tb 30 ++ U)) (n : nb U) : exL V L 59 (.inr (s, τ)) = .inr (nx V L s, τ) ∧ St V L (nx V L s) U := by
  obtain ⟨k0, v0, H1⟩ := t_sc H n
  refine ⟨?_, H1⟩
  show (if isG V L s 59 = true then (.inr (nx V L s, τ) : RL) else .inl (kdO V L s 2, s)) = _
  rw [if_pos (by rw [isG_is k0 v0]; rfl)]
theorem kw_27 : nL (kwv 27) = txW 1 := by decide +kernel
theorem kw_28 : nL (kwv 28) = txW 3 := by decide +kernel
theorem kw_29 : nL (kwv 29) = txW 4 := by decide +kernel
theorem kw_31 : nL (kwv 31) = txW 5 := by decide +kernel
theorem kw_32 : nL (kwv 32) = txW 6 := by decide +kernel
theorem kw_33 : nL (kwv 33) = txW 7 := by decide +kernel
theorem kw_34 : nL (kwv 34) = txW 8 := by decide +kernel
theorem kw_35 : nL (kwv 35) = txW 9 := by decide +kernel
theorem kw_37 : nL (kwv 37) = txW 11 := by decide +kernel
theorem kw_38 : nL (kwv 38) = txW 12 := by decide +kernel
theorem kw_39 : nL (kwv 39) = txW 13 := by decide +kernel
theorem kw_43 : nL (kwv 43) = txW 24 := by decide +kernel
theorem kw_44 : nL (kwv 44) = txW 25 := by decide +kernel
theorem kw_45 : nL (kwv 45) = txW 26 := by decide +kernel
theorem no_1_5 : nL (kwv 31) ≠ txW 1 := by decide +kernel
theorem no_1_11 : nL (kwv 37) ≠ txW 1 := by decide +kernel
theorem no_5_11 : nL (kwv 37) ≠ txW 5 := by decide +kernel
theorem no_24 : nL (kwv 43) ≠ txW 1 ∧ nL (kwv 43) ≠ txW 5 ∧ nL (kwv 43) ≠ txW 11 ∧ nL (kwv 43) ≠ txW 14 := by decide +kernel
theorem no_26 : nL (kwv 45) ≠ txW 1 ∧ nL (kwv 45) ≠ txW 5 ∧ nL (kwv 45) ≠ txW 11 ∧ nL (kwv 45) ≠ txW 14 ∧ nL (kwv 45) ≠ txW 24 := by decide +kernel
theorem p_craft {k a l : Nat} (H : St V L s (cLn k a l U)) (n : nb U) (hk : k < 3) (ha : a ≤ 7) (hl : l ≤ 99) (h0 : τ 0 0 = k) (hν : ∀ i, i < k → τ 11 i = 1 + i) : tK V L s ≠ 0 ∧ ∃ s', exL V L 59 (liX V L s τ) = .inr (s', upC τ (1 + k) a l) ∧ St V L s' U := by
  unfold cLn at H
  obtain ⟨k0, w0, H1⟩ := t_kw (i := 27) (by decide) (by decide) H nb_nm
  obtain ⟨e1, w1, H2⟩ := p_new (ν := τ 11) (n := k) (k := k) (by omega) H1 (nb_tb (by decide) (by decide)) (fun i hi => by rw [hν i hi]; omega)
  obtain ⟨e2, H3⟩ := p_exW (j := 3) (by decide) (by decide) kw_28 H2 (nb_dg (by omega))
  obtain ⟨e3, H4⟩ := p_nuP (m := 7) (by omega) ha H3 (nb_tb (by decide) (by decide))
  obtain ⟨e4, H5⟩ := p_exW (j := 4) (by decide) (by decide) kw_29 H4 (nb_dg (by omega))
  obtain ⟨e5, H6⟩ := p_nuP (m := 99) (by omega) hl H5 (nb_tb (by decide) (by decide))
  obtain ⟨e6, H7⟩ := p_semi (τ := upC τ (1 + k) a l) H6 n
  refine ⟨by rw [k0]; decide, _, ?_, H7⟩
  have x1 : isW V L s 1 = true := by
    rw [isW_is k0 w0]
    exact decide_eq_true kw_27
  unfold liX liC cP2 cP1 cP0
  rw [if_pos x1, if_neg (by omega), h0, e1, e2, e3, e4, e5, w1]
  exact e6
theorem p_demand {k a l : Nat} (H : St V L s (dLn k a l U)) (n : nb U) (hk : k < 3) (ha : a ≤ 999) (hl : l ≤ 99) (h0 : τ 0 2 = k) (hν : ∀ i, i < k → τ 13 i = 1 + i) : tK V L s ≠ 0 ∧ ∃ s', exL V L 59 (liX V L s τ) = .inr (s', upD τ (1 + k) a l) ∧ St V L s' U := by
  unfold dLn at H
  obtain ⟨k0, w0, H1⟩ := t_kw (i := 37) (by decide) (by decide) H nb_nm
  obtain ⟨e1, w1, H2⟩ := p_new (ν := τ 13) (n := k) (k := k) (by omega) H1 (nb_tb (by decide) (by decide)) (fun i hi => by rw [hν i hi]; omega)
  obtain ⟨e2, H3⟩ := p_exW (j := 12) (by decide) (by decide) kw_38 H2 (nb_dg (by omega))
  obtain ⟨e3, H4⟩ := p_nuP (m := 999) (by omega) ha H3 (nb_tb (by decide) (by decide))
  obtain ⟨e4, H5⟩ := p_exW (j := 13) (by decide) (by decide) kw_39 H4 (nb_dg (by omega))
  obtain ⟨e5, H6⟩ := p_nuP (m := 99) (by omega) hl H5 (nb_tb (by decide) (by decide))
  obtain ⟨e6, H7⟩ := p_semi (τ := upD τ (1 + k) a l) H6 n
  refine ⟨by rw [k0]; decide, _, ?_, H7⟩
  have x1 : ¬ isW V L s 1 = true := by
    rw [isW_is k0 w0, decide_eq_true_eq]
    exact no_1_11
  have x5 : ¬ isW V L s 5 = true := by
    rw [isW_is k0 w0, decide_eq_true_eq]
    exact no_5_11
  have x11 : isW V L s 11 = true := by
    rw [isW_is k0 w0]
    exact decide_eq_true kw_37
  unfold liX liD dP2 dP1 dP0
  rw [if_neg x1, if_neg x5, if_pos x11, if_neg (by omega), h0, e1, e2, e3, e4, e5, w1]
  exact e6
theorem p_foes {a l : Nat} (H : St V L s (fLn a l U)) (n : nb U) (ha : a ≤ 100) (hl : l ≤ 999) (h0 : τ 0 10 = 0) : tK V L s ≠ 0 ∧ ∃ s', exL V L 59 (liX V L s τ) = .inr (s', upF τ a l) ∧ St V L s' U := by
  unfold fLn at H
  obtain ⟨k0, w0, _⟩ := t_kw (i := 43) (by decide) (by decide) H (nb_dg (by omega))
  obtain ⟨e2, H3⟩ := p_exW (j := 24) (by decide) (by decide) kw_43 H (nb_dg (by omega))
  obtain ⟨e3, H4⟩ := p_nuP (m := 100) (by omega) ha H3 (nb_tb (by decide) (by decide))
  obtain ⟨e4, H5⟩ := p_exW (j := 25) (by decide) (by decide) kw_44 H4 (nb_dg (by omega))
  obtain ⟨e5, H6⟩ := p_nuP (m := 999) (by omega) hl H5 (nb_tb (by decide) (by decide))
  obtain ⟨e6, H7⟩ := p_semi (τ := upF τ a l) H6 n
  refine ⟨by rw [k0]; decide, _, ?_, H7⟩
  have x : ∀ j, nL (kwv 43) ≠ txW j → ¬ isW V L s j = true := fun j hj => by
    rw [isW_is k0 w0, decide_eq_true_eq]
    exact hj
  have x24 : isW V L s 24 = true := by
    rw [isW_is k0 w0]
    exact decide_eq_true kw_43
  unfold liX liF fP2 fP1
  rw [if_neg (x 1 no_24.1), if_neg (x 5 no_24.2.1), if_neg (x 11 no_24.2.2.1), if_neg (fun e => x 14 no_24.2.2.2 e.1), if_pos ⟨x24, h0⟩, e2, e3, e4, e5]
  exact e6
theorem p_draw {a : Nat} (H : St V L s (wLn a U)) (n : nb U) (ha : a ≤ 999) (h0 : τ 0 11 = 0) : tK V L s ≠ 0 ∧ ∃ s', exL V L 59 (liX V L s τ) = .inr (s', upW τ a) ∧ St V L s' U := by
  unfold wLn at H
  obtain ⟨k0, w0, _⟩ := t_kw (i := 45) (by decide) (by decide) H (nb_dg (by omega))
  obtain ⟨e2, H3⟩ := p_exW (j := 26) (by decide) (by decide) kw_45 H (nb_dg (by omega))
  obtain ⟨e5, H6⟩ := p_nuP (m := 999) (by omega) ha H3 (nb_tb (by decide) (by decide))
  obtain ⟨e6, H7⟩ := p_semi (τ := upW τ a) H6 n
  refine ⟨by rw [k0]; decide, _, ?_, H7⟩
  have x : ∀ j, nL (kwv 45) ≠ txW j → ¬ isW V L s j = true := fun j hj => by
    rw [isW_is k0 w0, decide_eq_true_eq]
    exact hj
  have x26 : isW V L s 26 = true := by
    rw [isW_is k0 w0]
    exact decide_eq_true kw_45
  unfold liX liW
  rw [if_neg (x 1 no_26.1), if_neg (x 5 no_26.2.1), if_neg (x 11 no_26.2.2.1), if_neg (fun e => x 14 no_26.2.2.2.1 e.1), if_neg (fun e => x 24 no_26.2.2.2.2 e.1), if_pos ⟨x26, h0⟩, e2, e5]
  exact e6
end LINES
