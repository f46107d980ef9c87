/-! WHAT THE LAW WROTE, READ AGAIN: a man's line -/
def nmL : List Nat → List Nat → List Nat
  | [], U => U
  | k :: ks, U => [97 + k, 32] ++ nmL ks U
def ksl (sk : Nat) : List Nat := (List.range 3).filter (fun k => sk.testBit k)
def orL : Nat → List Nat → Nat
  | t, [] => t
  | t, k :: ks => orL (t ||| 2 ^ k) ks
def otL (ho : Bool) (ot : Nat) (U : List Nat) : List Nat := if ho = true then tb 35 ++ (dg ot ++ ([32] ++ U)) else U
def ouL (hu : Bool) (U : List Nat) : List Nat := if hu = true then tb 36 ++ U else U
def mLn (k sk lv de : Nat) (ho : Bool) (ot : Nat) (hu : Bool) (U : List Nat) : List Nat := tb 31 ++ ([97 + k, 32] ++ (tb 32 ++ nmL (ksl sk) (tb 33 ++ (dg lv ++ ([32] ++ (tb 34 ++ (dg de ++ ([32] ++ otL ho ot (ouL hu (tb 30 ++ U))))))))))
theorem ks_ok : ∀ sk, sk < 8 → 0 < sk → (∀ k, k ∈ ksl sk → k < 3 ∧ sk.testBit k = true) ∧ (ksl sk).Nodup ∧ orL 0 (ksl sk) = sk ∧ 1 ≤ (ksl sk).length ∧ (ksl sk).length ≤ 3 := by decide +kernel
def outv : Nat := wv (tb 36) (tb 36).length
theorem out_ok : 1 ≤ (tb 36).length ∧ (tb 36).length ≤ 8 ∧ (∀ k, k < (tb 36).length → 97 ≤ (tb 36).getD k 0 ∧ (tb 36).getD k 0 ≤ 122) ∧ nL outv = txW 10 ∧ nL outv ≠ txW 9 := by decide +kernel
theorem own_33 : own (nL (kwv 33)) = true := by decide +kernel
section MANL
variable {V : Nat → Nat} {L s : Nat} {τ : CT} { U : List Nat}
theorem p_known {ν : Nat → Nat} {n k t : Nat} (hk : k < 5) (H : St V L s ([97 + k, 32] ++ U)) (nn : nb U) (hν : ∀ i, i < n → ν i = 1 + i) (hn : k < n) (ht : t.testBit k = false) : isN V L s = true ∧ cnP V L ν n t (.inr s) = (.inr (nx V L s), 2 ^ k) ∧ St V L (nx V L s) U := by
  obtain ⟨k1, w1, H1⟩ := t_nm hk H nn
  have e1 : isN V L s = true := by
    rw [isN_is k1 w1, own_nm k hk]
    rfl
  refine ⟨e1, ?_, H1⟩
  have e2 : fp (wP ν (wd V L s)) n 0 = k := by
    rw [fp_at n 0 k hn (fun j _ h => by
      unfold wP
      rw [wdE, w1, hν j (by omega)]
      exact decide_eq_false (by omega)) (by
      unfold wP
      rw [wdE, w1, Nat.zero_add, hν k hn]
      exact decide_eq_true rfl), Nat.zero_add]
  show (if isN V L s = true then (if fp (wP ν (wd V L s)) n 0 < n then (if t.testBit (fp (wP ν (wd V L s)) n 0) = true then ((.inl (kdO V L s 3, s) : RP), 0) else (.inr (nx V L s), 2 ^ fp (wP ν (wd V L s)) n 0)) else (.inl (kdO V L s 5, s), 0)) else (.inl (kdO V L s 2, s), 0)) = _
  rw [if_pos e1, e2, if_pos hn, if_neg (by rw [ht]; decide)]
theorem nb_nmL {ks : List Nat} (h : nb U) : nb (nmL ks U) := by
  cases ks with
  | nil => exact h
  | cons k ks => exact nb_nm
theorem p_names {ν : Nat → Nat} {n : Nat} (hν : ∀ i, i < n → ν i = 1 + i) (hn : n ≤ 3) : ∀ (ks : List Nat) (f t s : Nat), ks.length < f → (∀ k, k ∈ ks → k < n ∧ t.testBit k = false) → ks.Nodup → St V L s (nmL ks (tb 33 ++ U)) → ∃ s', crL V L ν n f t (.inr s) = (.inr s', orL t ks) ∧ St V L s' (tb 33 ++ U)
  | [], 0, _, _, h, _, _, _ => absurd h (Nat.not_lt_zero _)
  | [], f + 1, t, s, _, _, _, H => by
    have H' : St V L s (tb 33 ++ U) := H
    refine ⟨s, ?_, H'⟩
    obtain ⟨k1, k2, k3, k4⟩ := kw_ok 33 (by decide) (by decide)
    have H2 := H'
    rw [k1, List.append_assoc] at H2
    obtain ⟨a, b, _, _⟩ := t_word H2 k2 k3 k4 nlh_32
    have e1 : ¬ isN V L s = true := by
      rw [isN_is a b]
      show ¬ decide (own (nL (kwv 33)) = false) = true
      rw [own_33]
      decide
    show (if isN V L s = true then crL V L ν n f (t ||| (cnP V L ν n t (.inr s)).2) (cnP V L ν n t (.inr s)).1 else ((.inr s : RP), t)) = _
    rw [if_neg e1]
    rfl
  | k :: ks, 0, _, _, h, _, _, _ => absurd h (Nat.not_lt_zero _)
  | k :: ks, f + 1, t, s, hf, hk, hd, H => by
    obtain ⟨k1, k2⟩ := hk k List.mem_cons_self
    obtain ⟨d1, d2⟩ := List.nodup_cons.mp hd
    obtain ⟨e1, e2, H1⟩ := p_known (t := t) (by omega) H (nb_nmL (nb_tb (by decide) (by decide))) hν k1 k2
    obtain ⟨s', e3, H2⟩ := p_names hν hn ks f (t ||| 2 ^ k) (nx V L s) (by simp only [List.length_cons] at hf; omega) (fun j hj => by
      obtain ⟨j1, j2⟩ := hk j (List.mem_cons_of_mem _ hj)
      refine ⟨j1, ?_⟩
      rw [Nat.testBit_or, j2, Nat.testBit_two_pow, decide_eq_false (fun (e : k = j) => d1 (e ▸ hj))]
      rfl) d2 H1
    refine ⟨s', ?_, H2⟩
    show (if isN V L s = true then crL V L ν n f (t ||| (cnP V L ν n t (.inr s)).2) (cnP V L ν n t (.inr s)).1 else ((.inr s : RP), t)) = _
    rw [if_pos e1, e2]
    exact e3
theorem nb_ou {hu : Bool} : nb (ouL hu (tb 30 ++ U)) := by
  cases hu
  · exact nb_tb (by decide) (by decide)
  · exact nb_tb (by decide) (by decide)
theorem nb_ot {ho hu : Bool} {ot : Nat} : nb (otL ho ot (ouL hu (tb 30 ++ U))) := by
  cases ho
  · exact nb_ou
  · exact nb_tb (by decide) (by decide)
theorem nlh_30 : nlh (tb 30 ++ U) := by
  rw [tb_30]
  exact Or.inr (by show ¬ (97 ≤ 59 ∧ 59 ≤ 122); omega)
/-- who is out as it begins -/
theorem p_ou {hu : Bool} (H : St V L s (ouL hu (tb 30 ++ U))) (n : nb U) : isW V L s 9 = false ∧ ∃ s', ouP V L (.inr s) = (.inr s', if hu = true then 1 else 0) ∧ St V L s' (tb 30 ++ U) := by
  cases hu
  · have H' : St V L s (tb 30 ++ U) := H
    obtain ⟨a, b, c⟩ := t_sc H' n
    have no : ∀ j, isW V L s j = false := fun j => isW_no (by rw [a]; decide)
    refine ⟨no 9, s, ?_, H'⟩
    show (if isW V L s 10 = true then ((.inr (nx V L s) : RP), 1) else (.inr s, 0)) = _
    rw [if_neg (by rw [no]; decide)]
    rfl
  · have H' : St V L s (tb 36 ++ (tb 30 ++ U)) := H
    obtain ⟨o1, o2, o3, o4, o5⟩ := out_ok
    obtain ⟨a, b, c, e⟩ := t_word H' o1 o2 o3 nlh_30
    refine ⟨?_, nx V L s, ?_, ?_⟩
    · rw [isW_is a b]
      exact decide_eq_false o5
    · show (if isW V L s 10 = true then ((.inr (nx V L s) : RP), 1) else (.inr s, 0)) = _
      rw [if_pos (by rw [isW_is a b]; exact decide_eq_true o4)]
      rfl
    · unfold nx
      rw [c, ts_nb e (nb_tb (by decide) (by decide))]
      exact e
theorem p_ot {ho hu : Bool} {ot : Nat} (ho6 : ot ≤ 6) (H : St V L s (otL ho ot (ouL hu (tb 30 ++ U)))) (n : nb U) : ∃ s', otP V L (.inr s) = (.inr s', if ho = true then ot else 0) ∧ St V L s' (ouL hu (tb 30 ++ U)) := by
  cases ho
  · have H' : St V L s (ouL hu (tb 30 ++ U)) := H
    obtain ⟨a, _⟩ := p_ou H' n
    refine ⟨s, ?_, H'⟩
    show (if isW V L s 9 = true then nuP V L 6 (exW V L 9 (.inr s)) else ((.inr s : RP), 0)) = _
    rw [if_neg (by rw [a]; decide)]
    rfl
  · have H' : St V L s (tb 35 ++ (dg ot ++ ([32] ++ ouL hu (tb 30 ++ U)))) := H
    obtain ⟨k0, w0, _⟩ := t_kw (i := 35) (by decide) (by decide) H' (nb_dg (by omega))
    obtain ⟨e2, H3⟩ := p_exW (j := 9) (by decide) (by decide) kw_35 H' (nb_dg (by omega))
    obtain ⟨e3, H4⟩ := p_nuP (m := 6) (by omega) ho6 H3 nb_ou
    refine ⟨_, ?_, H4⟩
    show (if isW V L s 9 = true then nuP V L 6 (exW V L 9 (.inr s)) else ((.inr s : RP), 0)) = _
    rw [if_pos (by rw [isW_is k0 w0]; exact decide_eq_true kw_35), e2, e3]
    rfl
theorem p_man {k sk lv de ot : Nat} {ho hu : Bool} (H : St V L s (mLn k sk lv de ho ot hu U)) (n : nb U) (hk : k < 5) (hl : lv ≤ 20) (hd : de ≤ 99) (h6 : ot ≤ 6) (h0 : τ 0 1 = k) (hν : ∀ i, i < k → τ 12 i = 1 + i) (hc3 : τ 0 0 ≤ 3) (hc : ∀ i, i < τ 0 0 → τ 11 i = 1 + i) (sk1 : 0 < sk) (sk2 : sk < 2 ^ τ 0 0) : tK V L s ≠ 0 ∧ ∃ s', exL V L 59 (liX V L s τ) = .inr (s', upM τ (1 + k) sk lv de (if ho = true then ot else 0) (if hu = true then 1 else 0)) ∧ St V L s' U := by
  have sk8 : sk < 8 := Nat.lt_of_lt_of_le sk2 (Nat.pow_le_pow_right (n := 2) (by decide) hc3)
  obtain ⟨s1, s2, s3, s4, s5⟩ := ks_ok sk sk8 sk1
  unfold mLn at H
  obtain ⟨k0, w0, H1⟩ := t_kw (i := 31) (by decide) (by decide) H nb_nm
  obtain ⟨e1, w1, H2⟩ := p_new (ν := τ 12) (n := k) (k := k) hk H1 (nb_tb (by decide) (by decide)) (fun i hi => by rw [hν i hi]; omega)
  obtain ⟨e2, H3⟩ := p_exW (j := 6) (by decide) (by decide) kw_32 H2 (nb_nmL (nb_tb (by decide) (by decide)))
  obtain ⟨q0, qs, hq⟩ : ∃ q0 qs, ksl sk = q0 :: qs := by
    cases h : ksl sk with
    | nil =>
      rw [h] at s4
      exact absurd s4 (by decide)
    | cons a as => exact ⟨a, as, rfl⟩
  rw [hq] at H3 s1 s2 s3 s5
  have bitn : ∀ j, j ∈ q0 :: qs → j < τ 0 0 := fun j hj => bit_lt sk2 (s1 j hj).2
  obtain ⟨d1, d2⟩ := List.nodup_cons.mp s2
  obtain ⟨_, e3, H4⟩ := p_known (ν := τ 11) (n := τ 0 0) (t := 0) (by have := bitn q0 List.mem_cons_self; omega) H3 (nb_nmL (nb_tb (by decide) (by decide))) hc (bitn q0 List.mem_cons_self) (Nat.zero_testBit _)
  obtain ⟨s', e4, H5⟩ := p_names hc hc3 qs 4 (2 ^ q0) _ (by simp only [List.length_cons] at s5; omega) (fun j hj => by
    refine ⟨bitn j (List.mem_cons_of_mem _ hj), ?_⟩
    rw [Nat.testBit_two_pow]
    exact decide_eq_false (fun e => d1 (e ▸ hj))) d2 H4
  have eo : orL (2 ^ q0) qs = sk := by
    have : orL 0 (q0 :: qs) = orL (0 ||| 2 ^ q0) qs := rfl
    rw [this, Nat.zero_or] at s3
    exact s3
  rw [eo] at e4
  obtain ⟨e5, H6⟩ := p_exW (j := 7) (by decide) (by decide) kw_33 H5 (nb_dg (by omega))
  obtain ⟨e6, H7⟩ := p_nuP (m := 20) (by omega) hl H6 (nb_tb (by decide) (by decide))
  obtain ⟨e7, H8⟩ := p_exW (j := 8) (by decide) (by decide) kw_34 H7 (nb_dg (by omega))
  obtain ⟨e8, H9⟩ := p_nuP (m := 99) (by omega) hd H8 nb_ot
  obtain ⟨t1, e9, H10⟩ := p_ot h6 H9 n
  obtain ⟨_, t2, e10, H11⟩ := p_ou H10 n
  obtain ⟨e11, H12⟩ := p_semi (τ := upM τ (1 + k) sk lv de (if ho = true then ot else 0) (if hu = true then 1 else 0)) H11 n
  refine ⟨by rw [k0]; decide, _, ?_, H12⟩
  have x1 : ¬ isW V L s 1 = true := by
    rw [isW_is k0 w0, decide_eq_true_eq]
    exact no_1_5
  have x5 : isW V L s 5 = true := by
    rw [isW_is k0 w0]
    exact decide_eq_true kw_31
  unfold liX liM mP6 mP5 mP4 mP3 mP2 mP1 mP0
  rw [if_neg x1, if_pos x5, if_neg (by omega), h0, e1, e2, e3]
  simp only [e4, e5, e6, e7, e8, e9, e10, w1]
  exact e11
end MANL
