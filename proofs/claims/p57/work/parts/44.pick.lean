/-! THE BEST SO FAR -/
abbrev PT3 : Type := Option (Int32 × Int32 × Int32)
def pK (o : PT3) (k : Nat) (x : Int32) : Int32 := if k = 0 then (match o with
  | none => 0
  | some _ => 1) else if k = 1 then (match o with
  | none => 0
  | some q => q.1) else if k = 2 then (match o with
  | none => 0
  | some q => q.2.1) else if k = 3 then (match o with
  | none => 0
  | some q => q.2.2) else x
def hP (h : HT) (o : PT3) : HT := (fun c k => if c = 178 then pK o k (h.1 178 k) else h.1 c k, h.2)
theorem gI_hP {h : HT} {o : PT3} {c k : Nat} (z : c ≠ 178) : m_gI (hP h o) c k = m_gI h c k := if_neg z
theorem gI_hP0 {h : HT} {o : PT3} : m_gI (hP h o) 178 0 = (match o with
  | none => 0
  | some _ => 1) := rfl
theorem gI_hP1 {h : HT} {o : PT3} : m_gI (hP h o) 178 1 = (match o with
  | none => 0
  | some q => q.1) := rfl
theorem gI_hP2 {h : HT} {o : PT3} : m_gI (hP h o) 178 2 = (match o with
  | none => 0
  | some q => q.2.1) := rfl
theorem gI_hP3 {h : HT} {o : PT3} : m_gI (hP h o) 178 3 = (match o with
  | none => 0
  | some q => q.2.2) := rfl
theorem gR_hP {h : HT} {o : PT3} {c k : Nat} : m_gR (hP h o) c k = m_gR h c k := rfl
theorem Same_hP {h : HT} {o : PT3} : Same h (hP h o) := by
  refine ⟨rfl, fun c k z => gI_hP ?_⟩
  intro e
  rw [e] at z
  cases z
theorem sI_178 {h : HT} {f w c s : Int32} {o : PT3} (e : ∀ k x, pK o k x = if k = 3 then s else if k = 2 then c else if k = 1 then w else if k = 0 then f else x) : m_sI (m_sI (m_sI (m_sI h 178 0 f) 178 1 w) 178 2 c) 178 3 s = hP h o := by
  apply hx
  · intro b k
    show (if b = 178 ∧ k = 3 then s else if b = 178 ∧ k = 2 then c else if b = 178 ∧ k = 1 then w else if b = 178 ∧ k = 0 then f else h.1 b k) = if b = 178 then pK o k (h.1 178 k) else h.1 b k
    by_cases z : b = 178
    · rw [if_pos z, e, z]
      simp only [true_and]
    · simp only [z, false_and, if_false]
  · rfl
theorem hP_hP {h : HT} {o p : PT3} : hP (hP h o) p = hP h p := by
  apply hx
  · intro b k
    show (if b = 178 then pK p k (if 178 = 178 then pK o k (h.1 178 k) else h.1 178 k) else if b = 178 then _ else h.1 b k) = if b = 178 then pK p k (h.1 178 k) else h.1 b k
    by_cases z : b = 178
    · rw [if_pos z, if_pos z, if_pos rfl]
      unfold pK
      split
      · rfl
      · split
        · rfl
        · split
          · rfl
          · split <;> rfl
    · rw [if_neg z, if_neg z, if_neg z]
  · rfl
theorem pK_none (k : Nat) (x : Int32) : pK none k x = if k = 3 then 0 else if k = 2 then 0 else if k = 1 then 0 else if k = 0 then 0 else x := by
  show (if k = 0 then 0 else if k = 1 then 0 else if k = 2 then 0 else if k = 3 then 0 else x) = _
  by_cases z : k = 0 ∨ k = 1 ∨ k = 2 ∨ k = 3
  · rcases z with z | z | z | z <;> subst z <;> rfl
  · rw [if_neg (by omega), if_neg (by omega), if_neg (by omega), if_neg (by omega), if_neg (by omega), if_neg (by omega), if_neg (by omega), if_neg (by omega)]
theorem pK_some (w c s : Int32) (k : Nat) (x : Int32) : pK (some (w, c, s)) k x = if k = 3 then s else if k = 2 then c else if k = 1 then w else if k = 0 then 1 else x := by
  show (if k = 0 then 1 else if k = 1 then w else if k = 2 then c else if k = 3 then s else x) = _
  by_cases z : k = 0 ∨ k = 1 ∨ k = 2 ∨ k = 3
  · rcases z with z | z | z | z <;> subst z <;> rfl
  · rw [if_neg (by omega), if_neg (by omega), if_neg (by omega), if_neg (by omega), if_neg (by omega), if_neg (by omega), if_neg (by omega), if_neg (by omega)]
theorem c_pClear {X : XT} {d : Nat} {h : HT} {Q : QT} : wq X d 133 0 [some (.ref 178)] [] h Q = Q none (hP h none) := by
  simp only [u133_0, u133_1, u133_2, u133_5, u133_6, u133_7, u133_10, u133_11, u133_12, u133_15, u133_16, u133_17, u133_20, eq_self, q_nl0, q_nlI, q_nlR, not_false_eq_true, q_nz0, q_nz1, q_zv0, q_zv1, q_tl1, q_tl0, q_wif, q_swc, q_swn, List.cons_append, List.nil_append, if_true, if_false, e10, e01, Bool.false_eq_true, sh_178]
  rw [sI_178 pK_none]
def pTake (o : PT3) (s w c : Int32) : PT3 := match o with
  | none => some (w, c, s)
  | some q => if q.1 < w then some (w, c, s) else if w = q.1 then if c < q.2.1 then some (w, c, s) else some q else some q
def pWants (o : PT3) (w c : Int32) : Bool := match o with
  | none => true
  | some q => if q.1 < w then true else if w = q.1 then decide (c < q.2.1) else false
theorem pTake_w {o : PT3} {s w c : Int32} : pTake o s w c = if pWants o w c = true then some (w, c, s) else o := by
  cases o with
  | none => rfl
  | some q =>
    unfold pTake pWants
    by_cases a : q.1 < w
    · simp only [a, if_true]
    · by_cases b : w = q.1
      · by_cases e : c < q.2.1
        · simp only [eq_false a, eq_true b, eq_true e, if_true, if_false, decide_true]
        · simp only [eq_false a, eq_true b, eq_false e, if_true, if_false, decide_false, Bool.false_eq_true]
      · simp only [eq_false a, eq_false b, if_false, Bool.false_eq_true]
theorem c_wants {X : XT} {d : Nat} {h : HT} {Q : QT} {o : PT3} {w c : Int32} : wq X d 136 0 [some (.ref 178), some (.int w), some (.int c)] [] (hP h o) Q = Q (some (.int (if pWants o w c = true then 1 else 0))) (hP h o) := by
  cases o with
  | none => simp only [u136_0, u136_1, u136_4, u136_7, u136_8, u136_9, u136_12, u136_15, u136_16, u136_17, u136_20, u136_23, u136_24, u136_25, u136_28, u136_31, u136_32, u136_35, u136_36, eq_self, q_nl0, q_nlI, q_nlR, not_false_eq_true, q_nz0, q_nz1, q_zv0, q_zv1, q_tl1, q_tl0, q_wif, q_swc, q_swn, List.cons_append, List.nil_append, if_true, if_false, e10, e01, Bool.false_eq_true, sh_178, gI_hP0, pWants]
  | some q =>
    simp only [u136_0, u136_1, u136_4, u136_7, u136_8, u136_9, u136_12, u136_15, u136_16, u136_17, u136_20, u136_23, u136_24, u136_25, u136_28, u136_31, u136_32, u136_35, u136_36, eq_self, q_nl0, q_nlI, q_nlR, not_false_eq_true, q_nz0, q_nz1, q_zv0, q_zv1, q_tl1, q_tl0, q_wif, q_swc, q_swn, List.cons_append, List.nil_append, if_true, if_false, e10, e01, Bool.false_eq_true, sh_178, gI_hP0, gI_hP1, gI_hP2, pWants]
    by_cases a : q.1 < w
    · simp only [a, if_true]
    · by_cases b : w = q.1
      · by_cases e : c < q.2.1
        · simp only [eq_false a, eq_true b, eq_true e, if_true, if_false, decide_true]
        · simp only [eq_false a, eq_true b, eq_false e, if_true, if_false, decide_false, Bool.false_eq_true]
      · simp only [eq_false a, eq_false b, if_false, Bool.false_eq_true]
theorem c_take {X : XT} {d : Nat} {h : HT} {Q : QT} {o : PT3} {s w c : Int32} : wq X (d + 1) 135 0 [some (.ref 178), some (.int s), some (.int w), some (.int c)] [] (hP h o) Q = Q none (hP h (pTake o s w c)) := by
  rw [pTake_w]
  simp only [u135_0, u135_1, u135_2, u135_3, u135_6, eq_self, q_nl0, q_nlI, q_nlR, not_false_eq_true, q_nz0, q_nz1, q_zv0, q_zv1, q_tl1, q_tl0, q_wif, q_swc, q_swn, List.cons_append, List.nil_append, if_true, if_false, e10, e01, Bool.false_eq_true, sh_178, c_wants, if_b0]
  by_cases z : pWants o w c = true
  · simp only [u135_0, u135_1, u135_2, u135_3, u135_6, u135_9, u135_10, u135_11, u135_14, u135_15, u135_16, u135_19, u135_20, u135_21, u135_24, u135_25, u135_26, u135_29, eq_self, q_nl0, q_nlI, q_nlR, not_false_eq_true, q_nz0, q_nz1, q_zv0, q_zv1, q_tl1, q_tl0, q_wif, q_swc, q_swn, List.cons_append, List.nil_append, if_true, if_false, e10, e01, Bool.false_eq_true, sh_178, z, not_true_eq_false]
    rw [sI_178 (pK_some w c s), hP_hP]
  · simp only [u135_0, u135_1, u135_2, u135_3, u135_6, u135_9, u135_10, u135_11, u135_14, u135_15, u135_16, u135_19, u135_20, u135_21, u135_24, u135_25, u135_26, u135_29, eq_self, q_nl0, q_nlI, q_nlR, not_false_eq_true, q_nz0, q_nz1, q_zv0, q_zv1, q_tl1, q_tl0, q_wif, q_swc, q_swn, List.cons_append, List.nil_append, if_true, if_false, e10, e01, Bool.false_eq_true, sh_178, z, not_false_eq_true]
/-! subsets of those in the city -/
theorem city_sub {τ : CT} {n i : Nat} (h7 : τ 0 1 ≤ 7) (hi : i < 128) : (i &&& (127 ^^^ sCity τ n) = 0) = (i < 2 ^ τ 0 1 ∧ i &&& n = 0) := by
  have key : ∀ j, j < 7 → (i &&& (127 ^^^ sCity τ n)).testBit j = (i.testBit j && !(decide (j < τ 0 1) && !n.testBit j)) := by
    intro j hj
    rw [and_bit hj, sCity_bit hj]
  refine propext ⟨fun z => ⟨?_, ?_⟩, fun ⟨z, y⟩ => ?_⟩
  · refine Nat.lt_pow_two_of_testBit i (fun j hj => ?_)
    by_cases w : j < 7
    · have h1 := key j w
      rw [z, Nat.zero_testBit, decide_eq_false (show ¬ j < τ 0 1 by omega)] at h1
      simpa using h1.symm
    · exact bit_ge (k := 7) hi (by omega)
  · apply Nat.eq_of_testBit_eq
    intro j
    rw [Nat.testBit_and, Nat.zero_testBit]
    by_cases w : j < 7
    · have h1 := key j w
      rw [z, Nat.zero_testBit] at h1
      revert h1
      cases i.testBit j <;> cases n.testBit j <;> simp
    · rw [bit_ge (k := 7) hi (by omega)]
      rfl
  · apply Nat.eq_of_testBit_eq
    intro j
    rw [Nat.zero_testBit]
    by_cases w : j < 7
    · rw [key j w]
      cases e : i.testBit j
      · rfl
      · have h2 : j < τ 0 1 := bit_lt z e
        have h3 := congrArg (fun q => q.testBit j) y
        simp only [Nat.testBit_and, e, Bool.true_and, Nat.zero_testBit] at h3
        rw [h3, decide_eq_true h2]
        rfl
    · rw [Nat.testBit_and, bit_ge (k := 7) hi (by omega)]
      rfl
theorem fO_some {s : Nat → Option Nat → Option Nat} (hs : ∀ i b, s i (some b) ≠ none) {i0 : Nat} (h0 : s i0 none ≠ none) : ∀ n, i0 < n → ∃ b, fL s none n = some b
  | 0, h => absurd h (Nat.not_lt_zero _)
  | n + 1, h => by
    rw [fL_s]
    by_cases e : i0 = n
    · subst e
      cases q : fL s none i0 with
      | none => exact Option.ne_none_iff_exists'.mp h0
      | some b => exact Option.ne_none_iff_exists'.mp (hs i0 b)
    · obtain ⟨b, hb⟩ := fO_some hs h0 n (by omega)
      rw [hb]
      exact Option.ne_none_iff_exists'.mp (hs n b)
/-- the fewest of those that p allows, then the first -/
def miM (i : Nat) : Option Nat → Option Nat
  | none => some i
  | some b => if pcN i < pcN b then some i else some b
def miS (p : Nat → Bool) (i : Nat) (o : Option Nat) : Option Nat := if p i = true then miM i o else o
theorem miS_o {p : Nat → Bool} (i : Nat) (o : Option Nat) : miS p i o = o ∨ miS p i o = some i := by
  unfold miS
  split
  · cases o with
    | none => exact Or.inr rfl
    | some b =>
      by_cases y : pcN i < pcN b
      · exact Or.inr (if_pos y)
      · exact Or.inl (if_neg y)
  · exact Or.inl rfl
theorem miS_n {p : Nat → Bool} (i b : Nat) : miS p i (some b) ≠ none := by
  rcases miS_o (p := p) i (some b) with e | e <;> rw [e] <;> exact Option.some_ne_none _
def miP : Option Nat → PT3
  | none => none
  | some b => some (0, nI (pcN b), nI b)
theorem miP_take {i : Nat} (hi : i < 128) : ∀ o, (∀ b, o = some b → b < 128) → pTake (miP o) (nI i) 0 (nI (pcN i)) = miP (miM i o) := by
  intro o ho
  cases o with
  | none => rfl
  | some b =>
    have h1 := pcN_le _ hi
    have h2 := pcN_le _ (ho b rfl)
    show (if (0 : Int32) < 0 then some (0, nI (pcN i), nI i) else if (0 : Int32) = 0 then if nI (pcN i) < nI (pcN b) then some (0, nI (pcN i), nI i) else some (0, nI (pcN b), nI b) else some (0, nI (pcN b), nI b)) = miP (if pcN i < pcN b then some i else some b)
    rw [if_neg (by decide), if_pos rfl]
    by_cases y : pcN i < pcN b
    · rw [if_pos (nI_lt y (by omega)), if_pos y]
      rfl
    · rw [if_neg (nI_nlt (by omega) (by omega)), if_neg y]
      rfl
theorem w01 (w : Int32) : w = 0 ∧ (if w < 0 then (0 : Int32) else if 1 < w then 0 else 1) = 1 ∨ ¬ w = 0 ∧ w = 1 ∧ (if w < 0 then (0 : Int32) else if 1 < w then 0 else 1) = 1 ∨ ¬ w = 0 ∧ ¬ w = 1 ∧ (if w < 0 then (0 : Int32) else if 1 < w then 0 else 1) = 0 := by
  have h := ix_k1 (x := w) (k := 2) (by decide) (by decide)
  rw [show nI (2 - 1) = 1 from rfl] at h
  rcases ix_cases w (k := 2) (by decide) with ⟨m, hm, rfl, ix⟩ | ix
  · rw [ix, if_pos rfl] at h
    have : m = 0 ∨ m = 1 := by omega
    rcases this with e | e <;> subst e
    · exact Or.inl ⟨rfl, h⟩
    · exact Or.inr (Or.inl ⟨by decide, rfl, h⟩)
  · rw [ix, if_neg Bool.false_ne_true] at h
    refine Or.inr (Or.inr ⟨fun e => ?_, fun e => ?_, h⟩)
    · rw [e] at ix
      revert ix
      decide
    · rw [e] at ix
      revert ix
      decide
theorem or_city {τ : CT} {n : Nat} (h7 : τ 0 1 ≤ 7) (hn : n < 2 ^ τ 0 1) : n ||| sCity τ n = sAll τ := by
  apply Nat.eq_of_testBit_eq
  intro j
  have ea : (sAll τ).testBit j = decide (j < τ 0 1) := by
    unfold sAll
    rw [Nat.testBit_two_pow_sub_one]
  rw [Nat.testBit_or, ea]
  by_cases w : j < τ 0 1
  · rw [sCity_bit (by omega), decide_eq_true w]
    cases n.testBit j <;> rfl
  · rw [bit_ge hn (by omega), city_ge (by omega), decide_eq_false w]
    rfl
theorem sFol_all0 {τ : CT} : ∀ k, k ≤ τ 0 1 → sFolL τ (sAll τ) k = 0
  | 0, _ => rfl
  | k + 1, hk => by
    unfold sFolL
    have e : (sAll τ).testBit k = true := by
      unfold sAll
      rw [Nat.testBit_two_pow_sub_one]
      exact decide_eq_true hk
    rw [if_neg (fun z => by rw [e] at z; exact absurd z.1 (by decide))]
    exact sFol_all0 k (by omega)
theorem sSpread_all {τ : CT} : sSpread τ (sAll τ) = sAll τ := by
  have h : sFol τ (sSprL τ (sAll τ) 0) = 0 := sFol_all0 _ (Nat.le_refl _)
  exact sSpr_fix h 8
def spP (τ : CT) (n i : Nat) : Bool := decide (i &&& (127 ^^^ sCity τ n) = 0) && decide (sSpread τ (n ||| i) = sAll τ)
theorem spP_ge {τ : CT} {n i : Nat} (h7 : τ 0 1 ≤ 7) (hi : i < 128) (h : 2 ^ τ 0 1 ≤ i) : spP τ n i = false := by
  unfold spP
  simp only [city_sub h7 hi]
  rw [decide_eq_false (fun z => by omega), Bool.false_and]
theorem fL_to2 {α : Type} {s : Nat → α → α} {a : α} {k n : Nat} (hk : k ≤ n) (h : ∀ i o, k ≤ i → i < n → s i o = o) : fL s a n = fL s a k := by
  induction n with
  | zero => rw [show k = 0 by omega]
  | succ n ih =>
    by_cases e : k = n + 1
    · rw [e]
    · rw [fL_s, h n _ (by omega) (by omega), ih (by omega) (fun i o h1 h2 => h i o h1 (by omega))]
theorem p2m1 {k : Nat} : 2 ^ k - 1 + 1 = 2 ^ k := Nat.sub_add_cancel (Nat.two_pow_pos k)
theorem le_all {τ : CT} (h7 : τ 0 1 ≤ 7) {i : Nat} (hi : i < 2 ^ τ 0 1) : (nI (sAll τ) < nI i) = False := by
  have h8 := p2_7 h7
  have : sAll τ = 2 ^ τ 0 1 - 1 := rfl
  exact eq_false (nI_nlt (by omega) (by omega))
theorem gt_all {τ : CT} (h7 : τ 0 1 ≤ 7) : (nI (sAll τ) < nI (2 ^ τ 0 1)) = True := by
  have h8 := p2_7 h7
  have h9 : 0 < 2 ^ τ 0 1 := Nat.two_pow_pos _
  have : sAll τ = 2 ^ τ 0 1 - 1 := rfl
  exact eq_true (nI_lt (by omega) (by omega))
theorem sSpread_lt {τ : CT} (H : cOk τ) {n : Nat} (hn : n < 128) : sSpread τ n < 128 := sSprL_lt H hn 8
