/-! WHAT THE LAW WROTE, READ AGAIN: tokens -/
def St (V : Nat → Nat) (L s : Nat) (U : List Nat) : Prop := s + U.length = L ∧ ∀ k, k < U.length → V (s + k) = U.getD k 0
/-- no blank stands first; no letter; no digit -/
def nb (U : List Nat) : Prop := U = [] ∨ U.getD 0 0 ≠ 32 ∧ U.getD 0 0 ≠ 10
def nlh (U : List Nat) : Prop := U = [] ∨ ¬ (97 ≤ U.getD 0 0 ∧ U.getD 0 0 ≤ 122)
def ndg (U : List Nat) : Prop := U = [] ∨ ¬ (48 ≤ U.getD 0 0 ∧ U.getD 0 0 ≤ 57)
def wv : List Nat → Nat → Nat
  | _, 0 => 0
  | bs, j + 1 => wv bs j * 32 + (bs.getD j 0 - 96)
def dv : List Nat → Nat → Nat
  | _, 0 => 0
  | bs, j + 1 => dv bs j * 10 + (bs.getD j 0 - 48)
theorem rl_is {P : Nat → Bool} : ∀ k n s, k ≤ n → (∀ j, j < k → P (s + j) = true) → (k < n → P (s + k) = false) → rl P n s = k
  | 0, 0, s, _, _, _ => rfl
  | 0, n + 1, s, _, _, h => by
    unfold rl
    rw [if_neg (by have := h (by omega); rw [Nat.add_zero] at this; rw [this]; decide)]
  | k + 1, 0, s, h, _, _ => absurd h (by omega)
  | k + 1, n + 1, s, h, h1, h2 => by
    have h0 := h1 0 (by omega)
    rw [Nat.add_zero] at h0
    unfold rl
    rw [if_pos h0, rl_is k n (s + 1) (by omega) (fun j hj => by
      have := h1 (j + 1) (by omega)
      rw [show s + 1 + j = s + (j + 1) by omega]
      exact this) (fun hk => by
      have := h2 (by omega)
      rw [show s + 1 + k = s + (k + 1) by omega]
      exact this)]
section TOKS
variable {V : Nat → Nat} {L s : Nat} {bs U : List Nat}
theorem st_app (H : St V L s (bs ++ U)) : St V L (s + bs.length) U ∧ ∀ k, k < bs.length → V (s + k) = bs.getD k 0 := by
  obtain ⟨h1, h2⟩ := H
  rw [List.length_append] at h1 h2
  refine ⟨⟨by omega, fun k hk => ?_⟩, fun k hk => ?_⟩
  · have := h2 (bs.length + k) (by omega)
    rw [getD_app2] at this
    rw [Nat.add_assoc]
    exact this
  · have := h2 k (by omega)
    rw [getD_app1 hk] at this
    exact this
theorem st_0 (H : St V L s U) (hU : U ≠ []) : s < L ∧ V s = U.getD 0 0 := by
  have h0 : 0 < U.length := List.length_pos_iff.mpr hU
  have := H.2 0 h0
  have h1 := H.1
  exact ⟨by omega, by rw [← this, Nat.add_zero]⟩
theorem st_e (H : St V L s []) : s = L := H.1
/-- no blank: a token begins here -/
theorem ts_nb (H : St V L s U) (n : nb U) : tS V L s = s := by
  unfold tS
  rw [rl_is 0 L s (Nat.zero_le _) (fun j hj => absurd hj (Nat.not_lt_zero j)) (fun _ => by
    unfold isBl
    refine decide_eq_false ?_
    rw [Nat.add_zero]
    rintro ⟨h1, h2⟩
    rcases n with rfl | ⟨n1, n2⟩
    · have := st_e H
      omega
    · by_cases hU : U = []
      · rw [hU] at H
        have := st_e H
        omega
      · have := (st_0 H hU).2
        rw [this] at h2
        omega)]
  exact Nat.add_zero s
theorem ts_bl (H : St V L s (32 :: U)) (n : nb U) : tS V L s = s + 1 ∧ St V L (s + 1) U := by
  have H' : St V L s ([32] ++ U) := H
  obtain ⟨h1, h2⟩ := st_app H'
  refine ⟨?_, h1⟩
  have v0 := h2 0 (by decide)
  rw [Nat.add_zero] at v0
  have hl := H.1
  rw [List.length_cons] at hl
  unfold tS
  rw [rl_is 1 L s (by omega) (fun j hj => by
    have : j = 0 := by omega
    subst this
    unfold isBl
    refine decide_eq_true ⟨by omega, Or.inl ?_⟩
    rw [Nat.add_zero, v0]
    rfl) (fun _ => by
    have := ts_nb h1 n
    unfold isBl
    refine decide_eq_false ?_
    rintro ⟨g1, g2⟩
    rcases n with rfl | ⟨n1, n2⟩
    · have := st_e h1
      simp only [List.length_cons, List.length_nil] at this
      omega
    · by_cases hU : U = []
      · rw [hU] at h1
        have := st_e h1
        simp only [List.length_cons, List.length_nil] at this
        omega
      · have := (st_0 h1 hU).2
        simp only [List.length_cons, List.length_nil] at this
        rw [this] at g2
        omega)]
/-- a word -/
theorem t_word (H : St V L s (bs ++ U)) (h1 : 1 ≤ bs.length) (h8 : bs.length ≤ 8) (ha : ∀ k, k < bs.length → 97 ≤ bs.getD k 0 ∧ bs.getD k 0 ≤ 122) (n : nlh U) : tK V L s = 1 ∧ wN V s (nLt V L s) = wv bs bs.length ∧ tE V L s = s + bs.length ∧ St V L (s + bs.length) U := by
  obtain ⟨hU, hv⟩ := st_app H
  have hl := H.1
  rw [List.length_append] at hl
  have lt : ∀ k, k < bs.length → isLt V L (s + k) = true := fun k hk => by
    unfold isLt
    refine decide_eq_true ?_
    rw [hv k hk]
    exact ⟨by omega, ha k hk⟩
  have stop : isLt V L (s + bs.length) = false := by
    unfold isLt
    refine decide_eq_false ?_
    rintro ⟨g1, g2⟩
    by_cases hU0 : U = []
    · rw [hU0] at hU
      have := st_e hU
      omega
    · rw [(st_0 hU hU0).2] at g2
      rcases n with n | n
      · exact hU0 n
      · exact n g2
  have nl : nLt V L s = bs.length := rl_is _ _ _ (by omega) lt (fun _ => stop)
  have l0 := lt 0 h1
  rw [Nat.add_zero] at l0
  have key : ∀ j, j ≤ bs.length → wN V s j = wv bs j := by
    intro j
    induction j with
    | zero => intro _; rfl
    | succ j ih =>
      intro hj
      show wN V s j * 32 + (V (s + j) - 96) = wv bs j * 32 + (bs.getD j 0 - 96)
      rw [ih (by omega), hv j (by omega)]
  refine ⟨?_, ?_, ?_, hU⟩
  · unfold tK
    rw [if_neg (by omega), if_pos l0, nl, if_pos h8]
  · rw [nl]
    exact key _ (Nat.le_refl _)
  · unfold tE
    rw [if_neg (by omega), if_pos l0, nl]
/-- a number -/
theorem t_num (H : St V L s (bs ++ U)) (h1 : 1 ≤ bs.length) (h4 : bs.length ≤ 4) (ha : ∀ k, k < bs.length → 48 ≤ bs.getD k 0 ∧ bs.getD k 0 ≤ 57) (n : nlh U) (nd : ndg U) : tK V L s = 2 ∧ dN V s (nDg V L s) = dv bs bs.length ∧ tE V L s = s + bs.length ∧ St V L (s + bs.length) U := by
  obtain ⟨hU, hv⟩ := st_app H
  have hl := H.1
  rw [List.length_append] at hl
  have dgt : ∀ k, k < bs.length → isDg V L (s + k) = true := fun k hk => by
    unfold isDg
    refine decide_eq_true ?_
    rw [hv k hk]
    exact ⟨by omega, ha k hk⟩
  have stop : isDg V L (s + bs.length) = false := by
    unfold isDg
    refine decide_eq_false ?_
    rintro ⟨g1, g2⟩
    by_cases hU0 : U = []
    · rw [hU0] at hU
      have := st_e hU
      omega
    · rw [(st_0 hU hU0).2] at g2
      rcases nd with n | n
      · exact hU0 n
      · exact n g2
  have stop2 : isLt V L (s + bs.length) = false := by
    unfold isLt
    refine decide_eq_false ?_
    rintro ⟨g1, g2⟩
    by_cases hU0 : U = []
    · rw [hU0] at hU
      have := st_e hU
      omega
    · rw [(st_0 hU hU0).2] at g2
      rcases n with n | n
      · exact hU0 n
      · exact n g2
  have nd' : nDg V L s = bs.length := rl_is _ _ _ (by omega) dgt (fun _ => stop)
  have d0 := dgt 0 h1
  rw [Nat.add_zero] at d0
  have l0 : isLt V L s = false := by
    unfold isLt
    refine decide_eq_false ?_
    have h0 := hv 0 h1
    have h00 := ha 0 h1
    rw [Nat.add_zero] at h0
    rw [h0]
    omega
  have key : ∀ j, j ≤ bs.length → dN V s j = dv bs j := by
    intro j
    induction j with
    | zero => intro _; rfl
    | succ j ih =>
      intro hj
      show dN V s j * 10 + (V (s + j) - 48) = dv bs j * 10 + (bs.getD j 0 - 48)
      rw [ih (by omega), hv j (by omega)]
  refine ⟨?_, ?_, ?_, hU⟩
  · unfold tK
    rw [if_neg (by omega), if_neg (by rw [l0]; decide), if_pos d0, nd', if_pos h4, if_neg (by rw [stop2]; decide)]
  · rw [nd']
    exact key _ (Nat.le_refl _)
  · unfold tE
    rw [if_neg (by omega), if_neg (by rw [l0]; decide), if_pos d0, nd']
/-- a sign -/
theorem t_sign {c : Nat} (H : St V L s (c :: U)) (hc : isSg c = true) (c1 : ¬ (97 ≤ c ∧ c ≤ 122)) (c2 : ¬ (48 ≤ c ∧ c ≤ 57)) : tK V L s = 3 ∧ V s = c ∧ tE V L s = s + 1 ∧ St V L (s + 1) U := by
  have H' : St V L s ([c] ++ U) := H
  obtain ⟨hU, _⟩ := st_app H'
  obtain ⟨h1, h2⟩ := st_0 H (by simp)
  have h2' : V s = c := h2
  have l0 : isLt V L s = false := by
    unfold isLt
    refine decide_eq_false ?_
    rw [h2']
    omega
  have d0 : isDg V L s = false := by
    unfold isDg
    refine decide_eq_false ?_
    rw [h2']
    omega
  refine ⟨?_, h2', ?_, hU⟩
  · unfold tK
    rw [if_neg (by omega), if_neg (by rw [l0]; decide), if_neg (by rw [d0]; decide), if_pos (by rw [h2']; exact hc)]
  · unfold tE
    rw [if_neg (by omega), if_neg (by rw [l0]; decide), if_neg (by rw [d0]; decide)]
theorem t_end (H : St V L s []) : tK V L s = 0 := by
  have := st_e H
  unfold tK
  rw [if_pos (by omega)]
theorem isW_is {w i : Nat} (h1 : tK V L s = 1) (h2 : wN V s (nLt V L s) = w) : isW V L s i = decide (nL w = txW i) := by
  unfold isW
  rw [h1, h2]
  simp
theorem isW_no {i : Nat} (h1 : tK V L s ≠ 1) : isW V L s i = false := decide_eq_false (fun e => h1 e.1)
theorem isN_is {w : Nat} (h1 : tK V L s = 1) (h2 : wN V s (nLt V L s) = w) : isN V L s = decide (own (nL w) = false) := by
  unfold isN
  rw [h1, h2]
  simp
theorem isN_no (h1 : tK V L s ≠ 1) : isN V L s = false := decide_eq_false (fun e => h1 e.1)
theorem isG_no {c : Nat} (h1 : tK V L s ≠ 3) : isG V L s c = false := decide_eq_false (fun e => h1 e.1)
theorem isG_is {c x : Nat} (h1 : tK V L s = 3) (h2 : V s = x) : isG V L s c = decide (x = c) := by
  unfold isG
  rw [h1, h2]
  simp
/-- the law's own words, each with a blank -/
def kb (i : Nat) : List Nat := (tb i).dropLast
def kwI (i : Nat) : Bool := decide (i ∈ [27, 28, 29, 31, 32, 33, 34, 35, 37, 38, 39, 43, 44, 45])
theorem kw_ok : ∀ i, i < 46 → kwI i = true → tb i = kb i ++ [32] ∧ 1 ≤ (kb i).length ∧ (kb i).length ≤ 8 ∧ ∀ k, k < (kb i).length → 97 ≤ (kb i).getD k 0 ∧ (kb i).getD k 0 ≤ 122 := by decide +kernel
theorem nlh_32 : nlh (32 :: U) := Or.inr (by show ¬ (97 ≤ 32 ∧ 32 ≤ 122); omega)
theorem ndg_32 : ndg (32 :: U) := Or.inr (by show ¬ (48 ≤ 32 ∧ 32 ≤ 57); omega)
def kwv (i : Nat) : Nat := wv (kb i) (kb i).length
theorem t_kw {i : Nat} (hi : i < 46) (hk : kwI i = true) (H : St V L s (tb i ++ U)) (n : nb U) : tK V L s = 1 ∧ wN V s (nLt V L s) = kwv i ∧ St V L (nx V L s) U := by
  obtain ⟨k1, k2, k3, k4⟩ := kw_ok i hi hk
  rw [k1, List.append_assoc] at H
  obtain ⟨a, b, c, e⟩ := t_word H k2 k3 k4 nlh_32
  obtain ⟨f, g⟩ := ts_bl e n
  refine ⟨a, b, ?_⟩
  unfold nx
  rw [c, f]
  exact g
theorem t_nm {k : Nat} (hk : k < 5) (H : St V L s ([97 + k, 32] ++ U)) (n : nb U) : tK V L s = 1 ∧ wN V s (nLt V L s) = 1 + k ∧ St V L (nx V L s) U := by
  have H' : St V L s ([97 + k] ++ (32 :: U)) := H
  obtain ⟨a, b, c, e⟩ := t_word H' (show 1 ≤ 1 by decide) (show 1 ≤ 8 by decide) (fun j hj => by
    have : j = 0 := by simpa using hj
    subst this
    show 97 ≤ 97 + k ∧ 97 + k ≤ 122
    omega) nlh_32
  obtain ⟨f, g⟩ := ts_bl e n
  refine ⟨a, ?_, ?_⟩
  · rw [b]
    show 0 * 32 + (97 + k - 96) = 1 + k
    omega
  · unfold nx
    rw [c, f]
    exact g
theorem dg_ok {v : Nat} (hv : v < 1000) : 1 ≤ (dg v).length ∧ (dg v).length ≤ 4 ∧ (∀ k, k < (dg v).length → 48 ≤ (dg v).getD k 0 ∧ (dg v).getD k 0 ≤ 57) ∧ dv (dg v) (dg v).length = v := by
  have : ∀ v, v < 1000 → 1 ≤ (dg v).length ∧ (dg v).length ≤ 4 ∧ (∀ k, k < (dg v).length → 48 ≤ (dg v).getD k 0 ∧ (dg v).getD k 0 ≤ 57) ∧ dv (dg v) (dg v).length = v := by decide +kernel
  exact this v hv
theorem t_dg {v : Nat} (hv : v < 1000) (H : St V L s (dg v ++ ([32] ++ U))) (n : nb U) : tK V L s = 2 ∧ dN V s (nDg V L s) = v ∧ St V L (nx V L s) U := by
  obtain ⟨d1, d2, d3, d4⟩ := dg_ok hv
  obtain ⟨a, b, c, e⟩ := t_num H d1 d2 d3 nlh_32 ndg_32
  obtain ⟨f, g⟩ := ts_bl e n
  refine ⟨a, b.trans d4, ?_⟩
  unfold nx
  rw [c, f]
  exact g
theorem tb_30 : tb 30 = [59] := by decide +kernel
theorem t_sc (H : St V L s (tb 30 ++ U)) (n : nb U) : tK V L s = 3 ∧ V s = 59 ∧ St V L (nx V L s) U := by
  rw [tb_30] at H
  obtain ⟨a, b, c, e⟩ := t_sign (c := 59) H (by decide +kernel) (by decide) (by decide)
  refine ⟨a, b, ?_⟩
  unfold nx
  rw [c, ts_nb e n]
  exact e
theorem nb_tb {i : Nat} (hi : i < 46) (h2 : 27 ≤ i) : nb (tb i ++ U) := by
  have : ∀ i, i < 46 → 27 ≤ i → (tb i).length ≠ 0 ∧ (tb i).getD 0 0 ≠ 32 ∧ (tb i).getD 0 0 ≠ 10 := by decide +kernel
  obtain ⟨a, b, c⟩ := this i hi h2
  right
  rw [getD_app1 (by omega)]
  exact ⟨b, c⟩
theorem nb_dg {v : Nat} (hv : v < 1000) : nb (dg v ++ ([32] ++ U)) := by
  obtain ⟨a, b, c, e⟩ := dg_ok hv
  right
  rw [getD_app1 (by omega)]
  have := c 0 (by omega)
  omega
theorem nb_nm {k : Nat} : nb ([97 + k, 32] ++ U) := by
  right
  show 97 + k ≠ 32 ∧ 97 + k ≠ 10
  omega
end TOKS
