/-! WHAT THE LAW WROTE, READ AGAIN: the three rules -/
section RULES
variable {V : Nat → Nat} {L s : Nat} {τ : CT} { U R bs : List Nat}
theorem tk_w0 (H : St V L s (bs ++ R)) (h1 : 1 ≤ bs.length) (h8 : bs.length ≤ 8) (ha : ∀ k, k < bs.length → 97 ≤ bs.getD k 0 ∧ bs.getD k 0 ≤ 122) (n : nlh R) (m : nb R) : tK V L s = 1 ∧ wN V s (nLt V L s) = wv bs bs.length ∧ St V L (nx V L s) R := by
  obtain ⟨a, b, c, e⟩ := t_word H h1 h8 ha n
  refine ⟨a, b, ?_⟩
  unfold nx
  rw [c, ts_nb e m]
  exact e
theorem tk_w1 (H : St V L s (bs ++ (32 :: R))) (h1 : 1 ≤ bs.length) (h8 : bs.length ≤ 8) (ha : ∀ k, k < bs.length → 97 ≤ bs.getD k 0 ∧ bs.getD k 0 ≤ 122) (m : nb R) : tK V L s = 1 ∧ wN V s (nLt V L s) = wv bs bs.length ∧ St V L (nx V L s) R := by
  obtain ⟨a, b, c, e⟩ := t_word H h1 h8 ha nlh_32
  obtain ⟨f, g⟩ := ts_bl e m
  refine ⟨a, b, ?_⟩
  unfold nx
  rw [c, f]
  exact g
theorem tk_n0 {v : Nat} (H : St V L s ([48 + v] ++ R)) (hv : v < 10) (n : nlh R) (nd : ndg R) (m : nb R) : tK V L s = 2 ∧ dN V s (nDg V L s) = v ∧ St V L (nx V L s) R := by
  obtain ⟨a, b, c, e⟩ := t_num H (show 1 ≤ 1 by decide) (show 1 ≤ 4 by decide) (fun j hj => by
    have : j = 0 := by simpa using hj
    subst this
    show 48 ≤ 48 + v ∧ 48 + v ≤ 57
    omega) n nd
  refine ⟨a, ?_, ?_⟩
  · rw [b]
    show 0 * 10 + (48 + v - 48) = v
    omega
  · unfold nx
    rw [c, ts_nb e m]
    exact e
theorem tk_n1 {v : Nat} (H : St V L s ([48 + v] ++ (32 :: R))) (hv : v < 10) (m : nb R) : tK V L s = 2 ∧ dN V s (nDg V L s) = v ∧ St V L (nx V L s) R := by
  obtain ⟨a, b, c, e⟩ := t_num H (show 1 ≤ 1 by decide) (show 1 ≤ 4 by decide) (fun j hj => by
    have : j = 0 := by simpa using hj
    subst this
    show 48 ≤ 48 + v ∧ 48 + v ≤ 57
    omega) nlh_32 ndg_32
  obtain ⟨f, g⟩ := ts_bl e m
  refine ⟨a, ?_, ?_⟩
  · rw [b]
    show 0 * 10 + (48 + v - 48) = v
    omega
  · unfold nx
    rw [c, f]
    exact g
theorem tk_s0 {c : Nat} (H : St V L s (c :: R)) (hc : isSg c = true) (c1 : ¬ (97 ≤ c ∧ c ≤ 122)) (c2 : ¬ (48 ≤ c ∧ c ≤ 57)) (m : nb R) : tK V L s = 3 ∧ V s = c ∧ St V L (nx V L s) R := by
  obtain ⟨a, b, e, f⟩ := t_sign H hc c1 c2
  refine ⟨a, b, ?_⟩
  unfold nx
  rw [e, ts_nb f m]
  exact f
theorem tk_s1 {c : Nat} (H : St V L s (c :: 32 :: R)) (hc : isSg c = true) (c1 : ¬ (97 ≤ c ∧ c ≤ 122)) (c2 : ¬ (48 ≤ c ∧ c ≤ 57)) (m : nb R) : tK V L s = 3 ∧ V s = c ∧ St V L (nx V L s) R := by
  obtain ⟨a, b, e, f⟩ := t_sign H hc c1 c2
  obtain ⟨g, i⟩ := ts_bl f m
  refine ⟨a, b, ?_⟩
  unfold nx
  rw [e, g]
  exact i
theorem nbc {c : Nat} (h : c ≠ 32 ∧ c ≠ 10) : nb (c :: R) := Or.inr h
theorem nlc {c : Nat} (h : ¬ (97 ≤ c ∧ c ≤ 122)) : nlh (c :: R) := Or.inr h
theorem ndc {c : Nat} (h : ¬ (48 ≤ c ∧ c ≤ 57)) : ndg (c :: R) := Or.inr h
def opWd (w l : Nat) : Nat := if l = 0 then (if nL w = txW 19 then 124 else 0) else if l = 1 then (if nL w = txW 20 then 38 else 0) else 0
def kuWd (w : Nat) : Nat := if nL w = txW 7 then 108 else if nL w = txW 8 then 100 else if nL w = txW 9 then 111 else if nL w = txW 15 then 103 else if nL w = txW 16 then 121 else if nL w = txW 17 then 115 else 0
def opSg (c l : Nat) : Nat := if l = 2 then (if nI c ∈ m_tx 21 then c else 0) else if l = 3 then (if nI c ∈ m_tx 22 then c else 0) else if l = 4 then (if nI c ∈ m_tx 23 then c else 0) else 0
theorem ku_w {w : Nat} (h1 : tK V L s = 1) (h2 : wN V s (nLt V L s) = w) : kuC V L s = kuWd w := by
  unfold kuC kuWd
  simp only [isW_is h1 h2, decide_eq_true_eq]
theorem ku_o (h1 : tK V L s ≠ 1) : kuC V L s = 0 := by
  unfold kuC
  simp only [isW_no h1, Bool.false_eq_true, if_false]
theorem op_w {w l : Nat} (h1 : tK V L s = 1) (h2 : wN V s (nLt V L s) = w) : opC V L s l = opWd w l := by
  have n3 : ∀ i, opS V L s i = 0 := fun i => if_neg (fun e => by rw [h1] at e; exact absurd e.1 (by decide))
  unfold opC opWd
  simp only [isW_is h1 h2, decide_eq_true_eq, n3, ite_self]
theorem op_n {l : Nat} (h1 : tK V L s = 2) : opC V L s l = 0 := by
  have n3 : ∀ i, opS V L s i = 0 := fun i => if_neg (fun e => by rw [h1] at e; exact absurd e.1 (by decide))
  unfold opC
  simp only [isW_no (show tK V L s ≠ 1 by rw [h1]; decide), n3, ite_self, Bool.false_eq_true, if_false]
theorem opl_s {c l : Nat} (h1 : tK V L s = 3) (h2 : V s = c) : opC V L s l = opSg c l := by
  unfold opC opSg opS
  simp only [isW_no (show tK V L s ≠ 1 by rw [h1]; decide), h1, h2, true_and, Bool.false_eq_true, if_false, ite_self]
  by_cases a0 : l = 0
  · subst a0
    rfl
  · by_cases a1 : l = 1
    · subst a1
      rfl
    · rw [if_neg a0, if_neg a1]
theorem lv_up {f l w : Nat} {S S' : SF} (hl : l < 5 ∧ l ≠ 2) (hA : lev V L f (l + 1) w S = .inr S') (h0 : opC V L S'.1 l = 0) : lev V L (f + 1) l w S = .inr S' := by
  show (if 5 ≤ l then un (lev V L f) V L w S else if l = 2 ∧ isW V L S.1 18 = true then (if 6 < w then rfS V L 2 S else adR 126 0 (lev V L f 2 (w + 1) (avS V L S))) else lo (lev V L f) V L l w (if l = 2 then 1 else 30) (lev V L f (l + 1) w S)) = _
  rw [if_neg (by omega), if_neg (fun e => hl.2 e.1), if_neg hl.2, hA]
  show (if opC V L S'.1 l = 0 then (.inr S' : RF) else _) = _
  rw [if_pos h0]
theorem lv_up2 {f w : Nat} {S S' : SF} (n : isW V L S.1 18 = false) (hA : lev V L f 3 w S = .inr S') (h0 : opC V L S'.1 2 = 0) : lev V L (f + 1) 2 w S = .inr S' := by
  show (if 5 ≤ 2 then un (lev V L f) V L w S else if 2 = 2 ∧ isW V L S.1 18 = true then (if 6 < w then rfS V L 2 S else adR 126 0 (lev V L f 2 (w + 1) (avS V L S))) else lo (lev V L f) V L 2 w (if 2 = 2 then 1 else 30) (lev V L f (2 + 1) w S)) = _
  rw [if_neg (by omega), if_neg (fun e => by rw [n] at e; exact absurd e.2 (by decide)), if_pos rfl, hA]
  show (if opC V L S'.1 2 = 0 then (.inr S' : RF) else _) = _
  rw [if_pos h0]
theorem lv_bin {f l w c : Nat} {S S1 S2 : SF} (hl : l < 5 ∧ l ≠ 2) (hA : lev V L f (l + 1) w S = .inr S1) (h1 : opC V L S1.1 l = c) (hc : c ≠ 0) (hB : lev V L f (l + 1) w (avS V L S1) = .inr S2) (h2 : opC V L (adS c 0 S2).1 l = 0) : lev V L (f + 1) l w S = .inr (adS c 0 S2) := by
  show (if 5 ≤ l then un (lev V L f) V L w S else if l = 2 ∧ isW V L S.1 18 = true then (if 6 < w then rfS V L 2 S else adR 126 0 (lev V L f 2 (w + 1) (avS V L S))) else lo (lev V L f) V L l w (if l = 2 then 1 else 30) (lev V L f (l + 1) w S)) = _
  rw [if_neg (by omega), if_neg (fun e => hl.2 e.1), if_neg hl.2, hA]
  show (if opC V L S1.1 l = 0 then .inr S1 else lo (lev V L f) V L l w 29 (adR (opC V L S1.1 l) 0 (lev V L f (l + 1) w (avS V L S1)))) = _
  rw [h1, if_neg hc, hB]
  show (if opC V L (adS c 0 S2).1 l = 0 then (.inr (adS c 0 S2) : RF) else _) = _
  rw [if_pos h2]
theorem lv_bin2 {f w c : Nat} {S S1 S2 : SF} (n : isW V L S.1 18 = false) (hA : lev V L f 3 w S = .inr S1) (h1 : opC V L S1.1 2 = c) (hc : c ≠ 0) (hB : lev V L f 3 w (avS V L S1) = .inr S2) : lev V L (f + 1) 2 w S = .inr (adS c 0 S2) := by
  show (if 5 ≤ 2 then un (lev V L f) V L w S else if 2 = 2 ∧ isW V L S.1 18 = true then (if 6 < w then rfS V L 2 S else adR 126 0 (lev V L f 2 (w + 1) (avS V L S))) else lo (lev V L f) V L 2 w (if 2 = 2 then 1 else 30) (lev V L f (2 + 1) w S)) = _
  rw [if_neg (by omega), if_neg (fun e => by rw [n] at e; exact absurd e.2 (by decide)), if_pos rfl, hA]
  show (if opC V L S1.1 2 = 0 then .inr S1 else lo (lev V L f) V L 2 w 0 (adR (opC V L S1.1 2) 0 (lev V L f 3 w (avS V L S1)))) = _
  rw [h1, if_neg hc, hB]
  rfl
theorem lv_not {f w : Nat} {S S' : SF} (n : isW V L S.1 18 = true) (hw : w ≤ 6) (hA : lev V L f 2 (w + 1) (avS V L S) = .inr S') : lev V L (f + 1) 2 w S = .inr (adS 126 0 S') := by
  show (if 5 ≤ 2 then un (lev V L f) V L w S else if 2 = 2 ∧ isW V L S.1 18 = true then (if 6 < w then rfS V L 2 S else adR 126 0 (lev V L f 2 (w + 1) (avS V L S))) else lo (lev V L f) V L 2 w (if 2 = 2 then 1 else 30) (lev V L f (2 + 1) w S)) = _
  rw [if_neg (by omega), if_pos ⟨rfl, n⟩, if_neg (by omega), hA]
  rfl
theorem lv_w {f w k : Nat} {S : SF} (h : kuC V L S.1 = k) (hk : k ≠ 0) (g : isG V L S.1 40 = false) (hu : S.2.1 < 30) : lev V L (f + 1) 5 w S = .inr (avS V L (adS k 0 (upU S))) := by
  show (if 5 ≤ 5 then un (lev V L f) V L w S else _) = _
  rw [if_pos (Nat.le_refl 5)]
  unfold un unB unS
  rw [g, h, if_neg (by simp; omega), if_neg (by decide), if_neg hk, if_neg hk]
theorem lv_n {f w v : Nat} {S : SF} (h : kuC V L S.1 = 0) (t : tK V L S.1 = 2) (e : dN V S.1 (nDg V L S.1) = v) (g : isG V L S.1 40 = false) (hu : S.2.1 < 30) : lev V L (f + 1) 5 w S = .inr (avS V L (adS 110 v (upU S))) := by
  show (if 5 ≤ 5 then un (lev V L f) V L w S else _) = _
  rw [if_pos (Nat.le_refl 5)]
  unfold un unB unS
  rw [g, h, t, e, if_neg (by simp; omega), if_neg (by decide), if_pos rfl, if_pos rfl]
theorem lv_p {f w : Nat} {S S' : SF} (g : isG V L S.1 40 = true) (hw : w ≤ 6) (hu : S.2.1 < 30) (hA : lev V L f 0 (w + 1) (avS V L (upU S)) = .inr S') (g2 : isG V L S'.1 41 = true) : lev V L (f + 1) 5 w S = .inr (avS V L S') := by
  show (if 5 ≤ 5 then un (lev V L f) V L w S else _) = _
  rw [if_pos (Nat.le_refl 5)]
  unfold un unB
  rw [g, if_neg (by simp; omega), if_pos rfl, hA]
  show (if isG V L S'.1 41 = true then .inr (avS V L S') else rfS V L 2 S') = _
  rw [if_pos g2]
theorem tx_40 : tb 40 = [98, 97, 99, 107, 32, 108, 111, 97, 118, 101, 115, 61, 48, 32, 111, 114, 32, 100, 97, 121, 115, 62, 111, 116, 104, 101, 114, 115, 43, 51, 59] := by decide +kernel
theorem p_rule1 (H : St V L s (tb 40 ++ U)) (n : nb U) (h0 : τ 0 7 = 0) : tK V L s ≠ 0 ∧ ∃ s' S, exL V L 59 (liX V L s τ) = .inr (s', upB τ S) ∧ St V L s' U ∧ S.2.1 = 9 ∧ ∀ i, i < 9 → S.2.2 i = [(108, 0), (110, 0), (61, 0), (121, 0), (111, 0), (110, 3), (43, 0), (62, 0), (124, 0)].getD i (0, 0) := by
  rw [tx_40] at H
  have G0 : St V L s ([98, 97, 99, 107] ++ (32 :: ([108, 111, 97, 118, 101, 115, 61, 48, 32, 111, 114, 32, 100, 97, 121, 115, 62, 111, 116, 104, 101, 114, 115, 43, 51, 59] ++ U))) := H
  obtain ⟨K0, W0, H1⟩ := tk_w1 G0 (by decide) (by decide) (by decide) (nbc (by decide))
  have k0 : kuC V L s = 0 := (ku_w K0 W0).trans (by decide +kernel)
  have g0 : isG V L s 40 = false := isG_no (by rw [K0]; decide)
  have n0 : isW V L s 18 = false := (isW_is K0 W0).trans (by decide +kernel)
  have o0_0 : opC V L s 0 = 0 := (op_w K0 W0).trans (by decide +kernel)
  have o0_1 : opC V L s 1 = 0 := (op_w K0 W0).trans (by decide +kernel)
  have o0_2 : opC V L s 2 = 0 := (op_w K0 W0).trans (by decide +kernel)
  have o0_3 : opC V L s 3 = 0 := (op_w K0 W0).trans (by decide +kernel)
  have o0_4 : opC V L s 4 = 0 := (op_w K0 W0).trans (by decide +kernel)
  have G1 : St V L (nx V L s) ([108, 111, 97, 118, 101, 115] ++ ([61, 48, 32, 111, 114, 32, 100, 97, 121, 115, 62, 111, 116, 104, 101, 114, 115, 43, 51, 59] ++ U)) := H1
  obtain ⟨K1, W1, H2⟩ := tk_w0 G1 (by decide) (by decide) (by decide) (nlc (by decide)) (nbc (by decide))
  have k1 : kuC V L (nx V L s) = 108 := (ku_w K1 W1).trans (by decide +kernel)
  have g1 : isG V L (nx V L s) 40 = false := isG_no (by rw [K1]; decide)
  have n1 : isW V L (nx V L s) 18 = false := (isW_is K1 W1).trans (by decide +kernel)
  have o1_0 : opC V L (nx V L s) 0 = 0 := (op_w K1 W1).trans (by decide +kernel)
  have o1_1 : opC V L (nx V L s) 1 = 0 := (op_w K1 W1).trans (by decide +kernel)
  have o1_2 : opC V L (nx V L s) 2 = 0 := (op_w K1 W1).trans (by decide +kernel)
  have o1_3 : opC V L (nx V L s) 3 = 0 := (op_w K1 W1).trans (by decide +kernel)
  have o1_4 : opC V L (nx V L s) 4 = 0 := (op_w K1 W1).trans (by decide +kernel)
  have G2 : St V L (nx V L (nx V L s)) (61 :: ([48, 32, 111, 114, 32, 100, 97, 121, 115, 62, 111, 116, 104, 101, 114, 115, 43, 51, 59] ++ U)) := H2
  obtain ⟨K2, W2, H3⟩ := tk_s0 G2 (by decide +kernel) (by decide) (by decide) (nbc (by decide))
  have k2 : kuC V L (nx V L (nx V L s)) = 0 := ku_o (by rw [K2]; decide)
  have g2 : isG V L (nx V L (nx V L s)) 40 = false := (isG_is K2 W2).trans (by decide)
  have e2 : isG V L (nx V L (nx V L s)) 41 = false := (isG_is K2 W2).trans (by decide)
  have n2 : isW V L (nx V L (nx V L s)) 18 = false := isW_no (by rw [K2]; decide)
  have o2_0 : opC V L (nx V L (nx V L s)) 0 = 0 := (opl_s K2 W2).trans (by decide +kernel)
  have o2_1 : opC V L (nx V L (nx V L s)) 1 = 0 := (opl_s K2 W2).trans (by decide +kernel)
  have o2_2 : opC V L (nx V L (nx V L s)) 2 = 61 := (opl_s K2 W2).trans (by decide +kernel)
  have o2_3 : opC V L (nx V L (nx V L s)) 3 = 0 := (opl_s K2 W2).trans (by decide +kernel)
  have o2_4 : opC V L (nx V L (nx V L s)) 4 = 0 := (opl_s K2 W2).trans (by decide +kernel)
  have G3 : St V L (nx V L (nx V L (nx V L s))) ([48 + 0] ++ (32 :: ([111, 114, 32, 100, 97, 121, 115, 62, 111, 116, 104, 101, 114, 115, 43, 51, 59] ++ U))) := H3
  obtain ⟨K3, W3, H4⟩ := tk_n1 G3 (by decide) (nbc (by decide))
  have k3 : kuC V L (nx V L (nx V L (nx V L s))) = 0 := ku_o (by rw [K3]; decide)
  have g3 : isG V L (nx V L (nx V L (nx V L s))) 40 = false := isG_no (by rw [K3]; decide)
  have n3 : isW V L (nx V L (nx V L (nx V L s))) 18 = false := isW_no (by rw [K3]; decide)
  have o3_0 : opC V L (nx V L (nx V L (nx V L s))) 0 = 0 := op_n K3
  have o3_1 : opC V L (nx V L (nx V L (nx V L s))) 1 = 0 := op_n K3
  have o3_2 : opC V L (nx V L (nx V L (nx V L s))) 2 = 0 := op_n K3
  have o3_3 : opC V L (nx V L (nx V L (nx V L s))) 3 = 0 := op_n K3
  have o3_4 : opC V L (nx V L (nx V L (nx V L s))) 4 = 0 := op_n K3
  have G4 : St V L (nx V L (nx V L (nx V L (nx V L s)))) ([111, 114] ++ (32 :: ([100, 97, 121, 115, 62, 111, 116, 104, 101, 114, 115, 43, 51, 59] ++ U))) := H4
  obtain ⟨K4, W4, H5⟩ := tk_w1 G4 (by decide) (by decide) (by decide) (nbc (by decide))
  have k4 : kuC V L (nx V L (nx V L (nx V L (nx V L s)))) = 0 := (ku_w K4 W4).trans (by decide +kernel)
  have g4 : isG V L (nx V L (nx V L (nx V L (nx V L s)))) 40 = false := isG_no (by rw [K4]; decide)
  have n4 : isW V L (nx V L (nx V L (nx V L (nx V L s)))) 18 = false := (isW_is K4 W4).trans (by decide +kernel)
  have o4_0 : opC V L (nx V L (nx V L (nx V L (nx V L s)))) 0 = 124 := (op_w K4 W4).trans (by decide +kernel)
  have o4_1 : opC V L (nx V L (nx V L (nx V L (nx V L s)))) 1 = 0 := (op_w K4 W4).trans (by decide +kernel)
  have o4_2 : opC V L (nx V L (nx V L (nx V L (nx V L s)))) 2 = 0 := (op_w K4 W4).trans (by decide +kernel)
  have o4_3 : opC V L (nx V L (nx V L (nx V L (nx V L s)))) 3 = 0 := (op_w K4 W4).trans (by decide +kernel)
  have o4_4 : opC V L (nx V L (nx V L (nx V L (nx V L s)))) 4 = 0 := (op_w K4 W4).trans (by decide +kernel)
  have G5 : St V L (nx V L (nx V L (nx V L (nx V L (nx V L s))))) ([100, 97, 121, 115] ++ ([62, 111, 116, 104, 101, 114, 115, 43, 51, 59] ++ U)) := H5
  obtain ⟨K5, W5, H6⟩ := tk_w0 G5 (by decide) (by decide) (by decide) (nlc (by decide)) (nbc (by decide))
  have k5 : kuC V L (nx V L (nx V L (nx V L (nx V L (nx V L s))))) = 121 := (ku_w K5 W5).trans (by decide +kernel)
  have g5 : isG V L (nx V L (nx V L (nx V L (nx V L (nx V L s))))) 40 = false := isG_no (by rw [K5]; decide)
  have n5 : isW V L (nx V L (nx V L (nx V L (nx V L (nx V L s))))) 18 = false := (isW_is K5 W5).trans (by decide +kernel)
  have o5_0 : opC V L (nx V L (nx V L (nx V L (nx V L (nx V L s))))) 0 = 0 := (op_w K5 W5).trans (by decide +kernel)
  have o5_1 : opC V L (nx V L (nx V L (nx V L (nx V L (nx V L s))))) 1 = 0 := (op_w K5 W5).trans (by decide +kernel)
  have o5_2 : opC V L (nx V L (nx V L (nx V L (nx V L (nx V L s))))) 2 = 0 := (op_w K5 W5).trans (by decide +kernel)
  have o5_3 : opC V L (nx V L (nx V L (nx V L (nx V L (nx V L s))))) 3 = 0 := (op_w K5 W5).trans (by decide +kernel)
  have o5_4 : opC V L (nx V L (nx V L (nx V L (nx V L (nx V L s))))) 4 = 0 := (op_w K5 W5).trans (by decide +kernel)
  have G6 : St V L (nx V L (nx V L (nx V L (nx V L (nx V L (nx V L s)))))) (62 :: ([111, 116, 104, 101, 114, 115, 43, 51, 59] ++ U)) := H6
  obtain ⟨K6, W6, H7⟩ := tk_s0 G6 (by decide +kernel) (by decide) (by decide) (nbc (by decide))
  have k6 : kuC V L (nx V L (nx V L (nx V L (nx V L (nx V L (nx V L s)))))) = 0 := ku_o (by rw [K6]; decide)
  have g6 : isG V L (nx V L (nx V L (nx V L (nx V L (nx V L (nx V L s)))))) 40 = false := (isG_is K6 W6).trans (by decide)
  have e6 : isG V L (nx V L (nx V L (nx V L (nx V L (nx V L (nx V L s)))))) 41 = false := (isG_is K6 W6).trans (by decide)
  have n6 : isW V L (nx V L (nx V L (nx V L (nx V L (nx V L (nx V L s)))))) 18 = false := isW_no (by rw [K6]; decide)
  have o6_0 : opC V L (nx V L (nx V L (nx V L (nx V L (nx V L (nx V L s)))))) 0 = 0 := (opl_s K6 W6).trans (by decide +kernel)
  have o6_1 : opC V L (nx V L (nx V L (nx V L (nx V L (nx V L (nx V L s)))))) 1 = 0 := (opl_s K6 W6).trans (by decide +kernel)
  have o6_2 : opC V L (nx V L (nx V L (nx V L (nx V L (nx V L (nx V L s)))))) 2 = 62 := (opl_s K6 W6).trans (by decide +kernel)
  have o6_3 : opC V L (nx V L (nx V L (nx V L (nx V L (nx V L (nx V L s)))))) 3 = 0 := (opl_s K6 W6).trans (by decide +kernel)
  have o6_4 : opC V L (nx V L (nx V L (nx V L (nx V L (nx V L (nx V L s)))))) 4 = 0 := (opl_s K6 W6).trans (by decide +kernel)
  have G7 : St V L (nx V L (nx V L (nx V L (nx V L (nx V L (nx V L (nx V L s))))))) ([111, 116, 104, 101, 114, 115] ++ ([43, 51, 59] ++ U)) := H7
  obtain ⟨K7, W7, H8⟩ := tk_w0 G7 (by decide) (by decide) (by decide) (nlc (by decide)) (nbc (by decide))
  have k7 : kuC V L (nx V L (nx V L (nx V L (nx V L (nx V L (nx V L (nx V L s))))))) = 111 := (ku_w K7 W7).trans (by decide +kernel)
  have g7 : isG V L (nx V L (nx V L (nx V L (nx V L (nx V L (nx V L (nx V L s))))))) 40 = false := isG_no (by rw [K7]; decide)
  have n7 : isW V L (nx V L (nx V L (nx V L (nx V L (nx V L (nx V L (nx V L s))))))) 18 = false := (isW_is K7 W7).trans (by decide +kernel)
  have o7_0 : opC V L (nx V L (nx V L (nx V L (nx V L (nx V L (nx V L (nx V L s))))))) 0 = 0 := (op_w K7 W7).trans (by decide +kernel)
  have o7_1 : opC V L (nx V L (nx V L (nx V L (nx V L (nx V L (nx V L (nx V L s))))))) 1 = 0 := (op_w K7 W7).trans (by decide +kernel)
  have o7_2 : opC V L (nx V L (nx V L (nx V L (nx V L (nx V L (nx V L (nx V L s))))))) 2 = 0 := (op_w K7 W7).trans (by decide +kernel)
  have o7_3 : opC V L (nx V L (nx V L (nx V L (nx V L (nx V L (nx V L (nx V L s))))))) 3 = 0 := (op_w K7 W7).trans (by decide +kernel)
  have o7_4 : opC V L (nx V L (nx V L (nx V L (nx V L (nx V L (nx V L (nx V L s))))))) 4 = 0 := (op_w K7 W7).trans (by decide +kernel)
  have G8 : St V L (nx V L (nx V L (nx V L (nx V L (nx V L (nx V L (nx V L (nx V L s)))))))) (43 :: ([51, 59] ++ U)) := H8
  obtain ⟨K8, W8, H9⟩ := tk_s0 G8 (by decide +kernel) (by decide) (by decide) (nbc (by decide))
  have k8 : kuC V L (nx V L (nx V L (nx V L (nx V L (nx V L (nx V L (nx V L (nx V L s)))))))) = 0 := ku_o (by rw [K8]; decide)
  have g8 : isG V L (nx V L (nx V L (nx V L (nx V L (nx V L (nx V L (nx V L (nx V L s)))))))) 40 = false := (isG_is K8 W8).trans (by decide)
  have e8 : isG V L (nx V L (nx V L (nx V L (nx V L (nx V L (nx V L (nx V L (nx V L s)))))))) 41 = false := (isG_is K8 W8).trans (by decide)
  have n8 : isW V L (nx V L (nx V L (nx V L (nx V L (nx V L (nx V L (nx V L (nx V L s)))))))) 18 = false := isW_no (by rw [K8]; decide)
  have o8_0 : opC V L (nx V L (nx V L (nx V L (nx V L (nx V L (nx V L (nx V L (nx V L s)))))))) 0 = 0 := (opl_s K8 W8).trans (by decide +kernel)
  have o8_1 : opC V L (nx V L (nx V L (nx V L (nx V L (nx V L (nx V L (nx V L (nx V L s)))))))) 1 = 0 := (opl_s K8 W8).trans (by decide +kernel)
  have o8_2 : opC V L (nx V L (nx V L (nx V L (nx V L (nx V L (nx V L (nx V L (nx V L s)))))))) 2 = 0 := (opl_s K8 W8).trans (by decide +kernel)
  have o8_3 : opC V L (nx V L (nx V L (nx V L (nx V L (nx V L (nx V L (nx V L (nx V L s)))))))) 3 = 43 := (opl_s K8 W8).trans (by decide +kernel)
  have o8_4 : opC V L (nx V L (nx V L (nx V L (nx V L (nx V L (nx V L (nx V L (nx V L s)))))))) 4 = 0 := (opl_s K8 W8).trans (by decide +kernel)
  have G9 : St V L (nx V L (nx V L (nx V L (nx V L (nx V L (nx V L (nx V L (nx V L (nx V L s))))))))) ([48 + 3] ++ ([59] ++ U)) := H9
  obtain ⟨K9, W9, H10⟩ := tk_n0 G9 (by decide) (nlc (by decide)) (ndc (by decide)) (nbc (by decide))
  have k9 : kuC V L (nx V L (nx V L (nx V L (nx V L (nx V L (nx V L (nx V L (nx V L (nx V L s))))))))) = 0 := ku_o (by rw [K9]; decide)
  have g9 : isG V L (nx V L (nx V L (nx V L (nx V L (nx V L (nx V L (nx V L (nx V L (nx V L s))))))))) 40 = false := isG_no (by rw [K9]; decide)
  have n9 : isW V L (nx V L (nx V L (nx V L (nx V L (nx V L (nx V L (nx V L (nx V L (nx V L s))))))))) 18 = false := isW_no (by rw [K9]; decide)
  have o9_0 : opC V L (nx V L (nx V L (nx V L (nx V L (nx V L (nx V L (nx V L (nx V L (nx V L s))))))))) 0 = 0 := op_n K9
  have o9_1 : opC V L (nx V L (nx V L (nx V L (nx V L (nx V L (nx V L (nx V L (nx V L (nx V L s))))))))) 1 = 0 := op_n K9
  have o9_2 : opC V L (nx V L (nx V L (nx V L (nx V L (nx V L (nx V L (nx V L (nx V L (nx V L s))))))))) 2 = 0 := op_n K9
  have o9_3 : opC V L (nx V L (nx V L (nx V L (nx V L (nx V L (nx V L (nx V L (nx V L (nx V L s))))))))) 3 = 0 := op_n K9
  have o9_4 : opC V L (nx V L (nx V L (nx V L (nx V L (nx V L (nx V L (nx V L (nx V L (nx V L s))))))))) 4 = 0 := op_n K9
  have HZ : St V L (nx V L (nx V L (nx V L (nx V L (nx V L (nx V L (nx V L (nx V L (nx V L (nx V L s)))))))))) (tb 30 ++ U) := by
    rw [tb_30]
    exact H10
  obtain ⟨KZ, WZ, _⟩ := t_sc HZ n
  have z_0 : opC V L (nx V L (nx V L (nx V L (nx V L (nx V L (nx V L (nx V L (nx V L (nx V L (nx V L s)))))))))) 0 = 0 := (opl_s KZ WZ).trans (by decide +kernel)
  have z_1 : opC V L (nx V L (nx V L (nx V L (nx V L (nx V L (nx V L (nx V L (nx V L (nx V L (nx V L s)))))))))) 1 = 0 := (opl_s KZ WZ).trans (by decide +kernel)
  have z_2 : opC V L (nx V L (nx V L (nx V L (nx V L (nx V L (nx V L (nx V L (nx V L (nx V L (nx V L s)))))))))) 2 = 0 := (opl_s KZ WZ).trans (by decide +kernel)
  have z_3 : opC V L (nx V L (nx V L (nx V L (nx V L (nx V L (nx V L (nx V L (nx V L (nx V L (nx V L s)))))))))) 3 = 0 := (opl_s KZ WZ).trans (by decide +kernel)
  have z_4 : opC V L (nx V L (nx V L (nx V L (nx V L (nx V L (nx V L (nx V L (nx V L (nx V L (nx V L s)))))))))) 4 = 0 := (opl_s KZ WZ).trans (by decide +kernel)
  have zn : isW V L (nx V L (nx V L (nx V L (nx V L (nx V L (nx V L (nx V L (nx V L (nx V L (nx V L s)))))))))) 18 = false := isW_no (by rw [KZ]; decide)
  have zg : isG V L (nx V L (nx V L (nx V L (nx V L (nx V L (nx V L (nx V L (nx V L (nx V L (nx V L s)))))))))) 41 = false := (isG_is KZ WZ).trans (by decide)
  refine ⟨by rw [K0]; decide, ?_⟩
  have x : ∀ j, nL (wv [98, 97, 99, 107] 4) ≠ txW j → ¬ isW V L s j = true := fun j hj => by
    rw [isW_is K0 W0, decide_eq_true_eq]
    exact hj
  have x14 : isW V L s 14 = true := (isW_is K0 W0).trans (by decide +kernel)
  unfold liX liB
  rw [if_neg (x 1 (by decide +kernel)), if_neg (x 5 (by decide +kernel)), if_neg (x 11 (by decide +kernel)), if_pos ⟨x14, h0⟩]
  have EE : ∃ S, lev V L 48 0 0 (nx V L s, 0, 0, fun _ => (0, 0)) = .inr S ∧ S.1 = (nx V L (nx V L (nx V L (nx V L (nx V L (nx V L (nx V L (nx V L (nx V L (nx V L s)))))))))) ∧ S.2.2.1 = 9 ∧ ∀ i, i < 9 → S.2.2.2 i = [(108, 0), (110, 0), (61, 0), (121, 0), (111, 0), (110, 3), (43, 0), (62, 0), (124, 0)].getD i (0, 0) := by
    refine ⟨_, (lv_bin (l := 0) (by decide) (lv_up (l := 1) (by decide) (lv_bin2 n1 (lv_up (l := 3) (by decide) (lv_up (l := 4) (by decide) (lv_w k1 (by decide) g1 (Nat.le_of_ble_eq_true rfl)) o2_4) o2_3) o2_2 (by decide) (lv_up (l := 3) (by decide) (lv_up (l := 4) (by decide) (lv_n k3 K3 W3 g3 (Nat.le_of_ble_eq_true rfl)) o4_4) o4_3)) o4_1) o4_0 (by decide) (lv_up (l := 1) (by decide) (lv_bin2 n5 (lv_up (l := 3) (by decide) (lv_up (l := 4) (by decide) (lv_w k5 (by decide) g5 (Nat.le_of_ble_eq_true rfl)) o6_4) o6_3) o6_2 (by decide) (lv_bin (l := 3) (by decide) (lv_up (l := 4) (by decide) (lv_w k7 (by decide) g7 (Nat.le_of_ble_eq_true rfl)) o8_4) o8_3 (by decide) (lv_up (l := 4) (by decide) (lv_n k9 K9 W9 g9 (Nat.le_of_ble_eq_true rfl)) z_4) z_3)) z_1) z_0), rfl, rfl, fun i hi => ?_⟩
    have : i = 0 ∨ i = 1 ∨ i = 2 ∨ i = 3 ∨ i = 4 ∨ i = 5 ∨ i = 6 ∨ i = 7 ∨ i = 8 := by omega
    rcases this with rfl | rfl | rfl | rfl | rfl | rfl | rfl | rfl | rfl <;> rfl
  obtain ⟨⟨p, S⟩, q1, q2, q3, q4⟩ := EE
  have q2' : p = (nx V L (nx V L (nx V L (nx V L (nx V L (nx V L (nx V L (nx V L (nx V L (nx V L s)))))))))) := q2
  subst q2'
  rw [q1]
  obtain ⟨q5, q6⟩ := p_semi (τ := upB τ S) HZ n
  exact ⟨_, S, q5, q6, q3, q4⟩
theorem tx_41 : tb 41 = [98, 97, 99, 107, 32, 103, 111, 110, 101, 60, 50, 45, 115, 104, 111, 114, 116, 59] := by decide +kernel
theorem p_rule2 (H : St V L s (tb 41 ++ U)) (n : nb U) (h0 : τ 0 7 = 0) : tK V L s ≠ 0 ∧ ∃ s' S, exL V L 59 (liX V L s τ) = .inr (s', upB τ S) ∧ St V L s' U ∧ S.2.1 = 5 ∧ ∀ i, i < 5 → S.2.2 i = [(103, 0), (110, 2), (115, 0), (45, 0), (60, 0)].getD i (0, 0) := by
  rw [tx_41] at H
  have G0 : St V L s ([98, 97, 99, 107] ++ (32 :: ([103, 111, 110, 101, 60, 50, 45, 115, 104, 111, 114, 116, 59] ++ U))) := H
  obtain ⟨K0, W0, H1⟩ := tk_w1 G0 (by decide) (by decide) (by decide) (nbc (by decide))
  have k0 : kuC V L s = 0 := (ku_w K0 W0).trans (by decide +kernel)
  have g0 : isG V L s 40 = false := isG_no (by rw [K0]; decide)
  have n0 : isW V L s 18 = false := (isW_is K0 W0).trans (by decide +kernel)
  have o0_0 : opC V L s 0 = 0 := (op_w K0 W0).trans (by decide +kernel)
  have o0_1 : opC V L s 1 = 0 := (op_w K0 W0).trans (by decide +kernel)
  have o0_2 : opC V L s 2 = 0 := (op_w K0 W0).trans (by decide +kernel)
  have o0_3 : opC V L s 3 = 0 := (op_w K0 W0).trans (by decide +kernel)
  have o0_4 : opC V L s 4 = 0 := (op_w K0 W0).trans (by decide +kernel)
  have G1 : St V L (nx V L s) ([103, 111, 110, 101] ++ ([60, 50, 45, 115, 104, 111, 114, 116, 59] ++ U)) := H1
  obtain ⟨K1, W1, H2⟩ := tk_w0 G1 (by decide) (by decide) (by decide) (nlc (by decide)) (nbc (by decide))
  have k1 : kuC V L (nx V L s) = 103 := (ku_w K1 W1).trans (by decide +kernel)
  have g1 : isG V L (nx V L s) 40 = false := isG_no (by rw [K1]; decide)
  have n1 : isW V L (nx V L s) 18 = false := (isW_is K1 W1).trans (by decide +kernel)
  have o1_0 : opC V L (nx V L s) 0 = 0 := (op_w K1 W1).trans (by decide +kernel)
  have o1_1 : opC V L (nx V L s) 1 = 0 := (op_w K1 W1).trans (by decide +kernel)
  have o1_2 : opC V L (nx V L s) 2 = 0 := (op_w K1 W1).trans (by decide +kernel)
  have o1_3 : opC V L (nx V L s) 3 = 0 := (op_w K1 W1).trans (by decide +kernel)
  have o1_4 : opC V L (nx V L s) 4 = 0 := (op_w K1 W1).trans (by decide +kernel)
  have G2 : St V L (nx V L (nx V L s)) (60 :: ([50, 45, 115, 104, 111, 114, 116, 59] ++ U)) := H2
  obtain ⟨K2, W2, H3⟩ := tk_s0 G2 (by decide +kernel) (by decide) (by decide) (nbc (by decide))
  have k2 : kuC V L (nx V L (nx V L s)) = 0 := ku_o (by rw [K2]; decide)
  have g2 : isG V L (nx V L (nx V L s)) 40 = false := (isG_is K2 W2).trans (by decide)
  have e2 : isG V L (nx V L (nx V L s)) 41 = false := (isG_is K2 W2).trans (by decide)
  have n2 : isW V L (nx V L (nx V L s)) 18 = false := isW_no (by rw [K2]; decide)
  have o2_0 : opC V L (nx V L (nx V L s)) 0 = 0 := (opl_s K2 W2).trans (by decide +kernel)
  have o2_1 : opC V L (nx V L (nx V L s)) 1 = 0 := (opl_s K2 W2).trans (by decide +kernel)
  have o2_2 : opC V L (nx V L (nx V L s)) 2 = 60 := (opl_s K2 W2).trans (by decide +kernel)
  have o2_3 : opC V L (nx V L (nx V L s)) 3 = 0 := (opl_s K2 W2).trans (by decide +kernel)
  have o2_4 : opC V L (nx V L (nx V L s)) 4 = 0 := (opl_s K2 W2).trans (by decide +kernel)
  have G3 : St V L (nx V L (nx V L (nx V L s))) ([48 + 2] ++ ([45, 115, 104, 111, 114, 116, 59] ++ U)) := H3
  obtain ⟨K3, W3, H4⟩ := tk_n0 G3 (by decide) (nlc (by decide)) (ndc (by decide)) (nbc (by decide))
  have k3 : kuC V L (nx V L (nx V L (nx V L s))) = 0 := ku_o (by rw [K3]; decide)
  have g3 : isG V L (nx V L (nx V L (nx V L s))) 40 = false := isG_no (by rw [K3]; decide)
  have n3 : isW V L (nx V L (nx V L (nx V L s))) 18 = false := isW_no (by rw [K3]; decide)
  have o3_0 : opC V L (nx V L (nx V L (nx V L s))) 0 = 0 := op_n K3
  have o3_1 : opC V L (nx V L (nx V L (nx V L s))) 1 = 0 := op_n K3
  have o3_2 : opC V L (nx V L (nx V L (nx V L s))) 2 = 0 := op_n K3
  have o3_3 : opC V L (nx V L (nx V L (nx V L s))) 3 = 0 := op_n K3
  have o3_4 : opC V L (nx V L (nx V L (nx V L s))) 4 = 0 := op_n K3
  have G4 : St V L (nx V L (nx V L (nx V L (nx V L s)))) (45 :: ([115, 104, 111, 114, 116, 59] ++ U)) := H4
  obtain ⟨K4, W4, H5⟩ := tk_s0 G4 (by decide +kernel) (by decide) (by decide) (nbc (by decide))
  have k4 : kuC V L (nx V L (nx V L (nx V L (nx V L s)))) = 0 := ku_o (by rw [K4]; decide)
  have g4 : isG V L (nx V L (nx V L (nx V L (nx V L s)))) 40 = false := (isG_is K4 W4).trans (by decide)
  have e4 : isG V L (nx V L (nx V L (nx V L (nx V L s)))) 41 = false := (isG_is K4 W4).trans (by decide)
  have n4 : isW V L (nx V L (nx V L (nx V L (nx V L s)))) 18 = false := isW_no (by rw [K4]; decide)
  have o4_0 : opC V L (nx V L (nx V L (nx V L (nx V L s)))) 0 = 0 := (opl_s K4 W4).trans (by decide +kernel)
  have o4_1 : opC V L (nx V L (nx V L (nx V L (nx V L s)))) 1 = 0 := (opl_s K4 W4).trans (by decide +kernel)
  have o4_2 : opC V L (nx V L (nx V L (nx V L (nx V L s)))) 2 = 0 := (opl_s K4 W4).trans (by decide +kernel)
  have o4_3 : opC V L (nx V L (nx V L (nx V L (nx V L s)))) 3 = 45 := (opl_s K4 W4).trans (by decide +kernel)
  have o4_4 : opC V L (nx V L (nx V L (nx V L (nx V L s)))) 4 = 0 := (opl_s K4 W4).trans (by decide +kernel)
  have G5 : St V L (nx V L (nx V L (nx V L (nx V L (nx V L s))))) ([115, 104, 111, 114, 116] ++ ([59] ++ U)) := H5
  obtain ⟨K5, W5, H6⟩ := tk_w0 G5 (by decide) (by decide) (by decide) (nlc (by decide)) (nbc (by decide))
  have k5 : kuC V L (nx V L (nx V L (nx V L (nx V L (nx V L s))))) = 115 := (ku_w K5 W5).trans (by decide +kernel)
  have g5 : isG V L (nx V L (nx V L (nx V L (nx V L (nx V L s))))) 40 = false := isG_no (by rw [K5]; decide)
  have n5 : isW V L (nx V L (nx V L (nx V L (nx V L (nx V L s))))) 18 = false := (isW_is K5 W5).trans (by decide +kernel)
  have o5_0 : opC V L (nx V L (nx V L (nx V L (nx V L (nx V L s))))) 0 = 0 := (op_w K5 W5).trans (by decide +kernel)
  have o5_1 : opC V L (nx V L (nx V L (nx V L (nx V L (nx V L s))))) 1 = 0 := (op_w K5 W5).trans (by decide +kernel)
  have o5_2 : opC V L (nx V L (nx V L (nx V L (nx V L (nx V L s))))) 2 = 0 := (op_w K5 W5).trans (by decide +kernel)
  have o5_3 : opC V L (nx V L (nx V L (nx V L (nx V L (nx V L s))))) 3 = 0 := (op_w K5 W5).trans (by decide +kernel)
  have o5_4 : opC V L (nx V L (nx V L (nx V L (nx V L (nx V L s))))) 4 = 0 := (op_w K5 W5).trans (by decide +kernel)
  have HZ : St V L (nx V L (nx V L (nx V L (nx V L (nx V L (nx V L s)))))) (tb 30 ++ U) := by
    rw [tb_30]
    exact H6
  obtain ⟨KZ, WZ, _⟩ := t_sc HZ n
  have z_0 : opC V L (nx V L (nx V L (nx V L (nx V L (nx V L (nx V L s)))))) 0 = 0 := (opl_s KZ WZ).trans (by decide +kernel)
  have z_1 : opC V L (nx V L (nx V L (nx V L (nx V L (nx V L (nx V L s)))))) 1 = 0 := (opl_s KZ WZ).trans (by decide +kernel)
  have z_2 : opC V L (nx V L (nx V L (nx V L (nx V L (nx V L (nx V L s)))))) 2 = 0 := (opl_s KZ WZ).trans (by decide +kernel)
  have z_3 : opC V L (nx V L (nx V L (nx V L (nx V L (nx V L (nx V L s)))))) 3 = 0 := (opl_s KZ WZ).trans (by decide +kernel)
  have z_4 : opC V L (nx V L (nx V L (nx V L (nx V L (nx V L (nx V L s)))))) 4 = 0 := (opl_s KZ WZ).trans (by decide +kernel)
  have zn : isW V L (nx V L (nx V L (nx V L (nx V L (nx V L (nx V L s)))))) 18 = false := isW_no (by rw [KZ]; decide)
  have zg : isG V L (nx V L (nx V L (nx V L (nx V L (nx V L (nx V L s)))))) 41 = false := (isG_is KZ WZ).trans (by decide)
  refine ⟨by rw [K0]; decide, ?_⟩
  have x : ∀ j, nL (wv [98, 97, 99, 107] 4) ≠ txW j → ¬ isW V L s j = true := fun j hj => by
    rw [isW_is K0 W0, decide_eq_true_eq]
    exact hj
  have x14 : isW V L s 14 = true := (isW_is K0 W0).trans (by decide +kernel)
  unfold liX liB
  rw [if_neg (x 1 (by decide +kernel)), if_neg (x 5 (by decide +kernel)), if_neg (x 11 (by decide +kernel)), if_pos ⟨x14, h0⟩]
  have EE : ∃ S, lev V L 48 0 0 (nx V L s, 0, 0, fun _ => (0, 0)) = .inr S ∧ S.1 = (nx V L (nx V L (nx V L (nx V L (nx V L (nx V L s)))))) ∧ S.2.2.1 = 5 ∧ ∀ i, i < 5 → S.2.2.2 i = [(103, 0), (110, 2), (115, 0), (45, 0), (60, 0)].getD i (0, 0) := by
    refine ⟨_, (lv_up (l := 0) (by decide) (lv_up (l := 1) (by decide) (lv_bin2 n1 (lv_up (l := 3) (by decide) (lv_up (l := 4) (by decide) (lv_w k1 (by decide) g1 (Nat.le_of_ble_eq_true rfl)) o2_4) o2_3) o2_2 (by decide) (lv_bin (l := 3) (by decide) (lv_up (l := 4) (by decide) (lv_n k3 K3 W3 g3 (Nat.le_of_ble_eq_true rfl)) o4_4) o4_3 (by decide) (lv_up (l := 4) (by decide) (lv_w k5 (by decide) g5 (Nat.le_of_ble_eq_true rfl)) z_4) z_3)) z_1) z_0), rfl, rfl, fun i hi => ?_⟩
    have : i = 0 ∨ i = 1 ∨ i = 2 ∨ i = 3 ∨ i = 4 := by omega
    rcases this with rfl | rfl | rfl | rfl | rfl <;> rfl
  obtain ⟨⟨p, S⟩, q1, q2, q3, q4⟩ := EE
  have q2' : p = (nx V L (nx V L (nx V L (nx V L (nx V L (nx V L s)))))) := q2
  subst q2'
  rw [q1]
  obtain ⟨q5, q6⟩ := p_semi (τ := upB τ S) HZ n
  exact ⟨_, S, q5, q6, q3, q4⟩
end RULES
