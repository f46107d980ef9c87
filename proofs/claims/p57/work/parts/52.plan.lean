/-! plan -/
def bvM (V C : Nat → Nat) (i : Nat) : Option Nat → Option Nat
  | none => some i
  | some b => if V b < V i then some i else if V i = V b then if C i < C b then some i else some b else some b
def bvS (p : Nat → Bool) (V C : Nat → Nat) (i : Nat) (o : Option Nat) : Option Nat := if p i = true then bvM V C i o else o
theorem bvS_o {p : Nat → Bool} {V C : Nat → Nat} (i : Nat) (o : Option Nat) : bvS p V C i o = o ∨ bvS p V C i o = some i := by
  unfold bvS
  split
  · cases o with
    | none => exact Or.inr rfl
    | some b =>
      by_cases y : V b < V i
      · exact Or.inr (if_pos y)
      · by_cases z : V i = V b
        · by_cases v : C i < C b
          · exact Or.inr ((if_neg y).trans ((if_pos z).trans (if_pos v)))
          · exact Or.inl ((if_neg y).trans ((if_pos z).trans (if_neg v)))
        · exact Or.inl ((if_neg y).trans (if_neg z))
  · exact Or.inl rfl
theorem bvS_n {p : Nat → Bool} {V C : Nat → Nat} (i b : Nat) : bvS p V C i (some b) ≠ none := by
  rcases bvS_o (p := p) (V := V) (C := C) i (some b) with e | e <;> rw [e] <;> exact Option.some_ne_none _
def bvP (V C : Nat → Nat) : Option Nat → PT3
  | none => none
  | some b => some (nI (V b), nI (C b), nI b)
theorem bvP_take {V C : Nat → Nat} {i : Nat} (hV : ∀ i, V i < 2 ^ 31) (hC : ∀ i, i < 128 → C i < 2 ^ 31) (hi : i < 128) : ∀ o, (∀ b, o = some b → b < 128) → pTake (bvP V C o) (nI i) (nI (V i)) (nI (C i)) = bvP V C (bvM V C i o) := by
  intro o ho
  cases o with
  | none => rfl
  | some b =>
    show (if nI (V b) < nI (V i) then some (nI (V i), nI (C i), nI i) else if nI (V i) = nI (V b) then if nI (C i) < nI (C b) then some (nI (V i), nI (C i), nI i) else some (nI (V b), nI (C b), nI b) else some (nI (V b), nI (C b), nI b)) = bvP V C (if V b < V i then some i else if V i = V b then if C i < C b then some i else some b else some b)
    simp only [nI_ltB (hV b) (hV i), nI_eqB (hV i) (hV b), nI_ltB (hC i hi) (hC b (ho b rfl))]
    split
    · rfl
    · split
      · split <;> rfl
      · rfl
/-- the state if these leave -/
def plA (A : Nat → Int32) (s : Nat) : Nat → Int32 := up A 14 (nI (aN A ||| s))
theorem plA_o {A : Nat → Int32} {s k : Nat} (h : k ≠ 14) : plA A s k = A k := if_neg h
theorem plA_n {A : Nat → Int32} {s : Nat} (hn : aN A < 128) (hs : s < 128) : aN (plA A s) = aN A ||| s := by
  have := or_128 hn hs
  show (plA A s 14).toNatClampNeg = _
  rw [show plA A s 14 = nI (aN A ||| s) from up_s]
  exact q_cl (by omega)
theorem plA_ok {τ : CT} {N s : Nat} {A : Nat → Int32} (H : cOk τ) (hs : s < 2 ^ τ 0 1) (K : aOk τ N A) : aOk τ N (plA A s) := by
  have h7 := o_mn H
  have h8 := p2_7 h7
  have hn := plA_n (aN_lt H K) (show s < 128 by omega)
  refine ⟨⟨?_, ?_⟩, ?_, ?_, ?_⟩
  · rw [hn]
    exact up_s
  · rw [hn]
    exact Nat.or_lt_two_pow K.1.2 hs
  · rw [plA_o (by omega)]
    exact K.2.1
  · rw [plA_o (by omega)]
    exact K.2.2.1
  · obtain ⟨y, y1, y2, hd⟩ := K.2.2.2
    refine ⟨y, y1, by rw [plA_o (by omega)]; exact y2, fun k hk => ?_⟩
    obtain ⟨z, z1, z2, z3⟩ := hd k hk
    refine ⟨z, z1, by rw [plA_o (by omega)]; exact z2, fun w => z3 ?_⟩
    rw [hn, Nat.testBit_or] at w
    exact (Bool.or_eq_false_iff.mp w).1
theorem plA_rep {τ : CT} {N s : Nat} {r : RS} {A : Nat → Int32} (H : cOk τ) (hs : s < 2 ^ τ 0 1) (ha : s &&& aN A = 0) (K : aOk τ N A) (R : Rep τ r A) : Rep τ (rWalk r s) (plA A s) := by
  have h7 := o_mn H
  have h8 := p2_7 h7
  have hn := plA_n (aN_lt H K) (show s < 128 by omega)
  refine ⟨⟨?_, ?_⟩, ?_, ?_⟩
  · show r.1 0 ||| nI s = _
    rw [R.1.1, K.1.1, nI_or]
    exact up_s.symm
  · rw [plA_o (by omega), plA_o (by omega), plA_o (by omega), plA_o (by omega), plA_o (by omega)]
    exact R.1.2
  · intro m hm
    rw [plA_o (by omega)]
    exact R.2.1 m hm
  · intro m hm hb
    rw [hn, Nat.testBit_or] at hb
    rw [plA_o (by omega)]
    show (if m < 7 ∧ s.testBit m = true then 0 else r.2.1 m) = _
    by_cases z : s.testBit m = true
    · rw [if_pos ⟨by omega, z⟩]
      obtain ⟨_, _, _, y, _, _, hd⟩ := K
      obtain ⟨v, _, e, g⟩ := hd m hm
      have h3 := congrArg (fun q => q.testBit m) ha
      simp only [Nat.testBit_and, z, Bool.true_and, Nat.zero_testBit] at h3
      rw [e, g h3]
      rfl
    · rw [if_neg (fun w => z w.2)]
      refine R.2.2 m hm ?_
      rcases Bool.or_eq_true_iff.mp hb with w | w
      · exact w
      · exact absurd w z
def plV (τ : CT) (A : Nat → Int32) (n s : Nat) : Nat := aCs τ (plA A s) n
def plP (τ : CT) (n i : Nat) : Bool := decide (i &&& (127 ^^^ sCity τ n) = 0) && decide (pcN i ≤ 3)
theorem plP_ge {τ : CT} {n i : Nat} (h7 : τ 0 1 ≤ 7) (hi : i < 128) (h : 2 ^ τ 0 1 ≤ i) : plP τ n i = false := by
  unfold plP
  simp only [city_sub h7 hi]
  rw [decide_eq_false (fun z => by omega), Bool.false_and]
theorem c_lostIf {X : XT} {d T N s n : Nat} {h : HT} {τ : CT} {A : Nat → Int32} (H : CQ h T τ N A) (hs : s < 2 ^ τ 0 1) (ha : s &&& aN A = 0) (hn : n ≤ 60) : ∃ g, Fr 41 h g ∧ ∀ Q : QT, wq X (d + 5) 163 0 [some (.ref 1), some (.int (nI s)), some (.int (nI n)), none, none] [] h Q = Q (some (.int (nI (plV τ A n s)))) g := by
  have hp := cq_p H
  have hk := cq_k H
  have h7 := o_mn hk
  have h8 := p2_7 h7
  have hT := ct_T (cq_t H)
  have fp : ∀ {g : HT} {r : RS}, Fr 41 g (pS g 41 r) := fun {g r} => ⟨rfl, fun c k z _ => gI_pSo z⟩
  have ft : ∀ {g g' g'' : HT}, Fr 41 g g' → Fr 41 g' g'' → Fr 41 g g'' := fun a b => ⟨b.1.trans a.1, fun c k z y => (b.2 c k z y).trans (a.2 c k z y)⟩
  have s1 : Fr 41 h (pS h 41 (rCopy (gS h 41) (gS h 38))) := fp
  have r1 : Rep τ (gS (pS h 41 (rCopy (gS h 41) (gS h 38))) 41) A := by
    rw [gS_pS]
    exact Rep_copy hk (cq_r H)
  have cc := fun (Q : QT) => c_copy (X := X) (d := d + 4) (Q := Q) is41 is38 (by decide) hp
  generalize pS h 41 (rCopy (gS h 41) (gS h 38)) = h1 at s1 r1 cc
  have C1 := CQ_same (Fr_Same (Or.inl rfl) s1) H
  have cl := fun (Q : QT) => c_walkOut (X := X) (d := d + 4) (h := h1) (n := s) (Q := Q) is41 (cq_p C1) (show s < 128 by omega)
  have s2 : Fr 41 h (pS h1 41 (rWalk (gS h1 41) s)) := ft s1 fp
  have r2 : Rep τ (gS (pS h1 41 (rWalk (gS h1 41) s)) 41) (plA A s) := by
    rw [gS_pS]
    exact plA_rep hk hs ha (cq_a H) r1
  generalize pS h1 41 (rWalk (gS h1 41) s) = h2 at s2 r2 cl
  have K2 := plA_ok hk hs (cq_a H)
  unfold plV
  generalize plA A s = B at r2 K2
  obtain ⟨g, ⟨q1, q2⟩, e⟩ := q_loopI (fun i (g : HT) (Q : QT) => wq X (d + 5) 163 24 [some (.ref 1), some (.int (nI s)), some (.int (nI n)), some (.int (nI (aCs τ B i))), some (.int (nI i))] [] g Q) (fun i g => Fr 41 h g ∧ Rep τ (gS g 41) (aIt τ B i)) n (by
    intro i hi g hg
    have C := CQ_same (Fr_Same (Or.inl rfl) hg.1) H
    obtain ⟨g1, f1, f2, f3⟩ := c_passF (X := X) (d := d) (a := 41) (cq_t C) (cq_f C) (it_ok hk K2 i) is41 hg.2
    refine ⟨g1, ⟨ft hg.1 f1, f2⟩, funext fun Q => ?_⟩
    have e1 : (nI i < nI n) = True := eq_true (nI_lt hi (by omega))
    rw [u163_24]
    simp only [u163_26, u163_27, u163_30, u163_31, u163_32, u163_35, u163_36, u163_39, u163_42, u163_43, u163_44, u163_47, eq_self, q_nl0, q_nlI, q_nlR, not_false_eq_true, q_nz0, q_nz1, q_zv0, q_zv1, q_tl1, q_tl0, q_wif, q_swc, q_swn, List.cons_append, List.nil_append, if_true, if_false, e10, e01, Bool.false_eq_true, sh_1, shT_0 hT, e1, cq_T C, p_1_4 (cq_p C), f3, nI_add, nI_1]
    rfl) h2 ⟨s2, r2⟩
  refine ⟨g, q1, fun Q => ?_⟩
  simp only [u163_0, u163_1, u163_4, u163_5, u163_8, eq_self, q_nl0, q_nlI, q_nlR, not_false_eq_true, q_nz0, q_nz1, q_zv0, q_zv1, q_tl1, q_tl0, q_wif, q_swc, q_swn, List.cons_append, List.nil_append, if_true, if_false, e10, e01, Bool.false_eq_true, sh_1, sh_41, p_1_4 hp, p_1_3 hp, cc]
  simp only [u163_11, u163_12, u163_15, u163_16, u163_19, u163_20, u163_21, u163_22, eq_self, q_nl0, q_nlI, q_nlR, not_false_eq_true, q_nz0, q_nz1, q_zv0, q_zv1, q_tl1, q_tl0, q_wif, q_swc, q_swn, List.cons_append, List.nil_append, if_true, if_false, e10, e01, Bool.false_eq_true, sh_1, sh_41, p_1_4 (cq_p C1), cl]
  refine (congrFun e Q).trans ?_
  rw [u163_24]
  simp only [u163_26, u163_27, u163_50, u163_51, eq_self, q_nl0, q_nlI, q_nlR, not_false_eq_true, q_nz0, q_nz1, q_zv0, q_zv1, q_tl1, q_tl0, q_wif, q_swc, q_swn, List.cons_append, List.nil_append, if_true, if_false, e10, e01, Bool.false_eq_true, eq_false (nI_nlt (Nat.le_refl n) (by omega))]
theorem hP_g {g : HT} {o : PT3} (e : ∀ k, m_gI g 178 k = pK o k (m_gI g 178 k)) : hP g o = g := by
  apply hx
  · intro c k
    show (if c = 178 then pK o k (g.1 178 k) else g.1 c k) = g.1 c k
    by_cases z : c = 178
    · rw [if_pos z, z]
      exact (e k).symm
    · rw [if_neg z]
  · rfl
theorem pK_pK {o : PT3} {k : Nat} {x : Int32} : pK o k (pK o k x) = pK o k x := by
  unfold pK
  split
  · rfl
  · split
    · rfl
    · split
      · rfl
      · split <;> rfl
theorem hP_fr {h g : HT} {o : PT3} (f : Fr 41 (hP h o) g) : hP g o = g := hP_g (fun k => by
  rw [f.2 178 k (Or.inr (by omega)) (isP_ge (by omega))]
  exact pK_pK.symm)
