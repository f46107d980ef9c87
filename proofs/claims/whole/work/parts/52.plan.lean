/-! plan -/
def bvM (V C : Nat → Nat) (i : Nat) : Option Nat → Option Nat
  | none => some i
  | some b => if V b < V i then some i else if V i = V b then if C i < C b then some i else some b else some b
def bvS (p : Nat → Bool) (V C : Nat → Nat) (i : Nat) (o : Option Nat) : Option Nat := if p i = true then bvM V C i o else o
theorem bvS_o {p : Nat → Bool} {V C : Nat → Nat} (i : Nat) (o : Option Nat) : bvS p V C i o = o ∨ bvS p V C i o = some i := by
  unfold bvS
  split
  · cases o with
    | none => exact Or.inr rfl
    | some b =>
      by_cases y : V b < V i
      · exact Or.inr (if_pos y)
      · by_cases z : V i = V b
        · by_cases v : C i < C b
          · exact Or.inr ((if_neg y).trans ((if_pos z).trans (if_pos v)))
          · exact Or.inl ((if_neg y).trans ((if_pos z).trans (if_neg v)))
        · exact Or.inl ((if_neg y).trans (if_neg z))
  · exact Or.inl rfl
theorem bvS_n {p : Nat → Bool} {V C : Nat → Nat} (i b : Nat) : bvS p V C i (some b) ≠ none := by
  rcases bvS_o (p := p) (V := V) (C := C) i (some b) with e | e <;> rw [e] <;> exact Option.some_ne_none _
def bvP (V C : Nat → Nat) : Option Nat → PT3
  | none => none
  | some b => some (nI (V b), nI (C b), nI b)
theorem bvP_take {V C : Nat → Nat} {i : Nat} (hV : ∀ i, V i < 2 ^ 31) (hC : ∀ i, i < 128 → C i < 2 ^ 31) (hi : i < 128) : ∀ o, (∀ b, o = some b → b < 128) → pTake (bvP V C o) (nI i) (nI (V i)) (nI (C i)) = bvP V C (bvM V C i o) := by
  intro o ho
  cases o with
  | none => rfl
  | some b =>
    show (if nI (V b) < nI (V i) then some (nI (V i), nI (C i), nI i) else if nI (V i) = nI (V b) then if nI (C i) < nI (C b) then some (nI (V i), nI (C i), nI i) else some (nI (V b), nI (C b), nI b) else some (nI (V b), nI (C b), nI b)) = bvP V C (if V b < V i then some i else if V i = V b then if C i < C b then some i else some b else some b)
    simp only [nI_ltB (hV b) (hV i), nI_eqB (hV i) (hV b), nI_ltB (hC i hi) (hC b (ho b rfl))]
    split
    · rfl
    · split
      · split <;> rfl
      · rfl
/-- the state if these leave -/
def plA (A : Nat → Int32) (s : Nat) : Nat → Int32 := up A 14 (nI (aN A ||| s))
theorem plA_o {A : Nat → Int32} {s k : Nat} (h : k ≠ 14) : plA A s k = A k := if_neg h
theorem plA_n {A : Nat → Int32} {s : Nat} (hn : aN A < 128) (hs : s < 128) : aN (plA A s) = aN A ||| s := by
  have := or_128 hn hs
  show (plA A s 14).toNatClampNeg = _
  rw [show plA A s 14 = nI (aN A ||| s) from up_s]
  exact q_cl (by omega)
theorem plA_ok {τ : CT} {N s : Nat} {A : Nat → Int32} (H : cOk τ) (hs : s < 2 ^ τ 0 1) (K : aOk τ N A) : aOk τ N (plA A s) := by
  have h7 := o_mn H
  have h8 := p2_7 h7
  have hn := plA_n (aN_lt H K) (show s < 128 by omega)
  refine ⟨⟨?_, ?_⟩, ?_, ?_, ?_⟩
  · rw [hn]
    exact up_s
  · rw [hn]
    exact Nat.or_lt_two_pow K.1.2 hs
  · rw [plA_o (by omega)]
    exact K.2.1
  · rw [plA_o (by omega)]
    exact K.2.2.1
  · obtain ⟨y, y1, y2, hd⟩ := K.2.2.2
    refine ⟨y, y1, by rw [plA_o (by omega)]; exact y2, fun k hk => ?_⟩
    obtain ⟨z, z1, z2, z3⟩ := hd k hk
    refine ⟨z, z1, by rw [plA_o (by omega)]; exact z2, fun w => z3 ?_⟩
    rw [hn, Nat.testBit_or] at w
    exact (Bool.or_eq_false_iff.mp w).1
theorem plA_rep {τ : CT} {N s : Nat} {r : RS} {A : Nat → Int32} (H : cOk τ) (hs : s < 2 ^ τ 0 1) (ha : s &&& aN A = 0) (K : aOk τ N A) (R : Rep τ r A) : Rep τ (rWalk r s) (plA A s) := by
  have h7 := o_mn H
  have h8 := p2_7 h7
  have hn := plA_n (aN_lt H K) (show s < 128 by omega)
  refine ⟨⟨?_, ?_⟩, ?_, ?_⟩
  · show r.1 0 ||| nI s = _
    rw [R.1.1, K.1.1, nI_or]
    exact up_s.symm
  · rw [plA_o (by omega), plA_o (by omega), plA_o (by omega), plA_o (by omega), plA_o (by omega)]
    exact R.1.2
  · intro m hm
    rw [plA_o (by omega)]
    exact R.2.1 m hm
  · intro m hm hb
    rw [hn, Nat.testBit_or] at hb
    rw [plA_o (by omega)]
    show (if m < 7 ∧ s.testBit m = true then 0 else r.2.1 m) = _
    by_cases z : s.testBit m = true
    · rw [if_pos ⟨by omega, z⟩]
      obtain ⟨_, _, _, y, _, _, hd⟩ := K
      obtain ⟨v, _, e, g⟩ := hd m hm
      have h3 := congrArg (fun q => q.testBit m) ha
      simp only [Nat.testBit_and, z, Bool.true_and, Nat.zero_testBit] at h3
      rw [e, g h3]
      rfl
    · rw [if_neg (fun w => z w.2)]
      refine R.2.2 m hm ?_
      rcases Bool.or_eq_true_iff.mp hb with w | w
      · exact w
      · exact absurd w z
def plV (τ : CT) (A : Nat → Int32) (n s : Nat) : Nat := aCs τ (plA A s) n
def plP (τ : CT) (n i : Nat) : Bool := decide (i &&& (127 ^^^ sCity τ n) = 0) && decide (pcN i ≤ 3)
theorem plP_ge {τ : CT} {n i : Nat} (h7 : τ 0 1 ≤ 7) (hi : i < 128) (h : 2 ^ τ 0 1 ≤ i) : plP τ n i = false := by
  unfold plP
  simp only [city_sub h7 hi]
  rw [decide_eq_false (fun z => by omega), Bool.false_and]
theorem c_lostIf {X : XT} {d T N s n : Nat} {h : HT} {τ : CT} {A : Nat → Int32} (H : CQ h T τ N A) (hs : s < 2 ^ τ 0 1) (ha : s &&& aN A = 0) (hn : n ≤ 60) : ∃ g, Fr 41 h g ∧ ∀ Q : QT, wq X (d + 5) 163 0 [some (.ref 1), some (.int (nI s)), some (.int (nI n)), none, none] [] h Q = Q (some (.int (nI (plV τ A n s)))) g := by
  have hp := cq_p H
  have hk := cq_k H
  have h7 := o_mn hk
  have h8 := p2_7 h7
  have hT := ct_T (cq_t H)
  have fp : ∀ {g : HT} {r : RS}, Fr 41 g (pS g 41 r) := fun {g r} => ⟨rfl, fun c k z _ => gI_pSo z⟩
  have ft : ∀ {g g' g'' : HT}, Fr 41 g g' → Fr 41 g' g'' → Fr 41 g g'' := fun a b => ⟨b.1.trans a.1, fun c k z y => (b.2 c k z y).trans (a.2 c k z y)⟩
  have s1 : Fr 41 h (pS h 41 (rCopy (gS h 41) (gS h 38))) := fp
  have r1 : Rep τ (gS (pS h 41 (rCopy (gS h 41) (gS h 38))) 41) A := by
    rw [gS_pS]
    exact Rep_copy hk (cq_r H)
  have cc := fun (Q : QT) => c_copy (X := X) (d := d + 4) (Q := Q) is41 is38 (by decide) hp
  generalize pS h 41 (rCopy (gS h 41) (gS h 38)) = h1 at s1 r1 cc
  have C1 := CQ_same (Fr_Same (Or.inl rfl) s1) H
  have cl := fun (Q : QT) => c_walkOut (X := X) (d := d + 4) (h := h1) (n := s) (Q := Q) is41 (cq_p C1) (show s < 128 by omega)
  have s2 : Fr 41 h (pS h1 41 (rWalk (gS h1 41) s)) := ft s1 fp
  have r2 : Rep τ (gS (pS h1 41 (rWalk (gS h1 41) s)) 41) (plA A s) := by
    rw [gS_pS]
    exact plA_rep hk hs ha (cq_a H) r1
  generalize pS h1 41 (rWalk (gS h1 41) s) = h2 at s2 r2 cl
  have K2 := plA_ok hk hs (cq_a H)
  unfold plV
  generalize plA A s = B at r2 K2
  obtain ⟨g, ⟨q1, q2⟩, e⟩ := q_loopI (fun i (g : HT) (Q : QT) => wq X (d + 5) 163 24 [some (.ref 1), some (.int (nI s)), some (.int (nI n)), some (.int (nI (aCs τ B i))), some (.int (nI i))] [] g Q) (fun i g => Fr 41 h g ∧ Rep τ (gS g 41) (aIt τ B i)) n (by
    intro i hi g hg
    have C := CQ_same (Fr_Same (Or.inl rfl) hg.1) H
    obtain ⟨g1, f1, f2, f3⟩ := c_passF (X := X) (d := d) (a := 41) (cq_t C) (cq_f C) (it_ok hk K2 i) is41 hg.2
    refine ⟨g1, ⟨ft hg.1 f1, f2⟩, funext fun Q => ?_⟩
    have e1 : (nI i < nI n) = True := eq_true (nI_lt hi (by omega))
    rw [u163_24]
    simp only [u163_26, u163_27, u163_30, u163_31, u163_32, u163_35, u163_36, u163_39, u163_42, u163_43, u163_44, u163_47, eq_self, q_nl0, q_nlI, q_nlR, not_false_eq_true, q_nz0, q_nz1, q_zv0, q_zv1, q_tl1, q_tl0, q_wif, q_swc, q_swn, List.cons_append, List.nil_append, if_true, if_false, e10, e01, Bool.false_eq_true, sh_1, shT_0 hT, e1, cq_T C, p_1_4 (cq_p C), f3, nI_add, nI_1]
    rfl) h2 ⟨s2, r2⟩
  refine ⟨g, q1, fun Q => ?_⟩
  simp only [u163_0, u163_1, u163_4, u163_5, u163_8, eq_self, q_nl0, q_nlI, q_nlR, not_false_eq_true, q_nz0, q_nz1, q_zv0, q_zv1, q_tl1, q_tl0, q_wif, q_swc, q_swn, List.cons_append, List.nil_append, if_true, if_false, e10, e01, Bool.false_eq_true, sh_1, sh_41, p_1_4 hp, p_1_3 hp, cc]
  simp only [u163_11, u163_12, u163_15, u163_16, u163_19, u163_20, u163_21, u163_22, eq_self, q_nl0, q_nlI, q_nlR, not_false_eq_true, q_nz0, q_nz1, q_zv0, q_zv1, q_tl1, q_tl0, q_wif, q_swc, q_swn, List.cons_append, List.nil_append, if_true, if_false, e10, e01, Bool.false_eq_true, sh_1, sh_41, p_1_4 (cq_p C1), cl]
  refine (congrFun e Q).trans ?_
  rw [u163_24]
  simp only [u163_26, u163_27, u163_50, u163_51, eq_self, q_nl0, q_nlI, q_nlR, not_false_eq_true, q_nz0, q_nz1, q_zv0, q_zv1, q_tl1, q_tl0, q_wif, q_swc, q_swn, List.cons_append, List.nil_append, if_true, if_false, e10, e01, Bool.false_eq_true, eq_false (nI_nlt (Nat.le_refl n) (by omega))]
theorem hP_g {g : HT} {o : PT3} (e : ∀ k, m_gI g 178 k = pK o k (m_gI g 178 k)) : hP g o = g := by
  apply hx
  · intro c k
    show (if c = 178 then pK o k (g.1 178 k) else g.1 c k) = g.1 c k
    by_cases z : c = 178
    · rw [if_pos z, z]
      exact (e k).symm
    · rw [if_neg z]
  · rfl
theorem pK_pK {o : PT3} {k : Nat} {x : Int32} : pK o k (pK o k x) = pK o k x := by
  unfold pK
  split
  · rfl
  · split
    · rfl
    · split
      · rfl
      · split <;> rfl
theorem hP_fr {h g : HT} {o : PT3} (f : Fr 41 (hP h o) g) : hP g o = g := hP_g (fun k => by
  rw [f.2 178 k (Or.inr (by omega)) (isP_ge (by omega))]
  exact pK_pK.symm)
theorem b_plan {X : XT} {d T b f N : Nat} {h : HT} {τ : CT} {A : Nat → Int32} (H : CQ h T τ N A) (K : KQ h b f τ N A) (x w : Int32) : Pr X (d + 10) 162 [some (.ref 1), some (.int x), some (.int w), none, none, none] 285 [some (.ref 195), some (.int x), some (.int w), none, none, none, none, none] h := by
  have hp := cq_p H
  have hk := cq_k H
  have h7 := o_mn hk
  have h8 := p2_7 h7
  have h01 : 0 < 2 ^ τ 0 1 := Nat.two_pow_pos _
  have hn8 := cq_n H
  have hc := sCity_lt (n := aN A) hk
  rcases cnt_cases x with ⟨n, hn1, hn, rfl, ix⟩ | ix
  · have hV : ∀ i, plV τ A n i < 2 ^ 31 := fun i => by
      have := aCs_le (A := plA A i) hk n
      unfold plV
      omega
    have hCC : ∀ i, i < 128 → pcN i < 2 ^ 31 := fun i hi => by
      have := pcN_le i hi
      omega
    have hlt := fO_lt (bvS_o (p := plP τ (aN A)) (V := plV τ A n) (C := pcN))
    have h0 : bvS (plP τ (aN A)) (plV τ A n) pcN 0 none = some 0 := by
      refine if_pos ?_
      unfold plP
      rw [Nat.zero_and, decide_eq_true rfl, Bool.true_and]
      decide
    have hsome : ∀ n', 0 < n' → ∃ q, fL (bvS (plP τ (aN A)) (plV τ A n) pcN) none n' = some q := fO_some (s := bvS (plP τ (aN A)) (plV τ A n) pcN) bvS_n (by rw [h0]; exact Option.some_ne_none _)
    obtain ⟨best, hbest⟩ := hsome (2 ^ τ 0 1) h01
    have cl : ∃ g, Same h (hP g (bvP (plV τ A n) pcN (some best))) ∧ ∃ l5, (fun Q : QT => wq X (d + 10) 162 18 [some (.ref 1), some (.int (nI n)), some (.int w), none, none, none] [] h Q) = fun Q => wq X (d + 10) 162 87 [some (.ref 1), some (.int (nI n)), some (.int w), some (.int (nI (sCity τ (aN A)))), some (.int (nI 128)), l5] [] (hP g (bvP (plV τ A n) pcN (some best))) Q := by
      obtain ⟨p, i1, e⟩ := q_loopI (fun i (p : HT × Option Value) (Q : QT) => wq X (d + 10) 162 33 [some (.ref 1), some (.int (nI n)), some (.int w), some (.int (nI (sCity τ (aN A)))), some (.int (nI i)), p.2] [] (hP p.1 (bvP (plV τ A n) pcN (fL (bvS (plP τ (aN A)) (plV τ A n) pcN) none i))) Q) (fun _ p => Same h p.1) 128 (by
        intro i hi p hs
        have hl := hlt i
        rw [fL_s]
        generalize fL (bvS (plP τ (aN A)) (plV τ A n) pcN) none i = o at hl ⊢
        have C : ∀ o, CQ (hP p.1 o) T τ N A := fun o => CQ_same (Same_tr hs Same_hP) H
        have e1 : (nI i < 128) = True := eq_true (nI_lt (b := 128) hi (by decide))
        have hpi := pcN_le i hi
        have e3 : (3 < nI (pcN i)) = ¬ pcN i ≤ 3 := by
          have := nI_ltB (a := 3) (b := pcN i) (by omega) (by omega)
          rw [show (3 : Int32) = nI 3 from rfl, this]
          exact propext ⟨fun _ => by omega, fun _ => by omega⟩
        by_cases z : i &&& (127 ^^^ sCity τ (aN A)) = 0
        · by_cases y : pcN i ≤ 3
          · have z2 := z
            rw [city_sub h7 hi] at z2
            obtain ⟨g, f1, f2⟩ := c_lostIf (X := X) (d := d + 4) (C (bvP (plV τ A n) pcN o)) z2.1 z2.2 hn
            have eg := hP_fr f1
            refine ⟨(g, some (.int (nI (pcN i)))), Same_tr (Same_tr hs Same_hP) (Fr_Same (Or.inl rfl) f1), funext fun Q => ?_⟩
            have Cg := CQ_same (Fr_Same (Or.inl rfl) f1) (C (bvP (plV τ A n) pcN o))
            have es : bvS (plP τ (aN A)) (plV τ A n) pcN i o = bvM (plV τ A n) pcN i o := by
              refine if_pos ?_
              unfold plP
              rw [decide_eq_true z, decide_eq_true y]
              rfl
            have ct := fun (Q : QT) => c_take (X := X) (d := d + 8) (h := g) (Q := Q) (o := bvP (plV τ A n) pcN o) (s := nI i) (w := nI (plV τ A n i)) (c := nI (pcN i))
            rw [eg, bvP_take hV hCC hi o (fun q hq => by have := hl q hq; omega)] at ct
            rw [u162_33, es]
            simp only [u162_35, u162_38, u162_41, u162_43, u162_46, u162_48, u162_50, u162_51, u162_52, u162_53, u162_54, u162_57, u162_59, u162_60, u162_63, u162_64, u162_67, u162_69, u162_70, u162_72, u162_73, eq_self, q_nl0, q_nlI, q_nlR, not_false_eq_true, q_nz0, q_nz1, q_zv0, q_zv1, q_tl1, q_tl0, q_wif, q_swc, q_swn, List.cons_append, List.nil_append, if_true, if_false, e10, e01, Bool.false_eq_true, sh_1, sh_178, e1, c_bitCount hi, nI_not _ hi _ hc, nI_0eq (and_128 hi), eq_true z, e3, eq_true y, not_true_eq_false, p_1_9 (cq_p (C _)), f2]
            simp only [u162_76, u162_78, eq_self, q_nl0, q_nlI, q_nlR, not_false_eq_true, q_nz0, q_nz1, q_zv0, q_zv1, q_tl1, q_tl0, q_wif, q_swc, q_swn, List.cons_append, List.nil_append, if_true, if_false, e10, e01, Bool.false_eq_true, sh_1, sh_178, ct]
            simp only [u162_81, u162_84, eq_self, q_nl0, q_nlI, q_nlR, not_false_eq_true, q_nz0, q_nz1, q_zv0, q_zv1, q_tl1, q_tl0, q_wif, q_swc, q_swn, List.cons_append, List.nil_append, if_true, if_false, e10, e01, Bool.false_eq_true, nI_1]
          · refine ⟨(p.1, some (.int (nI (pcN i)))), hs, funext fun Q => ?_⟩
            have es : bvS (plP τ (aN A)) (plV τ A n) pcN i o = o := by
              refine if_neg ?_
              unfold plP
              rw [decide_eq_false y, Bool.and_false]
              decide
            rw [u162_33, es]
            simp only [u162_35, u162_38, u162_41, u162_43, u162_46, u162_48, u162_50, u162_51, u162_52, u162_53, u162_54, u162_57, u162_59, u162_60, u162_81, u162_84, eq_self, q_nl0, q_nlI, q_nlR, not_false_eq_true, q_nz0, q_nz1, q_zv0, q_zv1, q_tl1, q_tl0, q_wif, q_swc, q_swn, List.cons_append, List.nil_append, if_true, if_false, e10, e01, Bool.false_eq_true, e1, c_bitCount hi, nI_not _ hi _ hc, nI_0eq (and_128 hi), eq_true z, e3, eq_false y, not_false_eq_true, nI_1]
        · refine ⟨(p.1, some (.int (nI (pcN i)))), hs, funext fun Q => ?_⟩
          have es : bvS (plP τ (aN A)) (plV τ A n) pcN i o = o := by
            refine if_neg ?_
            unfold plP
            rw [decide_eq_false z, Bool.false_and]
            decide
          rw [u162_33, es]
          simp only [u162_35, u162_38, u162_41, u162_43, u162_46, u162_48, u162_50, u162_51, u162_52, u162_53, u162_54, u162_57, u162_59, u162_60, u162_81, u162_84, eq_self, q_nl0, q_nlI, q_nlR, not_false_eq_true, q_nz0, q_nz1, q_zv0, q_zv1, q_tl1, q_tl0, q_wif, q_swc, q_swn, List.cons_append, List.nil_append, if_true, if_false, e10, e01, Bool.false_eq_true, e1, c_bitCount hi, nI_not _ hi _ hc, nI_0eq (and_128 hi), eq_false z, nI_1]) (h, none) Same_rf
      have hb2 : fL (bvS (plP τ (aN A)) (plV τ A n) pcN) none 128 = some best := by
        rw [fL_to2 (s := bvS (plP τ (aN A)) (plV τ A n) pcN) h8 (fun i o h1 h2 => if_neg (by rw [plP_ge h7 h2 h1]; decide)), hbest]
      refine ⟨p.1, Same_tr i1 Same_hP, p.2, funext fun Q => ?_⟩
      simp only [u162_18, u162_19, u162_22, u162_25, u162_26, u162_29, u162_30, u162_31, eq_self, q_nl0, q_nlI, q_nlR, not_false_eq_true, q_nz0, q_nz1, q_zv0, q_zv1, q_tl1, q_tl0, q_wif, q_swc, q_swn, List.cons_append, List.nil_append, if_true, if_false, e10, e01, Bool.false_eq_true, sh_1, sh_178, p_1_9 hp, c_pClear, c_inCity (CQ_same Same_hP H)]
      refine (congrFun e Q).trans ?_
      rw [hb2, u162_33]
      simp only [u162_35, u162_38, eq_self, q_nl0, q_nlI, q_nlR, not_false_eq_true, q_nz0, q_nz1, q_zv0, q_zv1, q_tl1, q_tl0, q_wif, q_swc, q_swn, List.cons_append, List.nil_append, if_true, if_false, e10, e01, Bool.false_eq_true, eq_false (show ¬ nI 128 < 128 by decide)]
    have ml : ∀ (g : HT), KQ g b f τ N A → ∃ g', Same g g' ∧ ∃ l7, (fun Q : QT => wq X (d + 10) 285 21 [some (.ref 195), some (.int (nI n)), some (.int w), none, none, none, none, none] [] g Q) = fun Q => wq X (d + 10) 285 141 [some (.ref 195), some (.int (nI n)), some (.int w), some (.int (nI best)), some (.int (nI (plV τ A n best))), some (.int (nI (aN A))), some (.int (nI (2 ^ τ 0 1))), l7] [] g' Q := by
      intro g0 K0
      obtain ⟨p, i1, e⟩ := q_loopI (fun i (p : HT × Option Value) (Q : QT) => wq X (d + 10) 285 38 [some (.ref 195), some (.int (nI n)), some (.int w), some (.int (oI (fL (bvS (plP τ (aN A)) (plV τ A n) pcN) none i))), some (.int (match fL (bvS (plP τ (aN A)) (plV τ A n) pcN) none i with
        | none => 0
        | some q => nI (plV τ A n q))), some (.int (nI (aN A))), some (.int (nI i)), p.2] [] p.1 Q) (fun _ p => Same g0 p.1) (2 ^ τ 0 1) (by
        intro i hi p hs
        have K' := KQ_same hs K0
        have hl := hlt i
        rw [fL_s]
        generalize fL (bvS (plP τ (aN A)) (plV τ A n) pcN) none i = o at hl ⊢
        have hi' : i < 128 := by omega
        have hpi := pcN_le i hi'
        have e3 : (3 < nI (pcN i)) = ¬ pcN i ≤ 3 := by
          have := nI_ltB (a := 3) (b := pcN i) (by omega) (by omega)
          rw [show (3 : Int32) = nI 3 from rfl, this]
          exact propext ⟨fun _ => by omega, fun _ => by omega⟩
        by_cases z : i &&& aN A = 0
        · by_cases y : pcN i ≤ 3
          · have hg : hC p.1 227 A = p.1 := by
              have := hC_id (h := p.1) (c := 227)
              rw [K'.2.2.2.1] at this
              exact this
            have K2 : KQ (hC p.1 227 (plA A i)) b f τ N (plA A i) := KQ_al Al_hC K' (funext fun k => gI_hC) (plA_ok (mq_k K') hi (mq_a K'))
            obtain ⟨g2, c1, c2⟩ := k_costsIn (X := X) (d := d + 1) K2 (show n ≤ 1000 by omega)
            have K3 := KQ_same c1 K2
            have hg2 : hC g2 227 (plA A i) = g2 := by
              have := hC_id (h := g2) (c := 227)
              rw [K3.2.2.2.1] at this
              exact this
            have sx : ∀ v, m_sI p.1 227 14 v = hC p.1 227 (up A 14 v) := fun v => by
              rw [← sI_hC, hg]
            have sy : m_sI g2 227 14 (nI (aN A)) = hC g2 227 A := by
              have := sI_hC (h := g2) (c := 227) (k := 14) (v := plA A i) (x := A 14)
              rw [hg2] at this
              rw [← (mq_a K').1.1, this]
              unfold plA
              rw [up_id]
            have eu : hC p.1 227 (up A 14 (nI (aN A ||| i))) = hC p.1 227 (plA A i) := rfl
            have es : bvS (plP τ (aN A)) (plV τ A n) pcN i o = bvM (plV τ A n) pcN i o := by
              refine if_pos ?_
              unfold plP
              simp only [city_sub h7 hi']
              rw [decide_eq_true ⟨hi, z⟩, decide_eq_true y]
              rfl
            have hs3 : Same g0 (hC g2 227 A) := by
              refine Same_tr hs (Al_Same (Al_tr Al_hC (Al_tr (Al_of c1) Al_hC)) ?_)
              rw [K'.2.2.2.1]
              exact funext fun k => gI_hC
            refine ⟨(hC g2 227 A, some (.int (nI (plV τ A n i)))), hs3, funext fun Q => ?_⟩
            rw [u285_38, es]
            have ev : nI (aCs τ (plA A i) n) = nI (plV τ A n i) := rfl
            cases o with
            | none =>
              simp only [u285_40, u285_41, u285_44, u285_47, u285_49, u285_51, u285_52, u285_55, u285_57, u285_60, u285_61, u285_64, u285_67, u285_68, u285_71, u285_73, u285_75, u285_77, u285_78, u285_79, u285_80, u285_81, eq_self, q_nl0, q_nlI, q_nlR, not_false_eq_true, q_nz0, q_nz1, q_zv0, q_zv1, q_tl1, q_tl0, q_wif, q_swc, q_swn, List.cons_append, List.nil_append, if_true, if_false, e10, e01, Bool.false_eq_true, sh_195, sh_227, k_everybody (mq_t K'), le_all h7 hi, nI_and, nI_0eq (and_128 hi'), eq_true z, k_bitsOf hi', e3, eq_true y, not_true_eq_false, p_195_47 (mq_p K'), in14, cl14, nI_or, sx, eu, c2]
              simp only [u285_84, u285_86, u285_87, u285_90, u285_92, u285_94, u285_95, u285_96, u285_99, u285_101, u285_103, u285_106, u285_108, u285_110, u285_113, u285_115, u285_118, u285_119, u285_122, u285_125, u285_128, u285_130, u285_131, u285_133, u285_135, u285_138, eq_self, q_nl0, q_nlI, q_nlR, not_false_eq_true, q_nz0, q_nz1, q_zv0, q_zv1, q_tl1, q_tl0, q_wif, q_swc, q_swn, List.cons_append, List.nil_append, if_true, if_false, e10, e01, Bool.false_eq_true, sh_195, sh_227, p_195_47 (mq_p K3), in14, cl14, sy, ev, oI, m1_lt0, bvM, nI_1]
            | some q =>
              have hq := hl q rfl
              have hq' : q < 128 := by omega
              have hpq := pcN_le q hq'
              simp only [u285_40, u285_41, u285_44, u285_47, u285_49, u285_51, u285_52, u285_55, u285_57, u285_60, u285_61, u285_64, u285_67, u285_68, u285_71, u285_73, u285_75, u285_77, u285_78, u285_79, u285_80, u285_81, eq_self, q_nl0, q_nlI, q_nlR, not_false_eq_true, q_nz0, q_nz1, q_zv0, q_zv1, q_tl1, q_tl0, q_wif, q_swc, q_swn, List.cons_append, List.nil_append, if_true, if_false, e10, e01, Bool.false_eq_true, sh_195, sh_227, k_everybody (mq_t K'), le_all h7 hi, nI_and, nI_0eq (and_128 hi'), eq_true z, k_bitsOf hi', e3, eq_true y, not_true_eq_false, p_195_47 (mq_p K'), in14, cl14, nI_or, sx, eu, c2]
              simp only [u285_84, u285_86, u285_87, u285_90, u285_92, u285_94, u285_95, u285_96, u285_99, u285_101, u285_103, u285_106, u285_108, u285_110, u285_113, u285_115, u285_118, u285_119, u285_122, u285_125, u285_128, u285_130, u285_131, u285_133, u285_135, u285_138, eq_self, q_nl0, q_nlI, q_nlR, not_false_eq_true, q_nz0, q_nz1, q_zv0, q_zv1, q_tl1, q_tl0, q_wif, q_swc, q_swn, List.cons_append, List.nil_append, if_true, if_false, e10, e01, Bool.false_eq_true, sh_195, sh_227, p_195_47 (mq_p K3), in14, cl14, sy, ev, oI, oI_lt0 (show q < 2 ^ 31 by omega), nI_ltB (hV i) (hV q), nI_eqB (hV i) (hV q), k_bitsOf hi', k_bitsOf hq', nI_ltB (show pcN i < 2 ^ 31 by omega) (show pcN q < 2 ^ 31 by omega), bvM, nI_1]
              by_cases v1 : plV τ A n i < plV τ A n q
              · simp only [eq_true v1, eq_false (show ¬ plV τ A n q < plV τ A n i by omega), eq_false (show ¬ plV τ A n i = plV τ A n q by omega), if_true, if_false]
              · by_cases v2 : plV τ A n i = plV τ A n q
                · by_cases v3 : pcN i < pcN q
                  · simp only [eq_false v1, eq_true v2, eq_true v3, eq_false (show ¬ plV τ A n q < plV τ A n i by omega), if_true, if_false]
                  · simp only [eq_false v1, eq_true v2, eq_false v3, eq_false (show ¬ plV τ A n q < plV τ A n i by omega), if_true, if_false]
                · simp only [eq_false v1, eq_false v2, eq_true (show plV τ A n q < plV τ A n i by omega), if_true, if_false]
          · refine ⟨p, hs, funext fun Q => ?_⟩
            have es : bvS (plP τ (aN A)) (plV τ A n) pcN i o = o := by
              refine if_neg ?_
              unfold plP
              rw [decide_eq_false y, Bool.and_false]
              decide
            rw [u285_38, es]
            simp only [u285_40, u285_41, u285_44, u285_47, u285_49, u285_51, u285_52, u285_55, u285_57, u285_60, u285_61, u285_64, u285_135, u285_138, eq_self, q_nl0, q_nlI, q_nlR, not_false_eq_true, q_nz0, q_nz1, q_zv0, q_zv1, q_tl1, q_tl0, q_wif, q_swc, q_swn, List.cons_append, List.nil_append, if_true, if_false, e10, e01, Bool.false_eq_true, sh_195, k_everybody (mq_t K'), le_all h7 hi, nI_and, nI_0eq (and_128 hi'), eq_true z, k_bitsOf hi', e3, eq_false y, not_false_eq_true, nI_1]
        · refine ⟨p, hs, funext fun Q => ?_⟩
          have es : bvS (plP τ (aN A)) (plV τ A n) pcN i o = o := by
            refine if_neg ?_
            unfold plP
            simp only [city_sub h7 hi']
            rw [decide_eq_false (fun w => z w.2), Bool.false_and]
            decide
          rw [u285_38, es]
          simp only [u285_40, u285_41, u285_44, u285_47, u285_49, u285_51, u285_52, u285_55, u285_57, u285_60, u285_61, u285_64, u285_135, u285_138, eq_self, q_nl0, q_nlI, q_nlR, not_false_eq_true, q_nz0, q_nz1, q_zv0, q_zv1, q_tl1, q_tl0, q_wif, q_swc, q_swn, List.cons_append, List.nil_append, if_true, if_false, e10, e01, Bool.false_eq_true, sh_195, k_everybody (mq_t K'), le_all h7 hi, nI_and, nI_0eq (and_128 hi'), eq_false z, nI_1]) (g0, none) Same_rf
      have K' := KQ_same i1 K0
      refine ⟨p.1, i1, p.2, funext fun Q => ?_⟩
      simp only [u285_21, u285_22, u285_23, u285_24, u285_26, u285_27, u285_30, u285_32, u285_33, u285_35, u285_36, eq_self, q_nl0, q_nlI, q_nlR, not_false_eq_true, q_nz0, q_nz1, q_zv0, q_zv1, q_tl1, q_tl0, q_wif, q_swc, q_swn, List.cons_append, List.nil_append, if_true, if_false, e10, e01, Bool.false_eq_true, sh_195, sh_227, p_195_47 (mq_p K0), in14, cl14, mq_o K0]
      refine (congrFun e Q).trans ?_
      rw [hbest, u285_38]
      simp only [u285_40, u285_41, u285_44, eq_self, q_nl0, q_nlI, q_nlR, not_false_eq_true, q_nz0, q_nz1, q_zv0, q_zv1, q_tl1, q_tl0, q_wif, q_swc, q_swn, List.cons_append, List.nil_append, if_true, if_false, e10, e01, Bool.false_eq_true, sh_195, k_everybody (mq_t K'), gt_all h7, oI]
    obtain ⟨gc, gc1, l5, ec⟩ := cl
    have pg : m_gR gc 1 9 = 178 := by
      have := p_1_9 (Same_p gc1 hp)
      exact this
    have ki := fun (Q : QT) (h : HT) => k_isIn (X := X) (d := d + 9) (h := h) (Q := Q) (x := nI n) (a := 1) (b := 60)
    simp only [ix] at ki
    rcases w01 w with ⟨w0, wi⟩ | ⟨w0, w1, wi⟩ | ⟨w0, w1, wi⟩
    · refine Pr_of (nI (plV τ A n best)) ⟨_, gc1, fun Q => ?_⟩ (fun g a => ?_)
      · simp only [u162_0, u162_1, u162_4, u162_7, u162_8, u162_11, u162_12, u162_13, u162_16, u162_17, eq_self, q_nl0, q_nlI, q_nlR, not_false_eq_true, q_nz0, q_nz1, q_zv0, q_zv1, q_tl1, q_tl0, q_wif, q_swc, q_swn, List.cons_append, List.nil_append, if_true, if_false, e10, e01, Bool.false_eq_true, c_isCount, ix, eq_true w0]
        refine (congrFun ec Q).trans ?_
        simp only [u162_87, u162_88, u162_91, u162_92, u162_95, u162_98, u162_101, u162_102, u162_105, u162_108, eq_self, q_nl0, q_nlI, q_nlR, not_false_eq_true, q_nz0, q_nz1, q_zv0, q_zv1, q_tl1, q_tl0, q_wif, q_swc, q_swn, List.cons_append, List.nil_append, if_true, if_false, e10, e01, Bool.false_eq_true, sh_1, sh_178, eq_true w0, gR_hP, pg, gI_hP1, bvP]
      · obtain ⟨g', g1, l7, em⟩ := ml g (KQ_same a K)
        refine ⟨g', g1, fun Q => ?_⟩
        simp only [u285_0, u285_1, u285_2, u285_4, u285_7, u285_10, u285_11, u285_12, u285_13, u285_16, eq_self, q_nl0, q_nlI, q_nlR, not_false_eq_true, q_nz0, q_nz1, q_zv0, q_zv1, q_tl1, q_tl0, q_wif, q_swc, q_swn, List.cons_append, List.nil_append, if_true, if_false, e10, e01, Bool.false_eq_true, ki, k_isIn, wi]
        refine (congrFun em Q).trans ?_
        simp only [u285_141, u285_142, u285_145, u285_147, u285_150, u285_151, eq_self, q_nl0, q_nlI, q_nlR, not_false_eq_true, q_nz0, q_nz1, q_zv0, q_zv1, q_tl1, q_tl0, q_wif, q_swc, q_swn, List.cons_append, List.nil_append, if_true, if_false, e10, e01, Bool.false_eq_true, eq_true w0]
    · refine Pr_of (nI best) ⟨_, gc1, fun Q => ?_⟩ (fun g a => ?_)
      · simp only [u162_0, u162_1, u162_4, u162_7, u162_8, u162_11, u162_12, u162_13, u162_16, u162_17, eq_self, q_nl0, q_nlI, q_nlR, not_false_eq_true, q_nz0, q_nz1, q_zv0, q_zv1, q_tl1, q_tl0, q_wif, q_swc, q_swn, List.cons_append, List.nil_append, if_true, if_false, e10, e01, Bool.false_eq_true, c_isCount, ix, eq_false w0, eq_true w1]
        refine (congrFun ec Q).trans ?_
        simp only [u162_87, u162_88, u162_91, u162_92, u162_95, u162_98, u162_101, u162_102, u162_105, u162_108, eq_self, q_nl0, q_nlI, q_nlR, not_false_eq_true, q_nz0, q_nz1, q_zv0, q_zv1, q_tl1, q_tl0, q_wif, q_swc, q_swn, List.cons_append, List.nil_append, if_true, if_false, e10, e01, Bool.false_eq_true, sh_1, sh_178, eq_false w0, gR_hP, pg, gI_hP3, bvP]
      · obtain ⟨g', g1, l7, em⟩ := ml g (KQ_same a K)
        refine ⟨g', g1, fun Q => ?_⟩
        simp only [u285_0, u285_1, u285_2, u285_4, u285_7, u285_10, u285_11, u285_12, u285_13, u285_16, eq_self, q_nl0, q_nlI, q_nlR, not_false_eq_true, q_nz0, q_nz1, q_zv0, q_zv1, q_tl1, q_tl0, q_wif, q_swc, q_swn, List.cons_append, List.nil_append, if_true, if_false, e10, e01, Bool.false_eq_true, ki, k_isIn, wi]
        refine (congrFun em Q).trans ?_
        simp only [u285_141, u285_142, u285_145, u285_147, u285_150, u285_151, eq_self, q_nl0, q_nlI, q_nlR, not_false_eq_true, q_nz0, q_nz1, q_zv0, q_zv1, q_tl1, q_tl0, q_wif, q_swc, q_swn, List.cons_append, List.nil_append, if_true, if_false, e10, e01, Bool.false_eq_true, eq_false w0]
    · refine Pr_pure (-1) (fun Q => ?_) (fun Q => ?_)
      · simp only [u162_0, u162_1, u162_4, u162_7, u162_8, u162_11, u162_12, u162_13, u162_16, u162_17, eq_self, q_nl0, q_nlI, q_nlR, not_false_eq_true, q_nz0, q_nz1, q_zv0, q_zv1, q_tl1, q_tl0, q_wif, q_swc, q_swn, List.cons_append, List.nil_append, if_true, if_false, e10, e01, Bool.false_eq_true, c_isCount, ix, eq_false w0, eq_false w1]
      · simp only [u285_0, u285_1, u285_2, u285_4, u285_7, u285_10, u285_11, u285_12, u285_13, u285_16, u285_19, u285_20, eq_self, q_nl0, q_nlI, q_nlR, not_false_eq_true, q_nz0, q_nz1, q_zv0, q_zv1, q_tl1, q_tl0, q_wif, q_swc, q_swn, List.cons_append, List.nil_append, if_true, if_false, e10, e01, Bool.false_eq_true, ki, k_isIn, wi]
  · refine Pr_pure (-1) (fun Q => ?_) (fun Q => ?_)
    · simp only [u162_0, u162_1, u162_4, u162_7, u162_8, u162_11, u162_12, u162_13, u162_16, u162_17, eq_self, q_nl0, q_nlI, q_nlR, not_false_eq_true, q_nz0, q_nz1, q_zv0, q_zv1, q_tl1, q_tl0, q_wif, q_swc, q_swn, List.cons_append, List.nil_append, if_true, if_false, e10, e01, Bool.false_eq_true, c_isCount, ix]
    · have ki := fun (Q : QT) (h : HT) => k_isIn (X := X) (d := d + 9) (h := h) (Q := Q) (x := x) (a := 1) (b := 60)
      simp only [ix] at ki
      simp only [u285_0, u285_1, u285_2, u285_4, u285_7, u285_10, u285_11, u285_12, u285_13, u285_16, u285_19, u285_20, eq_self, q_nl0, q_nlI, q_nlR, not_false_eq_true, q_nz0, q_nz1, q_zv0, q_zv1, q_tl1, q_tl0, q_wif, q_swc, q_swn, List.cons_append, List.nil_append, if_true, if_false, e10, e01, Bool.false_eq_true, ki]
