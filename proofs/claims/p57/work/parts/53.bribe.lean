/-! bribe -/
theorem and_n128 {a b : Nat} (h : a < 128) : a &&& (127 ^^^ b) < 128 := and_128 h
theorem aHome_n {τ : CT} {N g : Nat} {A : Nat → Int32} (H : cOk τ) (K : aOk τ N A) : aN (aHome τ A (aN A) g) = aN A &&& (127 ^^^ g) := by
  have h1 := and_n128 (b := g) (aN_lt H K)
  show (aHome τ A (aN A) g 14).toNatClampNeg = _
  rw [aHome_14]
  exact q_cl (by omega)
theorem aHome_ok {τ : CT} {N g : Nat} {A : Nat → Int32} (H : cOk τ) (K : aOk τ N A) : aOk τ N (aHome τ A (aN A) g) := by
  have h7 := o_mn H
  have hn := aHome_n (g := g) H K
  have hle : aN A &&& (127 ^^^ g) ≤ aN A := Nat.and_le_left
  have k1 := K.1.2
  refine ⟨⟨by rw [hn]; exact aHome_14, by rw [hn]; omega⟩, ?_, ?_, ?_⟩
  · rw [aHome_ge H (by omega)]
    exact K.2.1
  · rw [aHome_ge H (by omega)]
    exact K.2.2.1
  · obtain ⟨y, y1, y2, hd⟩ := K.2.2.2
    refine ⟨y, y1, by rw [aHome_ge H (by omega)]; exact y2, fun m hm => ?_⟩
    obtain ⟨z, z1, z2, z3⟩ := hd m hm
    rw [aHome_day H hm, hn, and_bit (by omega)]
    by_cases w : g.testBit m = true
    · rw [if_pos w]
      exact ⟨0, Nat.zero_le _, rfl, fun _ => rfl⟩
    · rw [if_neg w]
      refine ⟨z, z1, z2, fun v => z3 ?_⟩
      have w' : g.testBit m = false := by simpa using w
      rw [w'] at v
      simpa using v
theorem aHome_rep {τ : CT} {N g : Nat} {r : RS} {A : Nat → Int32} (H : cOk τ) (hg : g < 128) (K : aOk τ N A) (R : Rep τ r A) : Rep τ (rHome r (nI g)) (aHome τ A (aN A) g) := by
  have h7 := o_mn H
  have hn := aHome_n (g := g) H K
  refine ⟨⟨?_, ?_⟩, ?_, ?_⟩
  · show r.1 0 &&& (nI g ^^^ (-1)) = _
    rw [R.1.1, K.1.1, nI_not _ (aN_lt H K) _ hg, aHome_14]
  · rw [aHome_ge H (by omega), aHome_ge H (by omega), aHome_ge H (by omega), aHome_ge H (by omega), aHome_ge H (by omega)]
    exact R.1.2
  · intro m hm
    rw [aHome_ge H (by omega)]
    exact R.2.1 m hm
  · intro m hm hb
    rw [hn, and_bit (by omega)] at hb
    have hb2 := Bool.and_eq_true_iff.mp hb
    have hg2 : g.testBit m = false := by simpa using hb2.2
    rw [aHome_day H hm, hg2, if_neg Bool.false_ne_true]
    exact R.2.2 m hm hb2.1
/-- nobody is out: nobody will be -/
theorem aD_0 {τ : CT} {N : Nat} {A : Nat → Int32} (H : cOk τ) (K : aOk τ N A) (h : aN A = 0) : aN (aD τ A) = 0 := by
  have hf : ∀ k, sFolL τ 0 k = 0 := by
    intro k
    induction k with
    | zero => rfl
    | succ k ih =>
      unfold sFolL
      rw [if_neg (fun z => by
        have h1 : pcN 0 = 0 := rfl
        omega)]
      exact ih
  have hg : aG τ A = 0 := by
    unfold aG sFol
    rw [h, hf]
    rfl
  rw [aD_n H K, hg, Nat.zero_and]
theorem aIt_0 {τ : CT} {N : Nat} {A : Nat → Int32} (H : cOk τ) (K : aOk τ N A) (h : aN A = 0) : ∀ k, aN (aIt τ A k) = 0
  | 0 => h
  | k + 1 => aD_0 H (it_ok H K k) (aIt_0 H K h k)
def brP (τ : CT) (A : Nat → Int32) (n i : Nat) : Bool := decide (i &&& (127 ^^^ aN A) = 0) && decide (aN (aIt τ (aHome τ A (aN A) i) n) = 0)
theorem self_and {a : Nat} (h : a < 128) : a &&& (127 ^^^ a) = 0 := by
  apply Nat.eq_of_testBit_eq
  intro j
  rw [Nat.zero_testBit]
  by_cases w : j < 7
  · rw [and_bit w]
    cases a.testBit j <;> rfl
  · rw [Nat.testBit_and, bit_ge (k := 7) h (by omega)]
    rfl
theorem sub_lt {i n k : Nat} (hi : i < 128) (hn : n < 2 ^ k) (h : i &&& (127 ^^^ n) = 0) : i < 2 ^ k := by
  refine Nat.lt_pow_two_of_testBit i (fun j hj => ?_)
  by_cases w : j < 7
  · have h1 := congrArg (fun q => q.testBit j) h
    simp only [and_bit w, Nat.zero_testBit, bit_ge hn hj] at h1
    simpa using h1
  · exact bit_ge (k := 7) hi (by omega)
theorem c_ends {X : XT} {d T N s n : Nat} {h : HT} {τ : CT} {A : Nat → Int32} (H : CQ h T τ N A) (hs : s < 128) (hn : n ≤ 60) : ∃ g, Fr 41 h g ∧ ∀ Q : QT, wq X (d + 5) 165 0 [some (.ref 1), some (.int (nI s)), some (.int (nI n)), none] [] h Q = Q (some (.int (if aN (aIt τ (aHome τ A (aN A) s) n) = 0 then 1 else 0))) g := by
  have hp := cq_p H
  have hk := cq_k H
  have h7 := o_mn hk
  have hT := ct_T (cq_t H)
  have fp : ∀ {g : HT} {r : RS}, Fr 41 g (pS g 41 r) := fun {g r} => ⟨rfl, fun c k z _ => gI_pSo z⟩
  have ft : ∀ {g g' g'' : HT}, Fr 41 g g' → Fr 41 g' g'' → Fr 41 g g'' := fun a b => ⟨b.1.trans a.1, fun c k z y => (b.2 c k z y).trans (a.2 c k z y)⟩
  have s1 : Fr 41 h (pS h 41 (rCopy (gS h 41) (gS h 38))) := fp
  have r1 : Rep τ (gS (pS h 41 (rCopy (gS h 41) (gS h 38))) 41) A := by
    rw [gS_pS]
    exact Rep_copy hk (cq_r H)
  have cc := fun (Q : QT) => c_copy (X := X) (d := d + 4) (Q := Q) is41 is38 (by decide) hp
  generalize pS h 41 (rCopy (gS h 41) (gS h 38)) = h1 at s1 r1 cc
  have C1 := CQ_same (Fr_Same (Or.inl rfl) s1) H
  have cl := fun (Q : QT) => c_goHome (X := X) (d := d + 4) (h := h1) (x := nI s) (Q := Q) is41
  have s2 : Fr 41 h (pS h1 41 (rHome (gS h1 41) (nI s))) := ft s1 fp
  have r2 : Rep τ (gS (pS h1 41 (rHome (gS h1 41) (nI s))) 41) (aHome τ A (aN A) s) := by
    rw [gS_pS]
    exact aHome_rep hk hs (cq_a H) r1
  generalize pS h1 41 (rHome (gS h1 41) (nI s)) = h2 at s2 r2 cl
  have K2 := aHome_ok (g := s) hk (cq_a H)
  generalize aHome τ A (aN A) s = B at r2 K2
  obtain ⟨g, ⟨q1, q2⟩, e⟩ := q_loopI (fun i (g : HT) (Q : QT) => wq X (d + 5) 165 21 [some (.ref 1), some (.int (nI s)), some (.int (nI n)), some (.int (nI i))] [] g Q) (fun i g => Fr 41 h g ∧ Rep τ (gS g 41) (aIt τ B i)) n (by
    intro i hi g hg
    have C := CQ_same (Fr_Same (Or.inl rfl) hg.1) H
    obtain ⟨g1, f1, f2, f3⟩ := c_passF (X := X) (d := d) (a := 41) (cq_t C) (cq_f C) (it_ok hk K2 i) is41 hg.2
    refine ⟨g1, ⟨ft hg.1 f1, f2⟩, funext fun Q => ?_⟩
    have e1 : (nI i < nI n) = True := eq_true (nI_lt hi (by omega))
    rw [u165_21]
    simp only [u165_22, u165_23, u165_26, u165_27, u165_30, u165_31, u165_34, u165_37, u165_38, u165_41, eq_self, q_nl0, q_nlI, q_nlR, not_false_eq_true, q_nz0, q_nz1, q_zv0, q_zv1, q_tl1, q_tl0, q_wif, q_swc, q_swn, List.cons_append, List.nil_append, if_true, if_false, e10, e01, Bool.false_eq_true, sh_1, shT_0 hT, e1, cq_T C, p_1_4 (cq_p C), f3, nI_1]) h2 ⟨s2, r2⟩
  have K3 := it_ok hk K2 n
  have e0 : m_gI g 41 0 = nI (aN (aIt τ B n)) := q2.1.1.trans K3.1.1
  have C := CQ_same (Fr_Same (Or.inl rfl) q1) H
  refine ⟨g, q1, fun Q => ?_⟩
  simp only [u165_0, u165_1, u165_4, u165_5, u165_8, eq_self, q_nl0, q_nlI, q_nlR, not_false_eq_true, q_nz0, q_nz1, q_zv0, q_zv1, q_tl1, q_tl0, q_wif, q_swc, q_swn, List.cons_append, List.nil_append, if_true, if_false, e10, e01, Bool.false_eq_true, sh_1, sh_41, p_1_4 hp, p_1_3 hp, cc]
  simp only [u165_11, u165_12, u165_15, u165_16, u165_19, u165_20, eq_self, q_nl0, q_nlI, q_nlR, not_false_eq_true, q_nz0, q_nz1, q_zv0, q_zv1, q_tl1, q_tl0, q_wif, q_swc, q_swn, List.cons_append, List.nil_append, if_true, if_false, e10, e01, Bool.false_eq_true, sh_1, sh_41, p_1_4 (cq_p C1), cl]
  refine (congrFun e Q).trans ?_
  rw [u165_21]
  simp only [u165_22, u165_23, u165_44, u165_45, u165_48, u165_51, u165_54, u165_55, u165_58, u165_59, eq_self, q_nl0, q_nlI, q_nlR, not_false_eq_true, q_nz0, q_nz1, q_zv0, q_zv1, q_tl1, q_tl0, q_wif, q_swc, q_swn, List.cons_append, List.nil_append, if_true, if_false, e10, e01, Bool.false_eq_true, sh_1, sh_41, eq_false (nI_nlt (Nat.le_refl n) (by omega)), p_1_4 (cq_p C), e0, nI_0eq (aN_lt hk K3)]
  by_cases z : aN (aIt τ B n) = 0
  · simp only [z, if_true]
  · simp only [z, if_false]
