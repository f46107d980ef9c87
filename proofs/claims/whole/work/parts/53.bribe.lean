/-! bribe -/
theorem and_n128 {a b : Nat} (h : a < 128) : a &&& (127 ^^^ b) < 128 := and_128 h
theorem aHome_n {τ : CT} {N g : Nat} {A : Nat → Int32} (H : cOk τ) (K : aOk τ N A) : aN (aHome τ A (aN A) g) = aN A &&& (127 ^^^ g) := by
  have h1 := and_n128 (b := g) (aN_lt H K)
  show (aHome τ A (aN A) g 14).toNatClampNeg = _
  rw [aHome_14]
  exact q_cl (by omega)
theorem aHome_ok {τ : CT} {N g : Nat} {A : Nat → Int32} (H : cOk τ) (K : aOk τ N A) : aOk τ N (aHome τ A (aN A) g) := by
  have h7 := o_mn H
  have hn := aHome_n (g := g) H K
  have hle : aN A &&& (127 ^^^ g) ≤ aN A := Nat.and_le_left
  have k1 := K.1.2
  refine ⟨⟨by rw [hn]; exact aHome_14, by rw [hn]; omega⟩, ?_, ?_, ?_⟩
  · rw [aHome_ge H (by omega)]
    exact K.2.1
  · rw [aHome_ge H (by omega)]
    exact K.2.2.1
  · obtain ⟨y, y1, y2, hd⟩ := K.2.2.2
    refine ⟨y, y1, by rw [aHome_ge H (by omega)]; exact y2, fun m hm => ?_⟩
    obtain ⟨z, z1, z2, z3⟩ := hd m hm
    rw [aHome_day H hm, hn, and_bit (by omega)]
    by_cases w : g.testBit m = true
    · rw [if_pos w]
      exact ⟨0, Nat.zero_le _, rfl, fun _ => rfl⟩
    · rw [if_neg w]
      refine ⟨z, z1, z2, fun v => z3 ?_⟩
      have w' : g.testBit m = false := by simpa using w
      rw [w'] at v
      simpa using v
theorem aHome_rep {τ : CT} {N g : Nat} {r : RS} {A : Nat → Int32} (H : cOk τ) (hg : g < 128) (K : aOk τ N A) (R : Rep τ r A) : Rep τ (rHome r (nI g)) (aHome τ A (aN A) g) := by
  have h7 := o_mn H
  have hn := aHome_n (g := g) H K
  refine ⟨⟨?_, ?_⟩, ?_, ?_⟩
  · show r.1 0 &&& (nI g ^^^ (-1)) = _
    rw [R.1.1, K.1.1, nI_not _ (aN_lt H K) _ hg, aHome_14]
  · rw [aHome_ge H (by omega), aHome_ge H (by omega), aHome_ge H (by omega), aHome_ge H (by omega), aHome_ge H (by omega)]
    exact R.1.2
  · intro m hm
    rw [aHome_ge H (by omega)]
    exact R.2.1 m hm
  · intro m hm hb
    rw [hn, and_bit (by omega)] at hb
    have hb2 := Bool.and_eq_true_iff.mp hb
    have hg2 : g.testBit m = false := by simpa using hb2.2
    rw [aHome_day H hm, hg2, if_neg Bool.false_ne_true]
    exact R.2.2 m hm hb2.1
/-- nobody is out: nobody will be -/
theorem aD_0 {τ : CT} {N : Nat} {A : Nat → Int32} (H : cOk τ) (K : aOk τ N A) (h : aN A = 0) : aN (aD τ A) = 0 := by
  have hf : ∀ k, sFolL τ 0 k = 0 := by
    intro k
    induction k with
    | zero => rfl
    | succ k ih =>
      unfold sFolL
      rw [if_neg (fun z => by
        have h1 : pcN 0 = 0 := rfl
        omega)]
      exact ih
  have hg : aG τ A = 0 := by
    unfold aG sFol
    rw [h, hf]
    rfl
  rw [aD_n H K, hg, Nat.zero_and]
theorem aIt_0 {τ : CT} {N : Nat} {A : Nat → Int32} (H : cOk τ) (K : aOk τ N A) (h : aN A = 0) : ∀ k, aN (aIt τ A k) = 0
  | 0 => h
  | k + 1 => aD_0 H (it_ok H K k) (aIt_0 H K h k)
def brP (τ : CT) (A : Nat → Int32) (n i : Nat) : Bool := decide (i &&& (127 ^^^ aN A) = 0) && decide (aN (aIt τ (aHome τ A (aN A) i) n) = 0)
theorem self_and {a : Nat} (h : a < 128) : a &&& (127 ^^^ a) = 0 := by
  apply Nat.eq_of_testBit_eq
  intro j
  rw [Nat.zero_testBit]
  by_cases w : j < 7
  · rw [and_bit w]
    cases a.testBit j <;> rfl
  · rw [Nat.testBit_and, bit_ge (k := 7) h (by omega)]
    rfl
theorem sub_lt {i n k : Nat} (hi : i < 128) (hn : n < 2 ^ k) (h : i &&& (127 ^^^ n) = 0) : i < 2 ^ k := by
  refine Nat.lt_pow_two_of_testBit i (fun j hj => ?_)
  by_cases w : j < 7
  · have h1 := congrArg (fun q => q.testBit j) h
    simp only [and_bit w, Nat.zero_testBit, bit_ge hn hj] at h1
    simpa using h1
  · exact bit_ge (k := 7) hi (by omega)
theorem c_ends {X : XT} {d T N s n : Nat} {h : HT} {τ : CT} {A : Nat → Int32} (H : CQ h T τ N A) (hs : s < 128) (hn : n ≤ 60) : ∃ g, Fr 41 h g ∧ ∀ Q : QT, wq X (d + 5) 165 0 [some (.ref 1), some (.int (nI s)), some (.int (nI n)), none] [] h Q = Q (some (.int (if aN (aIt τ (aHome τ A (aN A) s) n) = 0 then 1 else 0))) g := by
  have hp := cq_p H
  have hk := cq_k H
  have h7 := o_mn hk
  have hT := ct_T (cq_t H)
  have fp : ∀ {g : HT} {r : RS}, Fr 41 g (pS g 41 r) := fun {g r} => ⟨rfl, fun c k z _ => gI_pSo z⟩
  have ft : ∀ {g g' g'' : HT}, Fr 41 g g' → Fr 41 g' g'' → Fr 41 g g'' := fun a b => ⟨b.1.trans a.1, fun c k z y => (b.2 c k z y).trans (a.2 c k z y)⟩
  have s1 : Fr 41 h (pS h 41 (rCopy (gS h 41) (gS h 38))) := fp
  have r1 : Rep τ (gS (pS h 41 (rCopy (gS h 41) (gS h 38))) 41) A := by
    rw [gS_pS]
    exact Rep_copy hk (cq_r H)
  have cc := fun (Q : QT) => c_copy (X := X) (d := d + 4) (Q := Q) is41 is38 (by decide) hp
  generalize pS h 41 (rCopy (gS h 41) (gS h 38)) = h1 at s1 r1 cc
  have C1 := CQ_same (Fr_Same (Or.inl rfl) s1) H
  have cl := fun (Q : QT) => c_goHome (X := X) (d := d + 4) (h := h1) (x := nI s) (Q := Q) is41
  have s2 : Fr 41 h (pS h1 41 (rHome (gS h1 41) (nI s))) := ft s1 fp
  have r2 : Rep τ (gS (pS h1 41 (rHome (gS h1 41) (nI s))) 41) (aHome τ A (aN A) s) := by
    rw [gS_pS]
    exact aHome_rep hk hs (cq_a H) r1
  generalize pS h1 41 (rHome (gS h1 41) (nI s)) = h2 at s2 r2 cl
  have K2 := aHome_ok (g := s) hk (cq_a H)
  generalize aHome τ A (aN A) s = B at r2 K2
  obtain ⟨g, ⟨q1, q2⟩, e⟩ := q_loopI (fun i (g : HT) (Q : QT) => wq X (d + 5) 165 21 [some (.ref 1), some (.int (nI s)), some (.int (nI n)), some (.int (nI i))] [] g Q) (fun i g => Fr 41 h g ∧ Rep τ (gS g 41) (aIt τ B i)) n (by
    intro i hi g hg
    have C := CQ_same (Fr_Same (Or.inl rfl) hg.1) H
    obtain ⟨g1, f1, f2, f3⟩ := c_passF (X := X) (d := d) (a := 41) (cq_t C) (cq_f C) (it_ok hk K2 i) is41 hg.2
    refine ⟨g1, ⟨ft hg.1 f1, f2⟩, funext fun Q => ?_⟩
    have e1 : (nI i < nI n) = True := eq_true (nI_lt hi (by omega))
    rw [u165_21]
    simp only [u165_22, u165_23, u165_26, u165_27, u165_30, u165_31, u165_34, u165_37, u165_38, u165_41, eq_self, q_nl0, q_nlI, q_nlR, not_false_eq_true, q_nz0, q_nz1, q_zv0, q_zv1, q_tl1, q_tl0, q_wif, q_swc, q_swn, List.cons_append, List.nil_append, if_true, if_false, e10, e01, Bool.false_eq_true, sh_1, shT_0 hT, e1, cq_T C, p_1_4 (cq_p C), f3, nI_1]) h2 ⟨s2, r2⟩
  have K3 := it_ok hk K2 n
  have e0 : m_gI g 41 0 = nI (aN (aIt τ B n)) := q2.1.1.trans K3.1.1
  have C := CQ_same (Fr_Same (Or.inl rfl) q1) H
  refine ⟨g, q1, fun Q => ?_⟩
  simp only [u165_0, u165_1, u165_4, u165_5, u165_8, eq_self, q_nl0, q_nlI, q_nlR, not_false_eq_true, q_nz0, q_nz1, q_zv0, q_zv1, q_tl1, q_tl0, q_wif, q_swc, q_swn, List.cons_append, List.nil_append, if_true, if_false, e10, e01, Bool.false_eq_true, sh_1, sh_41, p_1_4 hp, p_1_3 hp, cc]
  simp only [u165_11, u165_12, u165_15, u165_16, u165_19, u165_20, eq_self, q_nl0, q_nlI, q_nlR, not_false_eq_true, q_nz0, q_nz1, q_zv0, q_zv1, q_tl1, q_tl0, q_wif, q_swc, q_swn, List.cons_append, List.nil_append, if_true, if_false, e10, e01, Bool.false_eq_true, sh_1, sh_41, p_1_4 (cq_p C1), cl]
  refine (congrFun e Q).trans ?_
  rw [u165_21]
  simp only [u165_22, u165_23, u165_44, u165_45, u165_48, u165_51, u165_54, u165_55, u165_58, u165_59, eq_self, q_nl0, q_nlI, q_nlR, not_false_eq_true, q_nz0, q_nz1, q_zv0, q_zv1, q_tl1, q_tl0, q_wif, q_swc, q_swn, List.cons_append, List.nil_append, if_true, if_false, e10, e01, Bool.false_eq_true, sh_1, sh_41, eq_false (nI_nlt (Nat.le_refl n) (by omega)), p_1_4 (cq_p C), e0, nI_0eq (aN_lt hk K3)]
  by_cases z : aN (aIt τ B n) = 0
  · simp only [z, if_true]
  · simp only [z, if_false]
theorem k_goHomeG {X : XT} {d b f N s : Nat} {g : HT} {τ : CT} {A : Nat → Int32} (K : KQ g b f τ N A) (hs : s < 128) : ∃ g', Al g g' ∧ KQ g' b f τ N (aHome τ A (aN A) s) ∧ (∀ k, m_gI g' 229 k = m_gI g 229 k) ∧ ∀ Q : QT, wq X (d + 1) 255 0 [some (.ref 195), some (.int (nI s)), none] [] g Q = Q none g' := by
  have e := fun (Q : QT) => k_goHome (X := X) (d := d) (P := m_gI g 226) (w := m_gI g 195 46) (o := m_gI g 195 48) (Q := Q) (mq_t K) (mq_n K) hs (mq_a K).1.1
  rw [hK_g K.2.2.2.1] at e
  exact ⟨hK g (aHome τ A (aN A) s) (m_gI g 226) (m_gI g 195 46) (m_gI g 195 48), Al_hK, KQ_al Al_hK K rfl (aHome_ok (mq_k K) (mq_a K)), fun k => rfl, e⟩
theorem b_bribe {X : XT} {d T b f N : Nat} {h : HT} {τ : CT} {A : Nat → Int32} (H : CQ h T τ N A) (K : KQ h b f τ N A) (x w : Int32) : Pr X (d + 10) 164 [some (.ref 1), some (.int x), some (.int w), none, none] 286 [some (.ref 195), some (.int x), some (.int w), none, none, none] h := by
  have hp := cq_p H
  have hk := cq_k H
  have h7 := o_mn hk
  have h8 := p2_7 h7
  have hn8 := cq_n H
  have hno := (cq_a H).1.2
  rcases cnt_cases x with ⟨n, hn1, hn, rfl, ix⟩ | ix
  · have hlt := fO_lt (miS_o (p := brP τ A n))
    have h0 : miS (brP τ A n) (aN A) none ≠ none := by
      unfold miS brP
      have e0 : aN (aHome τ A (aN A) (aN A)) = 0 := by
        rw [aHome_n hk (cq_a H)]
        exact self_and hn8
      rw [self_and hn8, aIt_0 hk (aHome_ok hk (cq_a H)) e0 n]
      exact Option.some_ne_none _
    obtain ⟨best, hbest⟩ := fO_some miS_n h0 (2 ^ τ 0 1) hno
    have hbl : best < 128 := by
      have := hlt _ _ hbest
      omega
    have cl : ∃ g, Same h (hP g (miP (some best))) ∧ ∃ l4, (fun Q : QT => wq X (d + 10) 164 18 [some (.ref 1), some (.int (nI n)), some (.int w), none, none] [] h Q) = fun Q => wq X (d + 10) 164 93 [some (.ref 1), some (.int (nI n)), some (.int w), some (.int (nI 128)), l4] [] (hP g (miP (some best))) Q := by
      obtain ⟨p, i1, e⟩ := q_loopI (fun i (p : HT × Option Value) (Q : QT) => wq X (d + 10) 164 27 [some (.ref 1), some (.int (nI n)), some (.int w), some (.int (nI i)), p.2] [] (hP p.1 (miP (fL (miS (brP τ A n)) none i))) Q) (fun _ p => Same h p.1) 128 (by
        intro i hi p hs
        have hl := hlt i
        rw [fL_s]
        generalize fL (miS (brP τ A n)) none i = o at hl ⊢
        have C : ∀ o, CQ (hP p.1 o) T τ N A := fun o => CQ_same (Same_tr hs Same_hP) H
        have e1 : (nI i < 128) = True := eq_true (nI_lt (b := 128) hi (by decide))
        have hpi := pcN_le i hi
        by_cases z : i &&& (127 ^^^ aN A) = 0
        · by_cases v : pWants (miP o) 0 (nI (pcN i)) = true
          · obtain ⟨g, f1, f2⟩ := c_ends (X := X) (d := d + 4) (C (miP o)) hi hn
            have eg := hP_fr f1
            have ct := fun (Q : QT) => c_take (X := X) (d := d + 8) (h := g) (Q := Q) (o := miP o) (s := nI i) (w := 0) (c := nI (pcN i))
            rw [eg, miP_take hi o (fun q hq => by have := hl q hq; omega)] at ct
            have hs2 := Same_tr (Same_tr hs Same_hP) (Fr_Same (Or.inl rfl) f1)
            have Cg := CQ_same hs2 H
            by_cases y : aN (aIt τ (aHome τ A (aN A) i) n) = 0
            · refine ⟨(g, some (.int (nI (pcN i)))), hs2, funext fun Q => ?_⟩
              have es : miS (brP τ A n) i o = miM i o := by
                refine if_pos ?_
                unfold brP
                rw [decide_eq_true z, decide_eq_true y]
                rfl
              rw [u164_27, es]
              simp only [u164_28, u164_31, u164_34, u164_35, u164_38, u164_40, u164_41, u164_42, u164_45, u164_48, u164_49, u164_50, u164_51, u164_54, u164_55, u164_58, u164_59, u164_61, u164_64, u164_67, u164_68, u164_69, u164_70, eq_self, q_nl0, q_nlI, q_nlR, not_false_eq_true, q_nz0, q_nz1, q_zv0, q_zv1, q_tl1, q_tl0, q_wif, q_swc, q_swn, List.cons_append, List.nil_append, if_true, if_false, e10, e01, Bool.false_eq_true, sh_1, sh_38, sh_178, e1, c_bitCount hi, p_1_3 (cq_p (C _)), cq_o (C _), nI_not _ hi _ hn8, nI_0eq (and_128 hi), eq_true z, p_1_9 (cq_p (C _)), c_wants, v, f2, eq_true y]
              simp only [u164_73, u164_76, u164_77, u164_80, u164_81, u164_82, u164_84, u164_87, u164_90, eq_self, q_nl0, q_nlI, q_nlR, not_false_eq_true, q_nz0, q_nz1, q_zv0, q_zv1, q_tl1, q_tl0, q_wif, q_swc, q_swn, List.cons_append, List.nil_append, if_true, if_false, e10, e01, Bool.false_eq_true, sh_1, sh_178, p_1_9 (cq_p Cg), ct, nI_1]
            · have es : miS (brP τ A n) i o = o := by
                refine if_neg ?_
                unfold brP
                rw [decide_eq_false y, Bool.and_false]
                decide
              refine ⟨(g, some (.int (nI (pcN i)))), hs2, funext fun Q => ?_⟩
              rw [u164_27, es]
              simp only [u164_28, u164_31, u164_34, u164_35, u164_38, u164_40, u164_41, u164_42, u164_45, u164_48, u164_49, u164_50, u164_51, u164_54, u164_55, u164_58, u164_59, u164_61, u164_64, u164_67, u164_68, u164_69, u164_70, eq_self, q_nl0, q_nlI, q_nlR, not_false_eq_true, q_nz0, q_nz1, q_zv0, q_zv1, q_tl1, q_tl0, q_wif, q_swc, q_swn, List.cons_append, List.nil_append, if_true, if_false, e10, e01, Bool.false_eq_true, sh_1, sh_38, sh_178, e1, c_bitCount hi, p_1_3 (cq_p (C _)), cq_o (C _), nI_not _ hi _ hn8, nI_0eq (and_128 hi), eq_true z, p_1_9 (cq_p (C _)), c_wants, v, f2, eq_false y]
              simp only [u164_73, u164_76, u164_77, u164_80, u164_81, u164_82, u164_84, u164_87, u164_90, eq_self, q_nl0, q_nlI, q_nlR, not_false_eq_true, q_nz0, q_nz1, q_zv0, q_zv1, q_tl1, q_tl0, q_wif, q_swc, q_swn, List.cons_append, List.nil_append, if_true, if_false, e10, e01, Bool.false_eq_true, nI_1]
              rw [eg]
          · refine ⟨(p.1, some (.int (nI (pcN i)))), hs, funext fun Q => ?_⟩
            have es : miS (brP τ A n) i o = o := by
              unfold miS
              split
              · cases o with
                | none => exact absurd rfl v
                | some q =>
                  have hq := hl q rfl
                  have hpq := pcN_le q (by omega)
                  refine if_neg (fun t => v ?_)
                  show (if (0 : Int32) < 0 then true else if (0 : Int32) = 0 then decide (nI (pcN i) < nI (pcN q)) else false) = true
                  rw [if_neg (by decide), if_pos rfl]
                  exact decide_eq_true (nI_lt t (by omega))
              · rfl
            rw [u164_27, es]
            simp only [u164_28, u164_31, u164_34, u164_35, u164_38, u164_40, u164_41, u164_42, u164_45, u164_48, u164_49, u164_50, u164_51, u164_54, u164_55, u164_58, u164_59, u164_61, u164_64, u164_87, u164_90, eq_self, q_nl0, q_nlI, q_nlR, not_false_eq_true, q_nz0, q_nz1, q_zv0, q_zv1, q_tl1, q_tl0, q_wif, q_swc, q_swn, List.cons_append, List.nil_append, if_true, if_false, e10, e01, Bool.false_eq_true, sh_1, sh_38, sh_178, e1, c_bitCount hi, p_1_3 (cq_p (C _)), cq_o (C _), nI_not _ hi _ hn8, nI_0eq (and_128 hi), eq_true z, p_1_9 (cq_p (C _)), c_wants, v, nI_1]
        · refine ⟨(p.1, some (.int (nI (pcN i)))), hs, funext fun Q => ?_⟩
          have es : miS (brP τ A n) i o = o := by
            refine if_neg ?_
            unfold brP
            rw [decide_eq_false z, Bool.false_and]
            decide
          rw [u164_27, es]
          simp only [u164_28, u164_31, u164_34, u164_35, u164_38, u164_40, u164_41, u164_42, u164_45, u164_48, u164_49, u164_50, u164_51, u164_87, u164_90, eq_self, q_nl0, q_nlI, q_nlR, not_false_eq_true, q_nz0, q_nz1, q_zv0, q_zv1, q_tl1, q_tl0, q_wif, q_swc, q_swn, List.cons_append, List.nil_append, if_true, if_false, e10, e01, Bool.false_eq_true, sh_1, sh_38, e1, c_bitCount hi, p_1_3 (cq_p (C _)), cq_o (C _), nI_not _ hi _ hn8, nI_0eq (and_128 hi), eq_false z, nI_1]) (h, none) Same_rf
      have hb2 : fL (miS (brP τ A n)) none 128 = some best := by
        rw [fL_to2 (s := miS (brP τ A n)) h8 (fun i o h1 h2 => if_neg (by
          unfold brP
          rw [decide_eq_false (fun z => by have := sub_lt h2 hno z; omega), Bool.false_and]
          decide)), hbest]
      refine ⟨p.1, Same_tr i1 Same_hP, p.2, funext fun Q => ?_⟩
      simp only [u164_18, u164_19, u164_22, u164_25, u164_26, eq_self, q_nl0, q_nlI, q_nlR, not_false_eq_true, q_nz0, q_nz1, q_zv0, q_zv1, q_tl1, q_tl0, q_wif, q_swc, q_swn, List.cons_append, List.nil_append, if_true, if_false, e10, e01, Bool.false_eq_true, sh_1, sh_178, p_1_9 hp, c_pClear]
      refine (congrFun e Q).trans ?_
      rw [hb2, u164_27]
      simp only [u164_28, u164_31, eq_self, q_nl0, q_nlI, q_nlR, not_false_eq_true, q_nz0, q_nz1, q_zv0, q_zv1, q_tl1, q_tl0, q_wif, q_swc, q_swn, List.cons_append, List.nil_append, if_true, if_false, e10, e01, Bool.false_eq_true, eq_false (show ¬ nI 128 < 128 by decide)]
    have ml : ∀ (g : HT), KQ g b f τ N A → ∃ g', Same g g' ∧ ∃ l5, (fun Q : QT => wq X (d + 10) 286 21 [some (.ref 195), some (.int (nI n)), some (.int w), none, none, none] [] g Q) = fun Q => wq X (d + 10) 286 121 [some (.ref 195), some (.int (nI n)), some (.int w), some (.int (nI best)), some (.int (nI (2 ^ τ 0 1))), l5] [] g' Q := by
      intro g0 K0
      obtain ⟨p, i1, e⟩ := q_loopI (fun i (p : HT × Option Value) (Q : QT) => wq X (d + 10) 286 26 [some (.ref 195), some (.int (nI n)), some (.int w), some (.int (oI (fL (miS (brP τ A n)) none i))), some (.int (nI i)), p.2] [] p.1 Q) (fun _ p => Same g0 p.1) (2 ^ τ 0 1) (by
        intro i hi p hs
        have K' := KQ_same hs K0
        have hl := hlt i
        rw [fL_s]
        generalize fL (miS (brP τ A n)) none i = o at hl ⊢
        have hi' : i < 128 := by omega
        have hpi := pcN_le i hi'
        -- the days tried
        have try1 : ∀ lo : Int32, ∃ g', Same p.1 g' ∧ (fun (Q : QT) => wq X (d + 10) 286 69 [some (.ref 195), some (.int (nI n)), some (.int w), some (.int lo), some (.int (nI i)), p.2] [] p.1 Q) = fun Q => wq X (d + 10) 286 115 [some (.ref 195), some (.int (nI n)), some (.int w), some (.int (if aN (aIt τ (aHome τ A (aN A) i) n) = 0 then nI i else lo)), some (.int (nI i)), some (.int (nI n))] [] g' Q := by
          intro lo
          obtain ⟨g1, a1, a2, a3⟩ := k_keepG (X := X) (d := d + 9) K'
          have K1 := KQ_same a1 K'
          obtain ⟨g2, c1, c2, c3, c4⟩ := k_goHomeG (X := X) (d := d + 8) K1 hi'
          obtain ⟨g3, ⟨b1, b2, b3⟩, e3⟩ := q_loopI (fun j (h : HT) (Q : QT) => wq X (d + 10) 286 82 [some (.ref 195), some (.int (nI n)), some (.int w), some (.int lo), some (.int (nI i)), some (.int (nI j))] [] h Q) (fun j h => Al p.1 h ∧ Kept h A ∧ KQ h b f τ (N + j) (aIt τ (aHome τ A (aN A) i) j)) n (by
            intro j hj h hh
            obtain ⟨b1, b2, b3⟩ := hh
            obtain ⟨h', d1, d2, d3, _, d5⟩ := k_dayG (X := X) (d := d + 3) b3
            refine ⟨h', ⟨Al_tr b1 d1, fun k hk => (d3 k).trans (b2 k hk), d2⟩, funext fun Q => ?_⟩
            have e1 : (nI j < nI n) = True := eq_true (nI_lt (by omega) (by omega))
            rw [u286_82]
            simp only [u286_84, u286_85, u286_88, u286_89, u286_92, u286_95, eq_self, q_nl0, q_nlI, q_nlR, not_false_eq_true, q_nz0, q_nz1, q_zv0, q_zv1, q_tl1, q_tl0, q_wif, q_swc, q_swn, List.cons_append, List.nil_append, if_true, if_false, e10, e01, Bool.false_eq_true, sh_195, e1, d5, nI_1]) g2 ⟨Al_tr (Al_of a1) c1, fun k hk => (c3 k).trans (a2 k hk), c2⟩
          obtain ⟨g4, f1, f2⟩ := k_bringG (X := X) (d := d + 9) K' b1 b2 b3 (fun k hk2 => by rw [it_ge hk (Or.inl hk2) n, aHome_ge hk (by omega)])
          refine ⟨g4, f1, funext fun Q => ?_⟩
          simp only [u286_69, u286_70, u286_73, u286_74, u286_76, eq_self, q_nl0, q_nlI, q_nlR, not_false_eq_true, q_nz0, q_nz1, q_zv0, q_zv1, q_tl1, q_tl0, q_wif, q_swc, q_swn, List.cons_append, List.nil_append, if_true, if_false, e10, e01, Bool.false_eq_true, sh_195, a3, c4]
          simp only [u286_79, u286_80, eq_self, q_nl0, q_nlI, q_nlR, not_false_eq_true, q_nz0, q_nz1, q_zv0, q_zv1, q_tl1, q_tl0, q_wif, q_swc, q_swn, List.cons_append, List.nil_append, if_true, if_false, e10, e01, Bool.false_eq_true]
          refine (congrFun e3 Q).trans ?_
          rw [u286_82]
          simp only [u286_84, u286_85, u286_98, u286_99, u286_102, u286_104, u286_105, u286_108, u286_110, u286_111, u286_112, eq_self, q_nl0, q_nlI, q_nlR, not_false_eq_true, q_nz0, q_nz1, q_zv0, q_zv1, q_tl1, q_tl0, q_wif, q_swc, q_swn, List.cons_append, List.nil_append, if_true, if_false, e10, e01, Bool.false_eq_true, sh_195, sh_227, eq_false (nI_nlt (Nat.le_refl n) (by omega)), p_195_47 (mq_p b3), in14, cl14, mq_o b3, nI_0eq (mq_n b3), f2]
          by_cases z : aN (aIt τ (aHome τ A (aN A) i) n) = 0
          · simp only [z, if_true]
          · simp only [z, if_false]
        by_cases z : i &&& (127 ^^^ aN A) = 0
        · by_cases v : pWants (miP o) 0 (nI (pcN i)) = true
          · obtain ⟨g', t1, t2⟩ := try1 (oI o)
            have hs2 := Same_tr hs t1
            refine ⟨(g', some (.int (nI n))), hs2, funext fun Q => ?_⟩
            have es : miS (brP τ A n) i o = if aN (aIt τ (aHome τ A (aN A) i) n) = 0 then some i else o := by
              unfold miS brP
              rw [decide_eq_true z, Bool.true_and]
              have em : miM i o = some i := by
                cases o with
                | none => rfl
                | some q =>
                  have hq := hl q rfl
                  have hpq := pcN_le q (by omega)
                  have v2 : (if (0 : Int32) < 0 then true else if (0 : Int32) = 0 then decide (nI (pcN i) < nI (pcN q)) else false) = true := v
                  rw [if_neg (by decide), if_pos rfl] at v2
                  have v3 := of_decide_eq_true v2
                  rw [nI_ltB (by omega) (by omega)] at v3
                  exact if_pos v3
              rw [em]
              simp only [decide_eq_true_eq]
            have eo : oI (if aN (aIt τ (aHome τ A (aN A) i) n) = 0 then some i else o) = if aN (aIt τ (aHome τ A (aN A) i) n) = 0 then nI i else oI o := by
              split <;> rfl
            have go : wq X (d + 10) 286 26 [some (.ref 195), some (.int (nI n)), some (.int w), some (.int (oI o)), some (.int (nI i)), p.2] [] p.1 Q = wq X (d + 10) 286 69 [some (.ref 195), some (.int (nI n)), some (.int w), some (.int (oI o)), some (.int (nI i)), p.2] [] p.1 Q := by
              rw [u286_26]
              cases o with
              | none => simp only [u286_28, u286_29, u286_32, u286_35, u286_37, u286_38, u286_41, u286_43, u286_44, u286_45, u286_46, u286_47, u286_50, u286_51, u286_54, u286_56, u286_59, u286_60, u286_63, u286_66, eq_self, q_nl0, q_nlI, q_nlR, not_false_eq_true, q_nz0, q_nz1, q_zv0, q_zv1, q_tl1, q_tl0, q_wif, q_swc, q_swn, List.cons_append, List.nil_append, if_true, if_false, e10, e01, Bool.false_eq_true, sh_195, sh_227, k_everybody (mq_t K'), le_all h7 hi, p_195_47 (mq_p K'), in14, cl14, mq_o K', nI_not _ hi' _ hn8, nI_0eq (and_128 hi'), eq_true z, oI, m1_lt0]
              | some q =>
                have hq := hl q rfl
                have hq' : q < 128 := by omega
                have hpq := pcN_le q hq'
                have v2 : (if (0 : Int32) < 0 then true else if (0 : Int32) = 0 then decide (nI (pcN i) < nI (pcN q)) else false) = true := v
                rw [if_neg (by decide), if_pos rfl] at v2
                have v3 := of_decide_eq_true v2
                simp only [u286_28, u286_29, u286_32, u286_35, u286_37, u286_38, u286_41, u286_43, u286_44, u286_45, u286_46, u286_47, u286_50, u286_51, u286_54, u286_56, u286_59, u286_60, u286_63, u286_66, eq_self, q_nl0, q_nlI, q_nlR, not_false_eq_true, q_nz0, q_nz1, q_zv0, q_zv1, q_tl1, q_tl0, q_wif, q_swc, q_swn, List.cons_append, List.nil_append, if_true, if_false, e10, e01, Bool.false_eq_true, sh_195, sh_227, k_everybody (mq_t K'), le_all h7 hi, p_195_47 (mq_p K'), in14, cl14, mq_o K', nI_not _ hi' _ hn8, nI_0eq (and_128 hi'), eq_true z, oI, oI_lt0 (show q < 2 ^ 31 by omega), k_bitsOf hi', k_bitsOf hq', eq_true v3]
            rw [go, congrFun t2 Q, es, eo]
            simp only [u286_115, u286_118, eq_self, q_nl0, q_nlI, q_nlR, not_false_eq_true, q_nz0, q_nz1, q_zv0, q_zv1, q_tl1, q_tl0, q_wif, q_swc, q_swn, List.cons_append, List.nil_append, if_true, if_false, e10, e01, Bool.false_eq_true, nI_1]
          · refine ⟨p, hs, funext fun Q => ?_⟩
            have es : miS (brP τ A n) i o = o := by
              unfold miS
              split
              · cases o with
                | none => exact absurd rfl v
                | some q =>
                  have hq := hl q rfl
                  have hpq := pcN_le q (by omega)
                  refine if_neg (fun t => v ?_)
                  show (if (0 : Int32) < 0 then true else if (0 : Int32) = 0 then decide (nI (pcN i) < nI (pcN q)) else false) = true
                  rw [if_neg (by decide), if_pos rfl]
                  exact decide_eq_true (nI_lt t (by omega))
              · rfl
            rw [u286_26, es]
            cases o with
            | none => exact absurd rfl v
            | some q =>
              have hq := hl q rfl
              have hq' : q < 128 := by omega
              have hpq := pcN_le q hq'
              have v3 : ¬ nI (pcN i) < nI (pcN q) := fun t => v (by
                show (if (0 : Int32) < 0 then true else if (0 : Int32) = 0 then decide (nI (pcN i) < nI (pcN q)) else false) = true
                rw [if_neg (by decide), if_pos rfl]
                exact decide_eq_true t)
              simp only [u286_28, u286_29, u286_32, u286_35, u286_37, u286_38, u286_41, u286_43, u286_44, u286_45, u286_46, u286_47, u286_50, u286_51, u286_54, u286_56, u286_59, u286_60, u286_63, u286_66, u286_115, u286_118, eq_self, q_nl0, q_nlI, q_nlR, not_false_eq_true, q_nz0, q_nz1, q_zv0, q_zv1, q_tl1, q_tl0, q_wif, q_swc, q_swn, List.cons_append, List.nil_append, if_true, if_false, e10, e01, Bool.false_eq_true, sh_195, sh_227, k_everybody (mq_t K'), le_all h7 hi, p_195_47 (mq_p K'), in14, cl14, mq_o K', nI_not _ hi' _ hn8, nI_0eq (and_128 hi'), eq_true z, oI, oI_lt0 (show q < 2 ^ 31 by omega), k_bitsOf hi', k_bitsOf hq', eq_false v3, nI_1]
        · refine ⟨p, hs, funext fun Q => ?_⟩
          have es : miS (brP τ A n) i o = o := by
            refine if_neg ?_
            unfold brP
            rw [decide_eq_false z, Bool.false_and]
            decide
          rw [u286_26, es]
          simp only [u286_28, u286_29, u286_32, u286_35, u286_37, u286_38, u286_41, u286_43, u286_44, u286_45, u286_46, u286_47, u286_115, u286_118, eq_self, q_nl0, q_nlI, q_nlR, not_false_eq_true, q_nz0, q_nz1, q_zv0, q_zv1, q_tl1, q_tl0, q_wif, q_swc, q_swn, List.cons_append, List.nil_append, if_true, if_false, e10, e01, Bool.false_eq_true, sh_195, sh_227, k_everybody (mq_t K'), le_all h7 hi, p_195_47 (mq_p K'), in14, cl14, mq_o K', nI_not _ hi' _ hn8, nI_0eq (and_128 hi'), eq_false z, nI_1]) (g0, none) Same_rf
      have K' := KQ_same i1 K0
      refine ⟨p.1, i1, p.2, funext fun Q => ?_⟩
      simp only [u286_21, u286_22, u286_23, u286_24, eq_self, q_nl0, q_nlI, q_nlR, not_false_eq_true, q_nz0, q_nz1, q_zv0, q_zv1, q_tl1, q_tl0, q_wif, q_swc, q_swn, List.cons_append, List.nil_append, if_true, if_false, e10, e01, Bool.false_eq_true]
      refine (congrFun e Q).trans ?_
      rw [hbest, u286_26]
      simp only [u286_28, u286_29, u286_32, eq_self, q_nl0, q_nlI, q_nlR, not_false_eq_true, q_nz0, q_nz1, q_zv0, q_zv1, q_tl1, q_tl0, q_wif, q_swc, q_swn, List.cons_append, List.nil_append, if_true, if_false, e10, e01, Bool.false_eq_true, sh_195, k_everybody (mq_t K'), gt_all h7, oI]
    obtain ⟨gc, gc1, l4, ec⟩ := cl
    have pg : m_gR gc 1 9 = 178 := by
      have := p_1_9 (Same_p gc1 hp)
      exact this
    have ki := fun (Q : QT) (h : HT) => k_isIn (X := X) (d := d + 9) (h := h) (Q := Q) (x := nI n) (a := 1) (b := 60)
    simp only [ix] at ki
    rcases w01 w with ⟨w0, wi⟩ | ⟨w0, w1, wi⟩ | ⟨w0, w1, wi⟩
    · refine Pr_of (nI (pcN best)) ⟨_, gc1, fun Q => ?_⟩ (fun g a => ?_)
      · simp only [u164_0, u164_1, u164_4, u164_7, u164_8, u164_11, u164_12, u164_13, u164_16, u164_17, eq_self, q_nl0, q_nlI, q_nlR, not_false_eq_true, q_nz0, q_nz1, q_zv0, q_zv1, q_tl1, q_tl0, q_wif, q_swc, q_swn, List.cons_append, List.nil_append, if_true, if_false, e10, e01, Bool.false_eq_true, c_isCount, ix, eq_true w0]
        refine (congrFun ec Q).trans ?_
        simp only [u164_93, u164_94, u164_97, u164_98, u164_101, u164_104, u164_107, u164_108, u164_111, u164_114, eq_self, q_nl0, q_nlI, q_nlR, not_false_eq_true, q_nz0, q_nz1, q_zv0, q_zv1, q_tl1, q_tl0, q_wif, q_swc, q_swn, List.cons_append, List.nil_append, if_true, if_false, e10, e01, Bool.false_eq_true, sh_1, sh_178, eq_true w0, gR_hP, pg, gI_hP2, miP]
      · obtain ⟨g', g1, l5, em⟩ := ml g (KQ_same a K)
        refine ⟨g', g1, fun Q => ?_⟩
        simp only [u286_0, u286_1, u286_2, u286_4, u286_7, u286_10, u286_11, u286_12, u286_13, u286_16, eq_self, q_nl0, q_nlI, q_nlR, not_false_eq_true, q_nz0, q_nz1, q_zv0, q_zv1, q_tl1, q_tl0, q_wif, q_swc, q_swn, List.cons_append, List.nil_append, if_true, if_false, e10, e01, Bool.false_eq_true, ki, k_isIn, wi]
        refine (congrFun em Q).trans ?_
        simp only [u286_121, u286_122, u286_125, u286_126, u286_129, u286_132, u286_133, eq_self, q_nl0, q_nlI, q_nlR, not_false_eq_true, q_nz0, q_nz1, q_zv0, q_zv1, q_tl1, q_tl0, q_wif, q_swc, q_swn, List.cons_append, List.nil_append, if_true, if_false, e10, e01, Bool.false_eq_true, eq_true w0, k_bitsOf hbl]
    · refine Pr_of (nI best) ⟨_, gc1, fun Q => ?_⟩ (fun g a => ?_)
      · simp only [u164_0, u164_1, u164_4, u164_7, u164_8, u164_11, u164_12, u164_13, u164_16, u164_17, eq_self, q_nl0, q_nlI, q_nlR, not_false_eq_true, q_nz0, q_nz1, q_zv0, q_zv1, q_tl1, q_tl0, q_wif, q_swc, q_swn, List.cons_append, List.nil_append, if_true, if_false, e10, e01, Bool.false_eq_true, c_isCount, ix, eq_false w0, eq_true w1]
        refine (congrFun ec Q).trans ?_
        simp only [u164_93, u164_94, u164_97, u164_98, u164_101, u164_104, u164_107, u164_108, u164_111, u164_114, eq_self, q_nl0, q_nlI, q_nlR, not_false_eq_true, q_nz0, q_nz1, q_zv0, q_zv1, q_tl1, q_tl0, q_wif, q_swc, q_swn, List.cons_append, List.nil_append, if_true, if_false, e10, e01, Bool.false_eq_true, sh_1, sh_178, eq_false w0, gR_hP, pg, gI_hP3, miP]
      · obtain ⟨g', g1, l5, em⟩ := ml g (KQ_same a K)
        refine ⟨g', g1, fun Q => ?_⟩
        simp only [u286_0, u286_1, u286_2, u286_4, u286_7, u286_10, u286_11, u286_12, u286_13, u286_16, eq_self, q_nl0, q_nlI, q_nlR, not_false_eq_true, q_nz0, q_nz1, q_zv0, q_zv1, q_tl1, q_tl0, q_wif, q_swc, q_swn, List.cons_append, List.nil_append, if_true, if_false, e10, e01, Bool.false_eq_true, ki, k_isIn, wi]
        refine (congrFun em Q).trans ?_
        simp only [u286_121, u286_122, u286_125, u286_126, u286_129, u286_132, u286_133, eq_self, q_nl0, q_nlI, q_nlR, not_false_eq_true, q_nz0, q_nz1, q_zv0, q_zv1, q_tl1, q_tl0, q_wif, q_swc, q_swn, List.cons_append, List.nil_append, if_true, if_false, e10, e01, Bool.false_eq_true, eq_false w0]
    · refine Pr_pure (-1) (fun Q => ?_) (fun Q => ?_)
      · simp only [u164_0, u164_1, u164_4, u164_7, u164_8, u164_11, u164_12, u164_13, u164_16, u164_17, eq_self, q_nl0, q_nlI, q_nlR, not_false_eq_true, q_nz0, q_nz1, q_zv0, q_zv1, q_tl1, q_tl0, q_wif, q_swc, q_swn, List.cons_append, List.nil_append, if_true, if_false, e10, e01, Bool.false_eq_true, c_isCount, ix, eq_false w0, eq_false w1]
      · simp only [u286_0, u286_1, u286_2, u286_4, u286_7, u286_10, u286_11, u286_12, u286_13, u286_16, u286_19, u286_20, eq_self, q_nl0, q_nlI, q_nlR, not_false_eq_true, q_nz0, q_nz1, q_zv0, q_zv1, q_tl1, q_tl0, q_wif, q_swc, q_swn, List.cons_append, List.nil_append, if_true, if_false, e10, e01, Bool.false_eq_true, ki, k_isIn, wi]
  · refine Pr_pure (-1) (fun Q => ?_) (fun Q => ?_)
    · simp only [u164_0, u164_1, u164_4, u164_7, u164_8, u164_11, u164_12, u164_13, u164_16, u164_17, eq_self, q_nl0, q_nlI, q_nlR, not_false_eq_true, q_nz0, q_nz1, q_zv0, q_zv1, q_tl1, q_tl0, q_wif, q_swc, q_swn, List.cons_append, List.nil_append, if_true, if_false, e10, e01, Bool.false_eq_true, c_isCount, ix]
    · have ki := fun (Q : QT) (h : HT) => k_isIn (X := X) (d := d + 9) (h := h) (Q := Q) (x := x) (a := 1) (b := 60)
      simp only [ix] at ki
      simp only [u286_0, u286_1, u286_2, u286_4, u286_7, u286_10, u286_11, u286_12, u286_13, u286_16, u286_19, u286_20, eq_self, q_nl0, q_nlI, q_nlR, not_false_eq_true, q_nz0, q_nz1, q_zv0, q_zv1, q_tl1, q_tl0, q_wif, q_swc, q_swn, List.cons_append, List.nil_append, if_true, if_false, e10, e01, Bool.false_eq_true, ki]
