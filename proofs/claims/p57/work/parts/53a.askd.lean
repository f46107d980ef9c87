theorem a_bribe1 {X : XT} {d T N : Nat} {h : HT} {τ : CT} {A : Nat → Int32} {n : Nat} {w : Int32} (H : CQ h T τ N A) (hn1 : 1 ≤ n) (hn : n ≤ 60) (w1 : w = 1) : ∃ best, fL (miS (brP τ A n)) none (2 ^ τ 0 1) = some best ∧ best < 128 ∧ An X (d + 10) 164 [some (.ref 1), some (.int (nI n)), some (.int w), none, none] h (nI best) := by
  have w0 : ¬ w = 0 := by rw [w1]; decide
  have hp := cq_p H
  have hk := cq_k H
  have h7 := o_mn hk
  have h8 := p2_7 h7
  have hn8 := cq_n H
  have hno := (cq_a H).1.2
  have ix := cnt_in hn1 hn
  have hlt := fO_lt (miS_o (p := brP τ A n))
  have h0 : miS (brP τ A n) (aN A) none ≠ none := by
    unfold miS brP
    have e0 : aN (aHome τ A (aN A) (aN A)) = 0 := by
      rw [aHome_n hk (cq_a H)]
      exact self_and hn8
    rw [self_and hn8, aIt_0 hk (aHome_ok hk (cq_a H)) e0 n]
    exact Option.some_ne_none _
  obtain ⟨best, hbest⟩ := fO_some miS_n h0 (2 ^ τ 0 1) hno
  have hbl : best < 128 := by
    have := hlt _ _ hbest
    omega
  have cl : ∃ g, Same h (hP g (miP (some best))) ∧ ∃ l4, (fun Q : QT => wq X (d + 10) 164 18 [some (.ref 1), some (.int (nI n)), some (.int w), none, none] [] h Q) = fun Q => wq X (d + 10) 164 93 [some (.ref 1), some (.int (nI n)), some (.int w), some (.int (nI 128)), l4] [] (hP g (miP (some best))) Q := by
    obtain ⟨p, i1, e⟩ := q_loopI (fun i (p : HT × Option Value) (Q : QT) => wq X (d + 10) 164 27 [some (.ref 1), some (.int (nI n)), some (.int w), some (.int (nI i)), p.2] [] (hP p.1 (miP (fL (miS (brP τ A n)) none i))) Q) (fun _ p => Same h p.1) 128 (by
      intro i hi p hs
      have hl := hlt i
      rw [fL_s]
      generalize fL (miS (brP τ A n)) none i = o at hl ⊢
      have C : ∀ o, CQ (hP p.1 o) T τ N A := fun o => CQ_same (Same_tr hs Same_hP) H
      have e1 : (nI i < 128) = True := eq_true (nI_lt (b := 128) hi (by decide))
      have hpi := pcN_le i hi
      by_cases z : i &&& (127 ^^^ aN A) = 0
      · by_cases v : pWants (miP o) 0 (nI (pcN i)) = true
        · obtain ⟨g, f1, f2⟩ := c_ends (X := X) (d := d + 4) (C (miP o)) hi hn
          have eg := hP_fr f1
          have ct := fun (Q : QT) => c_take (X := X) (d := d + 8) (h := g) (Q := Q) (o := miP o) (s := nI i) (w := 0) (c := nI (pcN i))
          rw [eg, miP_take hi o (fun q hq => by have := hl q hq; omega)] at ct
          have hs2 := Same_tr (Same_tr hs Same_hP) (Fr_Same (Or.inl rfl) f1)
          have Cg := CQ_same hs2 H
          by_cases y : aN (aIt τ (aHome τ A (aN A) i) n) = 0
          · refine ⟨(g, some (.int (nI (pcN i)))), hs2, funext fun Q => ?_⟩
            have es : miS (brP τ A n) i o = miM i o := by
              refine if_pos ?_
              unfold brP
              rw [decide_eq_true z, decide_eq_true y]
              rfl
            rw [u164_27, es]
            simp only [u164_28, u164_31, u164_34, u164_35, u164_38, u164_40, u164_41, u164_42, u164_45, u164_48, u164_49, u164_50, u164_51, u164_54, u164_55, u164_58, u164_59, u164_61, u164_64, u164_67, u164_68, u164_69, u164_70, eq_self, q_nl0, q_nlI, q_nlR, not_false_eq_true, q_nz0, q_nz1, q_zv0, q_zv1, q_tl1, q_tl0, q_wif, q_swc, q_swn, List.cons_append, List.nil_append, if_true, if_false, e10, e01, Bool.false_eq_true, sh_1, sh_38, sh_178, e1, c_bitCount hi, p_1_3 (cq_p (C _)), cq_o (C _), nI_not _ hi _ hn8, nI_0eq (and_128 hi), eq_true z, p_1_9 (cq_p (C _)), c_wants, v, f2, eq_true y]
            simp only [u164_73, u164_76, u164_77, u164_80, u164_81, u164_82, u164_84, u164_87, u164_90, eq_self, q_nl0, q_nlI, q_nlR, not_false_eq_true, q_nz0, q_nz1, q_zv0, q_zv1, q_tl1, q_tl0, q_wif, q_swc, q_swn, List.cons_append, List.nil_append, if_true, if_false, e10, e01, Bool.false_eq_true, sh_1, sh_178, p_1_9 (cq_p Cg), ct, nI_1]
          · have es : miS (brP τ A n) i o = o := by
              refine if_neg ?_
              unfold brP
              rw [decide_eq_false y, Bool.and_false]
              decide
            refine ⟨(g, some (.int (nI (pcN i)))), hs2, funext fun Q => ?_⟩
            rw [u164_27, es]
            simp only [u164_28, u164_31, u164_34, u164_35, u164_38, u164_40, u164_41, u164_42, u164_45, u164_48, u164_49, u164_50, u164_51, u164_54, u164_55, u164_58, u164_59, u164_61, u164_64, u164_67, u164_68, u164_69, u164_70, eq_self, q_nl0, q_nlI, q_nlR, not_false_eq_true, q_nz0, q_nz1, q_zv0, q_zv1, q_tl1, q_tl0, q_wif, q_swc, q_swn, List.cons_append, List.nil_append, if_true, if_false, e10, e01, Bool.false_eq_true, sh_1, sh_38, sh_178, e1, c_bitCount hi, p_1_3 (cq_p (C _)), cq_o (C _), nI_not _ hi _ hn8, nI_0eq (and_128 hi), eq_true z, p_1_9 (cq_p (C _)), c_wants, v, f2, eq_false y]
            simp only [u164_73, u164_76, u164_77, u164_80, u164_81, u164_82, u164_84, u164_87, u164_90, eq_self, q_nl0, q_nlI, q_nlR, not_false_eq_true, q_nz0, q_nz1, q_zv0, q_zv1, q_tl1, q_tl0, q_wif, q_swc, q_swn, List.cons_append, List.nil_append, if_true, if_false, e10, e01, Bool.false_eq_true, nI_1]
            rw [eg]
        · refine ⟨(p.1, some (.int (nI (pcN i)))), hs, funext fun Q => ?_⟩
          have es : miS (brP τ A n) i o = o := by
            unfold miS
            split
            · cases o with
              | none => exact absurd rfl v
              | some q =>
                have hq := hl q rfl
                have hpq := pcN_le q (by omega)
                refine if_neg (fun t => v ?_)
                show (if (0 : Int32) < 0 then true else if (0 : Int32) = 0 then decide (nI (pcN i) < nI (pcN q)) else false) = true
                rw [if_neg (by decide), if_pos rfl]
                exact decide_eq_true (nI_lt t (by omega))
            · rfl
          rw [u164_27, es]
          simp only [u164_28, u164_31, u164_34, u164_35, u164_38, u164_40, u164_41, u164_42, u164_45, u164_48, u164_49, u164_50, u164_51, u164_54, u164_55, u164_58, u164_59, u164_61, u164_64, u164_87, u164_90, eq_self, q_nl0, q_nlI, q_nlR, not_false_eq_true, q_nz0, q_nz1, q_zv0, q_zv1, q_tl1, q_tl0, q_wif, q_swc, q_swn, List.cons_append, List.nil_append, if_true, if_false, e10, e01, Bool.false_eq_true, sh_1, sh_38, sh_178, e1, c_bitCount hi, p_1_3 (cq_p (C _)), cq_o (C _), nI_not _ hi _ hn8, nI_0eq (and_128 hi), eq_true z, p_1_9 (cq_p (C _)), c_wants, v, nI_1]
      · refine ⟨(p.1, some (.int (nI (pcN i)))), hs, funext fun Q => ?_⟩
        have es : miS (brP τ A n) i o = o := by
          refine if_neg ?_
          unfold brP
          rw [decide_eq_false z, Bool.false_and]
          decide
        rw [u164_27, es]
        simp only [u164_28, u164_31, u164_34, u164_35, u164_38, u164_40, u164_41, u164_42, u164_45, u164_48, u164_49, u164_50, u164_51, u164_87, u164_90, eq_self, q_nl0, q_nlI, q_nlR, not_false_eq_true, q_nz0, q_nz1, q_zv0, q_zv1, q_tl1, q_tl0, q_wif, q_swc, q_swn, List.cons_append, List.nil_append, if_true, if_false, e10, e01, Bool.false_eq_true, sh_1, sh_38, e1, c_bitCount hi, p_1_3 (cq_p (C _)), cq_o (C _), nI_not _ hi _ hn8, nI_0eq (and_128 hi), eq_false z, nI_1]) (h, none) Same_rf
    have hb2 : fL (miS (brP τ A n)) none 128 = some best := by
      rw [fL_to2 (s := miS (brP τ A n)) h8 (fun i o h1 h2 => if_neg (by
        unfold brP
        rw [decide_eq_false (fun z => by have := sub_lt h2 hno z; omega), Bool.false_and]
        decide)), hbest]
    refine ⟨p.1, Same_tr i1 Same_hP, p.2, funext fun Q => ?_⟩
    simp only [u164_18, u164_19, u164_22, u164_25, u164_26, eq_self, q_nl0, q_nlI, q_nlR, not_false_eq_true, q_nz0, q_nz1, q_zv0, q_zv1, q_tl1, q_tl0, q_wif, q_swc, q_swn, List.cons_append, List.nil_append, if_true, if_false, e10, e01, Bool.false_eq_true, sh_1, sh_178, p_1_9 hp, c_pClear]
    refine (congrFun e Q).trans ?_
    rw [hb2, u164_27]
    simp only [u164_28, u164_31, eq_self, q_nl0, q_nlI, q_nlR, not_false_eq_true, q_nz0, q_nz1, q_zv0, q_zv1, q_tl1, q_tl0, q_wif, q_swc, q_swn, List.cons_append, List.nil_append, if_true, if_false, e10, e01, Bool.false_eq_true, eq_false (show ¬ nI 128 < 128 by decide)]
  obtain ⟨gc, gc1, l4, ec⟩ := cl
  have pg : m_gR gc 1 9 = 178 := by
    have := p_1_9 (Same_p gc1 hp)
    exact this
  refine ⟨best, hbest, hbl, ?_⟩
  refine ⟨_, gc1, fun Q => ?_⟩
  simp only [u164_0, u164_1, u164_4, u164_7, u164_8, u164_11, u164_12, u164_13, u164_16, u164_17, eq_self, q_nl0, q_nlI, q_nlR, not_false_eq_true, q_nz0, q_nz1, q_zv0, q_zv1, q_tl1, q_tl0, q_wif, q_swc, q_swn, List.cons_append, List.nil_append, if_true, if_false, e10, e01, Bool.false_eq_true, c_isCount, ix, eq_false w0, eq_true w1]
  refine (congrFun ec Q).trans ?_
  simp only [u164_93, u164_94, u164_97, u164_98, u164_101, u164_104, u164_107, u164_108, u164_111, u164_114, eq_self, q_nl0, q_nlI, q_nlR, not_false_eq_true, q_nz0, q_nz1, q_zv0, q_zv1, q_tl1, q_tl0, q_wif, q_swc, q_swn, List.cons_append, List.nil_append, if_true, if_false, e10, e01, Bool.false_eq_true, sh_1, sh_178, eq_false w0, gR_hP, pg, gI_hP3, miP]
