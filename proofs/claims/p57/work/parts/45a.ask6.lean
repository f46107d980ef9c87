theorem a_stop1 {X : XT} {d T N : Nat} {h : HT} {τ : CT} {A : Nat → Int32} {c : Nat} {w : Int32} (H : CQ h T τ N A) (hcs : c < 2 ^ τ 0 0) (w1 : w = 1) : An X (d + 10) 137 [some (.ref 1), some (.int (nI c)), some (.int w), none, none, none] h (oI (fL (miS (soP τ c (aN A))) none (2 ^ τ 0 1))) := by
  have w0 : ¬ w = 0 := by rw [w1]; decide
  have h7 := o_mn (cq_k H)
  have h4 := o_cr (cq_k H)
  have hp := cq_p H
  have hn := cq_n H
  have hT := ct_T (cq_t H)
  have h8 := p2_7 h7
  have h16 : 2 ^ τ 0 0 ≤ 128 := p2_7 (by omega)
  have h01 : 0 < 2 ^ τ 0 0 := Nat.two_pow_pos _
  have hc := sCity_lt (n := aN A) (cq_k H)
  have ea : (1 : Int32) <<< (nI (τ 0 0) &&& 31) - 1 = nI (2 ^ τ 0 0 - 1) := nI_all _ (by omega)
  have zc := set_in (k := τ 0 0) (by omega) hcs
  have hc8 : c < 128 := by omega
  have hlt := fO_lt (miS_o (p := soP τ c (aN A)))
  have cl : ∀ (Q : QT) (w : Int32), wq X (d + 10) 137 31 [some (.ref 1), some (.int (nI c)), some (.int w), some (.int (nI (2 ^ τ 0 0 - 1))), none, none] [] h Q = wq X (d + 10) 137 110 [some (.ref 1), some (.int (nI c)), some (.int w), some (.int (nI (2 ^ τ 0 0 - 1))), some (.int (nI (sCity τ (aN A)))), some (.int (nI 128))] [] (hP h (miP (fL (miS (soP τ c (aN A))) none (2 ^ τ 0 1)))) Q := by
    intro Q w
    simp only [u137_31, u137_32, u137_35, u137_38, u137_39, u137_42, u137_44, u137_45, eq_self, q_nl0, q_nlI, q_nlR, not_false_eq_true, q_nz0, q_nz1, q_zv0, q_zv1, q_tl1, q_tl0, q_wif, q_swc, q_swn, List.cons_append, List.nil_append, if_true, if_false, e10, e01, Bool.false_eq_true, sh_1, sh_38, sh_178, p_1_9 hp, c_pClear, c_inCity (CQ_same Same_hP H)]
    refine (q_loop (fun i => wq X (d + 10) 137 47 [some (.ref 1), some (.int (nI c)), some (.int w), some (.int (nI (2 ^ τ 0 0 - 1))), some (.int (nI (sCity τ (aN A)))), some (.int (nI i))] [] (hP h (miP (fL (miS (soP τ c (aN A))) none i))) Q) 128 ?_).trans ?_
    · intro i hi
      have hl := hlt i
      show wq X (d + 10) 137 47 _ _ _ _ = _
      rw [u137_47, fL_s]
      generalize fL (miS (soP τ c (aN A))) none i = o at hl ⊢
      have H' : ∀ p, CQ (hP h p) T τ N A := fun p => CQ_same Same_hP H
      have e1 : (nI i < 128) = True := eq_true (nI_lt (b := 128) hi (by decide))
      have hu := or_128 hn hi
      unfold miS soP
      simp only [u137_49, u137_52, u137_55, u137_57, u137_59, u137_60, u137_61, u137_62, u137_65, u137_66, u137_67, u137_70, u137_71, u137_74, u137_77, u137_79, u137_80, u137_83, u137_84, u137_85, u137_86, u137_89, u137_90, u137_93, u137_95, u137_96, u137_98, u137_101, u137_104, u137_107, eq_self, q_nl0, q_nlI, q_nlR, not_false_eq_true, q_nz0, q_nz1, q_zv0, q_zv1, q_tl1, q_tl0, q_wif, q_swc, q_swn, List.cons_append, List.nil_append, if_true, if_false, e10, e01, Bool.false_eq_true, sh_1, sh_38, sh_178, shT_0 hT, e1, nI_not _ hi _ hc, nI_0eq (and_128 hi), cq_T (H' _), p_1_3 (cq_p (H' _)), p_1_9 (cq_p (H' _)), cq_o (H' _), nI_or, c_shortBy (cq_t (H' _)) hu, nI_not _ hc8 _ (s128 (cq_k H) _), nI_0eq (and_128 hc8), c_bitCount hi, c_take, miP_take hi o (fun q hq => by have := hl q hq; omega), nI_1, Bool.and_eq_true, decide_eq_true_eq]
      by_cases z : i &&& (127 ^^^ sCity τ (aN A)) = 0
      · by_cases y : c &&& (127 ^^^ sShort τ (aN A ||| i)) = 0
        · simp only [z, y, if_true, and_self]
        · simp only [z, y, if_true, if_false, and_false]
      · simp only [z, if_false, false_and]
    · show wq X (d + 10) 137 47 _ _ _ _ = _
      rw [u137_47, fL_to2 (s := miS (soP τ c (aN A))) h8 (fun i o h1 h2 => if_neg (by rw [soP_ge h7 h2 h1]; decide))]
      simp only [u137_49, u137_52, eq_self, q_nl0, q_nlI, q_nlR, not_false_eq_true, q_nz0, q_nz1, q_zv0, q_zv1, q_tl1, q_tl0, q_wif, q_swc, q_swn, List.cons_append, List.nil_append, if_true, if_false, e10, e01, Bool.false_eq_true, eq_false (show ¬ nI 128 < 128 by decide)]
  have cst : ∀ (Q : QT), wq X (d + 10) 137 0 [some (.ref 1), some (.int (nI c)), some (.int w), none, none, none] [] h Q = if w = 0 then wq X (d + 10) 137 31 [some (.ref 1), some (.int (nI c)), some (.int w), some (.int (nI (2 ^ τ 0 0 - 1))), none, none] [] h Q else if w = 1 then wq X (d + 10) 137 31 [some (.ref 1), some (.int (nI c)), some (.int w), some (.int (nI (2 ^ τ 0 0 - 1))), none, none] [] h Q else Q (some (.int (-1))) h := by
    intro Q
    simp only [u137_0, u137_1, u137_2, u137_5, u137_8, u137_9, u137_10, u137_11, u137_12, u137_13, u137_14, u137_15, u137_16, u137_17, u137_20, u137_21, u137_24, u137_25, u137_26, u137_29, u137_30, eq_self, q_nl0, q_nlI, q_nlR, not_false_eq_true, q_nz0, q_nz1, q_zv0, q_zv1, q_tl1, q_tl0, q_wif, q_swc, q_swn, List.cons_append, List.nil_append, if_true, if_false, e10, e01, Bool.false_eq_true, sh_1, shT_0 hT, cq_T H, ct_cr (cq_t H), ea, zc]
  cases hb : fL (miS (soP τ c (aN A))) none (2 ^ τ 0 1) with
  | none =>
    simp only [hb] at cl
    refine ⟨hP h (miP none), Same_hP, fun Q => ?_⟩
    rw [cst, if_neg w0, if_pos w1, cl]
    simp only [u137_110, u137_111, u137_114, u137_117, u137_120, u137_121, eq_self, q_nl0, q_nlI, q_nlR, not_false_eq_true, q_nz0, q_nz1, q_zv0, q_zv1, q_tl1, q_tl0, q_wif, q_swc, q_swn, List.cons_append, List.nil_append, if_true, if_false, e10, e01, Bool.false_eq_true, sh_1, sh_178, gR_hP, p_1_9 hp, gI_hP0, miP, oI]
  | some q =>
    simp only [hb] at cl
    have hq := hlt _ _ hb
    have hq' : q < 128 := by omega
    refine ⟨hP h (miP (some q)), Same_hP, fun Q => ?_⟩
    rw [cst, if_neg w0, if_pos w1, cl]
    simp only [u137_110, u137_111, u137_114, u137_117, u137_120, u137_121, u137_122, u137_123, u137_126, u137_127, u137_130, u137_133, u137_136, u137_137, u137_140, u137_143, eq_self, q_nl0, q_nlI, q_nlR, not_false_eq_true, q_nz0, q_nz1, q_zv0, q_zv1, q_tl1, q_tl0, q_wif, q_swc, q_swn, List.cons_append, List.nil_append, if_true, if_false, e10, e01, Bool.false_eq_true, sh_1, sh_178, eq_false w0, gR_hP, p_1_9 hp, gI_hP0, gI_hP3, miP, oI]
theorem a_press0 {X : XT} {d T N : Nat} {h : HT} {τ : CT} {A : Nat → Int32} {mo : Nat} {w : Int32} (H : CQ h T τ N A) (hmo : mo < 8) (w0 : w = 0) : ∃ best, fL (prS τ (nI mo) (aN A)) none (2 ^ τ 0 1) = some best ∧ best < 128 ∧ An X (d + 10) 142 [some (.ref 1), some (.int (nI mo)), some (.int w), none, none, none] h (nI (sLoss τ (aN A ||| best))) := by
  generalize ex : nI mo = x
  have ex := ex.symm
  have ix : ixB x 8 = true := by rw [ex]; exact ixB_in hmo (by decide)
  have h7 := o_mn (cq_k H)
  have hp := cq_p H
  have hn := cq_n H
  have hT := ct_T (cq_t H)
  have h8 := p2_7 h7
  have h01 : 0 < 2 ^ τ 0 1 := Nat.two_pow_pos _
  have hc := sCity_lt (n := aN A) (cq_k H)
  have sl : ∀ n, sLoss τ n < 2 ^ 31 := fun n => by
    have := sLoss_le (cq_k H) n
    omega
  have hx := ix_k1 (x := x) (k := 8) (by decide) (by decide)
  rw [show nI (8 - 1) = 7 from rfl] at hx
  rw [ix, if_pos rfl] at hx
  have hx0 : ¬ x < 0 := fun z => by rw [if_pos z] at hx; exact absurd hx (by decide)
  have hx1 : ¬ 7 < x := fun z => by rw [if_neg hx0, if_pos z] at hx; exact absurd hx (by decide)
  have hlt := fO_lt (prS_o (τ := τ) (x := x) (n := aN A))
  have h0 : prS τ x (aN A) 0 none = some 0 := by
    refine if_pos ?_
    unfold prP
    rw [Nat.zero_and, decide_eq_true rfl, Bool.true_and]
    exact decide_eq_true (by rw [ex]; exact nI_nlt (a := mo) (b := pcN 0) (Nat.zero_le _) (by omega))
  have hsome : ∀ n, 0 < n → ∃ q, fL (prS τ x (aN A)) none n = some q := fO_some (s := prS τ x (aN A)) prS_n (by rw [h0]; exact Option.some_ne_none _)
  obtain ⟨best, hbest⟩ := hsome (2 ^ τ 0 1) h01
  have hbl : best < 128 := by
    have := hlt _ _ hbest
    omega
  have hub := or_128 hn hbl
  have cl : ∀ (Q : QT), ∃ l5, wq X (d + 10) 142 21 [some (.ref 1), some (.int x), some (.int w), none, none, none] [] h Q = wq X (d + 10) 142 100 [some (.ref 1), some (.int x), some (.int w), some (.int (nI (sCity τ (aN A)))), some (.int (nI 128)), l5] [] (hP h (prV τ (aN A) (some best))) Q := by
    intro Q
    simp only [u142_21, u142_22, u142_25, u142_28, u142_29, u142_32, u142_33, u142_34, eq_self, q_nl0, q_nlI, q_nlR, not_false_eq_true, q_nz0, q_nz1, q_zv0, q_zv1, q_tl1, q_tl0, q_wif, q_swc, q_swn, List.cons_append, List.nil_append, if_true, if_false, e10, e01, Bool.false_eq_true, sh_1, sh_38, sh_178, p_1_9 hp, c_pClear, c_inCity (CQ_same Same_hP H)]
    obtain ⟨l', e⟩ := q_loopL (fun i (l5 : Option Value) => wq X (d + 10) 142 36 [some (.ref 1), some (.int x), some (.int w), some (.int (nI (sCity τ (aN A)))), some (.int (nI i)), l5] [] (hP h (prV τ (aN A) (fL (prS τ x (aN A)) none i))) Q) 128 (by
      intro i hi l5
      refine ⟨some (.int (nI (pcN i))), ?_⟩
      have hl := hlt i
      show wq X (d + 10) 142 36 _ _ _ _ = _
      rw [u142_36, fL_s]
      generalize fL (prS τ x (aN A)) none i = o at hl ⊢
      have H' : ∀ p, CQ (hP h p) T τ N A := fun p => CQ_same Same_hP H
      have e1 : (nI i < 128) = True := eq_true (nI_lt (b := 128) hi (by decide))
      have hu := or_128 hn hi
      unfold prS prP
      simp only [u142_38, u142_41, u142_44, u142_46, u142_49, u142_51, u142_53, u142_54, u142_55, u142_56, u142_57, u142_60, u142_62, u142_63, u142_66, u142_67, u142_70, u142_72, u142_73, u142_76, u142_77, u142_80, u142_83, u142_85, u142_86, u142_89, u142_91, u142_94, u142_97, eq_self, q_nl0, q_nlI, q_nlR, not_false_eq_true, q_nz0, q_nz1, q_zv0, q_zv1, q_tl1, q_tl0, q_wif, q_swc, q_swn, List.cons_append, List.nil_append, if_true, if_false, e10, e01, Bool.false_eq_true, sh_1, sh_38, sh_178, shT_0 hT, e1, nI_not _ hi _ hc, nI_0eq (and_128 hi), cq_T (H' _), p_1_3 (cq_p (H' _)), p_1_9 (cq_p (H' _)), cq_o (H' _), nI_or, c_lossBy (cq_t (H' _)) hu, c_bitCount hi, c_take, prV_take (cq_k H) hi o (fun q hq => by have := hl q hq; omega), nI_1, Bool.and_eq_true, decide_eq_true_eq]
      by_cases z : i &&& (127 ^^^ sCity τ (aN A)) = 0
      · by_cases y : x < nI (pcN i)
        · simp only [z, y, if_true, not_true_eq_false, and_false, if_false]
        · simp only [z, y, if_true, if_false, not_false_eq_true, and_self]
      · simp only [z, if_false, false_and]) none
    refine ⟨l', e.trans ?_⟩
    show wq X (d + 10) 142 36 _ _ _ _ = _
    rw [u142_36, fL_to2 (s := prS τ x (aN A)) h8 (fun i o h1 h2 => if_neg (by rw [prP_ge h7 h2 h1]; decide)), hbest]
    simp only [u142_38, u142_41, eq_self, q_nl0, q_nlI, q_nlR, not_false_eq_true, q_nz0, q_nz1, q_zv0, q_zv1, q_tl1, q_tl0, q_wif, q_swc, q_swn, List.cons_append, List.nil_append, if_true, if_false, e10, e01, Bool.false_eq_true, eq_false (show ¬ nI 128 < 128 by decide)]
  refine ⟨best, hbest, hbl, ?_⟩
  refine ⟨hP h (prV τ (aN A) (some best)), Same_hP, fun Q => ?_⟩
  obtain ⟨l5, e⟩ := cl Q
  simp only [u142_0, u142_1, u142_4, u142_5, u142_7, u142_10, u142_11, u142_14, u142_15, u142_16, u142_19, u142_20, eq_self, q_nl0, q_nlI, q_nlR, not_false_eq_true, q_nz0, q_nz1, q_zv0, q_zv1, q_tl1, q_tl0, q_wif, q_swc, q_swn, List.cons_append, List.nil_append, if_true, if_false, e10, e01, Bool.false_eq_true, eq_false hx0, eq_false hx1, eq_true w0, e]
  simp only [u142_100, u142_101, u142_104, u142_105, u142_108, u142_111, u142_114, u142_115, u142_118, u142_121, eq_self, q_nl0, q_nlI, q_nlR, not_false_eq_true, q_nz0, q_nz1, q_zv0, q_zv1, q_tl1, q_tl0, q_wif, q_swc, q_swn, List.cons_append, List.nil_append, if_true, if_false, e10, e01, Bool.false_eq_true, sh_1, sh_178, eq_true w0, gR_hP, p_1_9 hp, gI_hP1, prV]
theorem a_press1 {X : XT} {d T N : Nat} {h : HT} {τ : CT} {A : Nat → Int32} {mo : Nat} {w : Int32} (H : CQ h T τ N A) (hmo : mo < 8) (w1 : w = 1) : ∃ best, fL (prS τ (nI mo) (aN A)) none (2 ^ τ 0 1) = some best ∧ best < 128 ∧ An X (d + 10) 142 [some (.ref 1), some (.int (nI mo)), some (.int w), none, none, none] h (nI best) := by
  generalize ex : nI mo = x
  have ex := ex.symm
  have ix : ixB x 8 = true := by rw [ex]; exact ixB_in hmo (by decide)
  have w0 : ¬ w = 0 := by rw [w1]; decide
  have h7 := o_mn (cq_k H)
  have hp := cq_p H
  have hn := cq_n H
  have hT := ct_T (cq_t H)
  have h8 := p2_7 h7
  have h01 : 0 < 2 ^ τ 0 1 := Nat.two_pow_pos _
  have hc := sCity_lt (n := aN A) (cq_k H)
  have sl : ∀ n, sLoss τ n < 2 ^ 31 := fun n => by
    have := sLoss_le (cq_k H) n
    omega
  have hx := ix_k1 (x := x) (k := 8) (by decide) (by decide)
  rw [show nI (8 - 1) = 7 from rfl] at hx
  rw [ix, if_pos rfl] at hx
  have hx0 : ¬ x < 0 := fun z => by rw [if_pos z] at hx; exact absurd hx (by decide)
  have hx1 : ¬ 7 < x := fun z => by rw [if_neg hx0, if_pos z] at hx; exact absurd hx (by decide)
  have hlt := fO_lt (prS_o (τ := τ) (x := x) (n := aN A))
  have h0 : prS τ x (aN A) 0 none = some 0 := by
    refine if_pos ?_
    unfold prP
    rw [Nat.zero_and, decide_eq_true rfl, Bool.true_and]
    exact decide_eq_true (by rw [ex]; exact nI_nlt (a := mo) (b := pcN 0) (Nat.zero_le _) (by omega))
  have hsome : ∀ n, 0 < n → ∃ q, fL (prS τ x (aN A)) none n = some q := fO_some (s := prS τ x (aN A)) prS_n (by rw [h0]; exact Option.some_ne_none _)
  obtain ⟨best, hbest⟩ := hsome (2 ^ τ 0 1) h01
  have hbl : best < 128 := by
    have := hlt _ _ hbest
    omega
  have hub := or_128 hn hbl
  have cl : ∀ (Q : QT), ∃ l5, wq X (d + 10) 142 21 [some (.ref 1), some (.int x), some (.int w), none, none, none] [] h Q = wq X (d + 10) 142 100 [some (.ref 1), some (.int x), some (.int w), some (.int (nI (sCity τ (aN A)))), some (.int (nI 128)), l5] [] (hP h (prV τ (aN A) (some best))) Q := by
    intro Q
    simp only [u142_21, u142_22, u142_25, u142_28, u142_29, u142_32, u142_33, u142_34, eq_self, q_nl0, q_nlI, q_nlR, not_false_eq_true, q_nz0, q_nz1, q_zv0, q_zv1, q_tl1, q_tl0, q_wif, q_swc, q_swn, List.cons_append, List.nil_append, if_true, if_false, e10, e01, Bool.false_eq_true, sh_1, sh_38, sh_178, p_1_9 hp, c_pClear, c_inCity (CQ_same Same_hP H)]
    obtain ⟨l', e⟩ := q_loopL (fun i (l5 : Option Value) => wq X (d + 10) 142 36 [some (.ref 1), some (.int x), some (.int w), some (.int (nI (sCity τ (aN A)))), some (.int (nI i)), l5] [] (hP h (prV τ (aN A) (fL (prS τ x (aN A)) none i))) Q) 128 (by
      intro i hi l5
      refine ⟨some (.int (nI (pcN i))), ?_⟩
      have hl := hlt i
      show wq X (d + 10) 142 36 _ _ _ _ = _
      rw [u142_36, fL_s]
      generalize fL (prS τ x (aN A)) none i = o at hl ⊢
      have H' : ∀ p, CQ (hP h p) T τ N A := fun p => CQ_same Same_hP H
      have e1 : (nI i < 128) = True := eq_true (nI_lt (b := 128) hi (by decide))
      have hu := or_128 hn hi
      unfold prS prP
      simp only [u142_38, u142_41, u142_44, u142_46, u142_49, u142_51, u142_53, u142_54, u142_55, u142_56, u142_57, u142_60, u142_62, u142_63, u142_66, u142_67, u142_70, u142_72, u142_73, u142_76, u142_77, u142_80, u142_83, u142_85, u142_86, u142_89, u142_91, u142_94, u142_97, eq_self, q_nl0, q_nlI, q_nlR, not_false_eq_true, q_nz0, q_nz1, q_zv0, q_zv1, q_tl1, q_tl0, q_wif, q_swc, q_swn, List.cons_append, List.nil_append, if_true, if_false, e10, e01, Bool.false_eq_true, sh_1, sh_38, sh_178, shT_0 hT, e1, nI_not _ hi _ hc, nI_0eq (and_128 hi), cq_T (H' _), p_1_3 (cq_p (H' _)), p_1_9 (cq_p (H' _)), cq_o (H' _), nI_or, c_lossBy (cq_t (H' _)) hu, c_bitCount hi, c_take, prV_take (cq_k H) hi o (fun q hq => by have := hl q hq; omega), nI_1, Bool.and_eq_true, decide_eq_true_eq]
      by_cases z : i &&& (127 ^^^ sCity τ (aN A)) = 0
      · by_cases y : x < nI (pcN i)
        · simp only [z, y, if_true, not_true_eq_false, and_false, if_false]
        · simp only [z, y, if_true, if_false, not_false_eq_true, and_self]
      · simp only [z, if_false, false_and]) none
    refine ⟨l', e.trans ?_⟩
    show wq X (d + 10) 142 36 _ _ _ _ = _
    rw [u142_36, fL_to2 (s := prS τ x (aN A)) h8 (fun i o h1 h2 => if_neg (by rw [prP_ge h7 h2 h1]; decide)), hbest]
    simp only [u142_38, u142_41, eq_self, q_nl0, q_nlI, q_nlR, not_false_eq_true, q_nz0, q_nz1, q_zv0, q_zv1, q_tl1, q_tl0, q_wif, q_swc, q_swn, List.cons_append, List.nil_append, if_true, if_false, e10, e01, Bool.false_eq_true, eq_false (show ¬ nI 128 < 128 by decide)]
  refine ⟨best, hbest, hbl, ?_⟩
  refine ⟨hP h (prV τ (aN A) (some best)), Same_hP, fun Q => ?_⟩
  obtain ⟨l5, e⟩ := cl Q
  simp only [u142_0, u142_1, u142_4, u142_5, u142_7, u142_10, u142_11, u142_14, u142_15, u142_16, u142_19, u142_20, eq_self, q_nl0, q_nlI, q_nlR, not_false_eq_true, q_nz0, q_nz1, q_zv0, q_zv1, q_tl1, q_tl0, q_wif, q_swc, q_swn, List.cons_append, List.nil_append, if_true, if_false, e10, e01, Bool.false_eq_true, eq_false hx0, eq_false hx1, eq_false w0, eq_true w1, e]
  simp only [u142_100, u142_101, u142_104, u142_105, u142_108, u142_111, u142_114, u142_115, u142_118, u142_121, eq_self, q_nl0, q_nlI, q_nlR, not_false_eq_true, q_nz0, q_nz1, q_zv0, q_zv1, q_tl1, q_tl0, q_wif, q_swc, q_swn, List.cons_append, List.nil_append, if_true, if_false, e10, e01, Bool.false_eq_true, sh_1, sh_178, eq_false w0, gR_hP, p_1_9 hp, gI_hP3, prV]
