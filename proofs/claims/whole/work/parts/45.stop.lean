/-! stop -/
def soP (τ : CT) (c n i : Nat) : Bool := decide (i &&& (127 ^^^ sCity τ n) = 0) && decide (c &&& (127 ^^^ sShort τ (n ||| i)) = 0)
theorem soP_ge {τ : CT} {c n i : Nat} (h7 : τ 0 1 ≤ 7) (hi : i < 128) (h : 2 ^ τ 0 1 ≤ i) : soP τ c n i = false := by
  unfold soP
  simp only [city_sub h7 hi]
  rw [decide_eq_false (fun z => by omega), Bool.false_and]
theorem b_stop {X : XT} {d T b f N : Nat} {h : HT} {τ : CT} {A : Nat → Int32} (H : CQ h T τ N A) (K : KQ h b f τ N A) (x w : Int32) : Pr X (d + 10) 137 [some (.ref 1), some (.int x), some (.int w), none, none, none] 270 [some (.ref 195), some (.int x), some (.int w), none, none] h := by
  have h7 := o_mn (cq_k H)
  have h4 := o_cr (cq_k H)
  have hp := cq_p H
  have hn := cq_n H
  have hT := ct_T (cq_t H)
  have h8 := p2_7 h7
  have h16 : 2 ^ τ 0 0 ≤ 128 := p2_7 (by omega)
  have h01 : 0 < 2 ^ τ 0 0 := Nat.two_pow_pos _
  have hc := sCity_lt (n := aN A) (cq_k H)
  have ea : (1 : Int32) <<< (nI (τ 0 0) &&& 31) - 1 = nI (2 ^ τ 0 0 - 1) := nI_all _ (by omega)
  rcases set_cases x (k := τ 0 0) (by omega) with ⟨c, hcs, rfl, zc, ix⟩ | ⟨zc, ix⟩
  · have hc8 : c < 128 := by omega
    have hlt := fO_lt (miS_o (p := soP τ c (aN A)))
    have cl : ∀ (Q : QT) (w : Int32), wq X (d + 10) 137 31 [some (.ref 1), some (.int (nI c)), some (.int w), some (.int (nI (2 ^ τ 0 0 - 1))), none, none] [] h Q = wq X (d + 10) 137 110 [some (.ref 1), some (.int (nI c)), some (.int w), some (.int (nI (2 ^ τ 0 0 - 1))), some (.int (nI (sCity τ (aN A)))), some (.int (nI 128))] [] (hP h (miP (fL (miS (soP τ c (aN A))) none (2 ^ τ 0 1)))) Q := by
      intro Q w
      simp only [u137_31, u137_32, u137_35, u137_38, u137_39, u137_42, u137_44, u137_45, eq_self, q_nl0, q_nlI, q_nlR, not_false_eq_true, q_nz0, q_nz1, q_zv0, q_zv1, q_tl1, q_tl0, q_wif, q_swc, q_swn, List.cons_append, List.nil_append, if_true, if_false, e10, e01, Bool.false_eq_true, sh_1, sh_38, sh_178, p_1_9 hp, c_pClear, c_inCity (CQ_same Same_hP H)]
      refine (q_loop (fun i => wq X (d + 10) 137 47 [some (.ref 1), some (.int (nI c)), some (.int w), some (.int (nI (2 ^ τ 0 0 - 1))), some (.int (nI (sCity τ (aN A)))), some (.int (nI i))] [] (hP h (miP (fL (miS (soP τ c (aN A))) none i))) Q) 128 ?_).trans ?_
      · intro i hi
        have hl := hlt i
        show wq X (d + 10) 137 47 _ _ _ _ = _
        rw [u137_47, fL_s]
        generalize fL (miS (soP τ c (aN A))) none i = o at hl ⊢
        have H' : ∀ p, CQ (hP h p) T τ N A := fun p => CQ_same Same_hP H
        have e1 : (nI i < 128) = True := eq_true (nI_lt (b := 128) hi (by decide))
        have hu := or_128 hn hi
        unfold miS soP
        simp only [u137_49, u137_52, u137_55, u137_57, u137_59, u137_60, u137_61, u137_62, u137_65, u137_66, u137_67, u137_70, u137_71, u137_74, u137_77, u137_79, u137_80, u137_83, u137_84, u137_85, u137_86, u137_89, u137_90, u137_93, u137_95, u137_96, u137_98, u137_101, u137_104, u137_107, eq_self, q_nl0, q_nlI, q_nlR, not_false_eq_true, q_nz0, q_nz1, q_zv0, q_zv1, q_tl1, q_tl0, q_wif, q_swc, q_swn, List.cons_append, List.nil_append, if_true, if_false, e10, e01, Bool.false_eq_true, sh_1, sh_38, sh_178, shT_0 hT, e1, nI_not _ hi _ hc, nI_0eq (and_128 hi), cq_T (H' _), p_1_3 (cq_p (H' _)), p_1_9 (cq_p (H' _)), cq_o (H' _), nI_or, c_shortBy (cq_t (H' _)) hu, nI_not _ hc8 _ (s128 (cq_k H) _), nI_0eq (and_128 hc8), c_bitCount hi, c_take, miP_take hi o (fun q hq => by have := hl q hq; omega), nI_1, Bool.and_eq_true, decide_eq_true_eq]
        by_cases z : i &&& (127 ^^^ sCity τ (aN A)) = 0
        · by_cases y : c &&& (127 ^^^ sShort τ (aN A ||| i)) = 0
          · simp only [z, y, if_true, and_self]
          · simp only [z, y, if_true, if_false, and_false]
        · simp only [z, if_false, false_and]
      · show wq X (d + 10) 137 47 _ _ _ _ = _
        rw [u137_47, fL_to2 (s := miS (soP τ c (aN A))) h8 (fun i o h1 h2 => if_neg (by rw [soP_ge h7 h2 h1]; decide))]
        simp only [u137_49, u137_52, eq_self, q_nl0, q_nlI, q_nlR, not_false_eq_true, q_nz0, q_nz1, q_zv0, q_zv1, q_tl1, q_tl0, q_wif, q_swc, q_swn, List.cons_append, List.nil_append, if_true, if_false, e10, e01, Bool.false_eq_true, eq_false (show ¬ nI 128 < 128 by decide)]
    have ml : ∀ (g : HT) (Q : QT) (w : Int32), KQ g b f τ N A → wq X (d + 10) 270 32 [some (.ref 195), some (.int (nI c)), some (.int w), none, none] [] g Q = wq X (d + 10) 270 108 [some (.ref 195), some (.int (nI c)), some (.int w), some (.int (oI (fL (miS (soP τ c (aN A))) none (2 ^ τ 0 1)))), some (.int (nI (2 ^ τ 0 1)))] [] g Q := by
      intro g Q w K
      have hp := mq_p K
      simp only [u270_32, u270_33, u270_34, u270_35, eq_self, q_nl0, q_nlI, q_nlR, not_false_eq_true, q_nz0, q_nz1, q_zv0, q_zv1, q_tl1, q_tl0, q_wif, q_swc, q_swn, List.cons_append, List.nil_append, if_true, if_false, e10, e01, Bool.false_eq_true]
      refine (q_loop (fun i => wq X (d + 10) 270 37 [some (.ref 195), some (.int (nI c)), some (.int w), some (.int (oI (fL (miS (soP τ c (aN A))) none i))), some (.int (nI i))] [] g Q) (2 ^ τ 0 1) ?_).trans ?_
      · intro i hi
        have hl := hlt i
        show wq X (d + 10) 270 37 _ _ _ _ = _
        rw [u270_37, fL_s]
        generalize fL (miS (soP τ c (aN A))) none i = o at hl ⊢
        have hi' : i < 128 := by omega
        have hu := or_128 hn hi'
        have hpi := pcN_le _ hi'
        unfold miS soP
        simp only [city_sub h7 hi', eq_true hi, true_and]
        cases o with
        | none =>
          simp only [u270_39, u270_40, u270_43, u270_46, u270_48, u270_49, u270_52, u270_54, u270_55, u270_56, u270_59, u270_60, u270_63, u270_65, u270_68, u270_69, u270_72, u270_75, u270_78, u270_79, u270_80, u270_81, u270_84, u270_86, u270_87, u270_89, u270_90, u270_93, u270_94, u270_95, u270_96, u270_99, u270_101, u270_102, u270_105, eq_self, q_nl0, q_nlI, q_nlR, not_false_eq_true, q_nz0, q_nz1, q_zv0, q_zv1, q_tl1, q_tl0, q_wif, q_swc, q_swn, List.cons_append, List.nil_append, if_true, if_false, e10, e01, Bool.false_eq_true, sh_195, sh_227, k_everybody (mq_t K), le_all h7 hi, p_195_47 hp, in14, cl14, mq_o K, nI_and, nI_0eq (and_128 hi'), oI, m1_lt0, nI_or, k_shortBy (mq_t K) hu, nI_not _ hc8 _ (s128 (mq_k K) _), nI_0eq (and_128 hc8), nI_1, Bool.and_eq_true, decide_eq_true_eq]
          by_cases z : i &&& aN A = 0
          · by_cases y : c &&& (127 ^^^ sShort τ (aN A ||| i)) = 0
            · simp only [z, y, if_true, and_self, miM]
            · simp only [z, y, if_true, if_false, and_false]
          · simp only [z, if_false, false_and]
        | some q =>
          have hq := hl q rfl
          have hq' : q < 128 := by omega
          have hpq := pcN_le _ hq'
          simp only [u270_39, u270_40, u270_43, u270_46, u270_48, u270_49, u270_52, u270_54, u270_55, u270_56, u270_59, u270_60, u270_63, u270_65, u270_68, u270_69, u270_72, u270_75, u270_78, u270_79, u270_80, u270_81, u270_84, u270_86, u270_87, u270_89, u270_90, u270_93, u270_94, u270_95, u270_96, u270_99, u270_101, u270_102, u270_105, eq_self, q_nl0, q_nlI, q_nlR, not_false_eq_true, q_nz0, q_nz1, q_zv0, q_zv1, q_tl1, q_tl0, q_wif, q_swc, q_swn, List.cons_append, List.nil_append, if_true, if_false, e10, e01, Bool.false_eq_true, sh_195, sh_227, k_everybody (mq_t K), le_all h7 hi, p_195_47 hp, in14, cl14, mq_o K, nI_and, nI_0eq (and_128 hi'), oI, oI_lt0 (show q < 2 ^ 31 by omega), k_bitsOf hi', k_bitsOf hq', nI_ltB (show pcN i < 2 ^ 31 by omega) (show pcN q < 2 ^ 31 by omega), nI_or, k_shortBy (mq_t K) hu, nI_not _ hc8 _ (s128 (mq_k K) _), nI_0eq (and_128 hc8), nI_1, Bool.and_eq_true, decide_eq_true_eq]
          by_cases z : i &&& aN A = 0
          · by_cases x : pcN i < pcN q
            · by_cases y : c &&& (127 ^^^ sShort τ (aN A ||| i)) = 0
              · simp only [z, x, y, if_true, and_self, miM]
              · simp only [z, x, y, if_true, if_false, and_false]
            · by_cases y : c &&& (127 ^^^ sShort τ (aN A ||| i)) = 0
              · simp only [z, x, y, if_true, if_false, and_self, miM]
              · simp only [z, x, y, if_true, if_false, and_false]
          · simp only [z, if_false, false_and]
      · show wq X (d + 10) 270 37 _ _ _ _ = _
        rw [u270_37]
        simp only [u270_39, u270_40, u270_43, eq_self, q_nl0, q_nlI, q_nlR, not_false_eq_true, q_nz0, q_nz1, q_zv0, q_zv1, q_tl1, q_tl0, q_wif, q_swc, q_swn, List.cons_append, List.nil_append, if_true, if_false, e10, e01, Bool.false_eq_true, sh_195, k_everybody (mq_t K), gt_all h7]
    have mst : ∀ (g : HT) (Q : QT), KQ g b f τ N A → wq X (d + 10) 270 0 [some (.ref 195), some (.int (nI c)), some (.int w), none, none] [] g Q = if (if w < 0 then (0 : Int32) else if 1 < w then 0 else 1) = 0 then Q (some (.int (-1))) g else wq X (d + 10) 270 32 [some (.ref 195), some (.int (nI c)), some (.int w), none, none] [] g Q := by
      intro g Q K
      have hp := mq_p K
      simp only [u270_0, u270_1, u270_2, u270_3, u270_4, u270_7, u270_8, u270_11, u270_12, u270_13, u270_14, u270_15, u270_18, u270_21, u270_22, u270_23, u270_24, u270_27, u270_30, u270_31, eq_self, q_nl0, q_nlI, q_nlR, not_false_eq_true, q_nz0, q_nz1, q_zv0, q_zv1, q_tl1, q_tl0, q_wif, q_swc, q_swn, List.cons_append, List.nil_append, if_true, if_false, e10, e01, Bool.false_eq_true, sh_195, sh_198, p_195_11 hp, mt_k (mq_t K), bk_in (mq_t K), bk_cl (mq_t K), mt_cr (mq_t K), ea, k_isIn, ix_k1 (x := nI c) (show 2 ^ τ 0 0 < 2 ^ 30 by omega) h01, ix]
    have cst : ∀ (Q : QT), wq X (d + 10) 137 0 [some (.ref 1), some (.int (nI c)), some (.int w), none, none, none] [] h Q = if w = 0 then wq X (d + 10) 137 31 [some (.ref 1), some (.int (nI c)), some (.int w), some (.int (nI (2 ^ τ 0 0 - 1))), none, none] [] h Q else if w = 1 then wq X (d + 10) 137 31 [some (.ref 1), some (.int (nI c)), some (.int w), some (.int (nI (2 ^ τ 0 0 - 1))), none, none] [] h Q else Q (some (.int (-1))) h := by
      intro Q
      simp only [u137_0, u137_1, u137_2, u137_5, u137_8, u137_9, u137_10, u137_11, u137_12, u137_13, u137_14, u137_15, u137_16, u137_17, u137_20, u137_21, u137_24, u137_25, u137_26, u137_29, u137_30, eq_self, q_nl0, q_nlI, q_nlR, not_false_eq_true, q_nz0, q_nz1, q_zv0, q_zv1, q_tl1, q_tl0, q_wif, q_swc, q_swn, List.cons_append, List.nil_append, if_true, if_false, e10, e01, Bool.false_eq_true, sh_1, shT_0 hT, cq_T H, ct_cr (cq_t H), ea, zc]
    cases hb : fL (miS (soP τ c (aN A))) none (2 ^ τ 0 1) with
    | none =>
      simp only [hb] at cl ml
      refine Pr_of (-1) ?_ ?_
      · by_cases u : w = 0 ∨ w = 1
        · refine ⟨hP h (miP none), Same_hP, fun Q => ?_⟩
          have : wq X (d + 10) 137 0 [some (.ref 1), some (.int (nI c)), some (.int w), none, none, none] [] h Q = wq X (d + 10) 137 31 [some (.ref 1), some (.int (nI c)), some (.int w), some (.int (nI (2 ^ τ 0 0 - 1))), none, none] [] h Q := by
            rw [cst]
            rcases u with u | u
            · rw [if_pos u]
            · by_cases v : w = 0
              · rw [if_pos v]
              · rw [if_neg v, if_pos u]
          rw [this, cl]
          simp only [u137_110, u137_111, u137_114, u137_117, u137_120, u137_121, eq_self, q_nl0, q_nlI, q_nlR, not_false_eq_true, q_nz0, q_nz1, q_zv0, q_zv1, q_tl1, q_tl0, q_wif, q_swc, q_swn, List.cons_append, List.nil_append, if_true, if_false, e10, e01, Bool.false_eq_true, sh_1, sh_178, gR_hP, p_1_9 hp, gI_hP0, miP]
        · refine ⟨h, Same_rf, fun Q => ?_⟩
          rw [cst, if_neg (fun z => u (Or.inl z)), if_neg (fun z => u (Or.inr z))]
      · intro g a
        refine ⟨g, Same_rf, fun Q => ?_⟩
        rw [mst g Q (KQ_same a K)]
        by_cases e : (if w < 0 then (0 : Int32) else if 1 < w then 0 else 1) = 0
        · rw [if_pos e]
        · rw [if_neg e, ml g Q w (KQ_same a K)]
          simp only [u270_108, u270_109, u270_112, u270_113, u270_116, u270_117, u270_120, u270_121, u270_124, u270_127, u270_128, eq_self, q_nl0, q_nlI, q_nlR, not_false_eq_true, q_nz0, q_nz1, q_zv0, q_zv1, q_tl1, q_tl0, q_wif, q_swc, q_swn, List.cons_append, List.nil_append, if_true, if_false, e10, e01, Bool.false_eq_true, oI, m1_lt0]
    | some q =>
      simp only [hb] at cl ml
      have hq := hlt _ _ hb
      have hq' : q < 128 := by omega
      rcases w01 w with ⟨w0, wi⟩ | ⟨w0, w1, wi⟩ | ⟨w0, w1, wi⟩
      · refine Pr_of (nI (pcN q)) ⟨hP h (miP (some q)), Same_hP, fun Q => ?_⟩ (fun g a => ⟨g, Same_rf, fun Q => ?_⟩)
        · rw [cst, if_pos w0, cl]
          simp only [u137_110, u137_111, u137_114, u137_117, u137_120, u137_121, u137_122, u137_123, u137_126, u137_127, u137_130, u137_133, u137_136, u137_137, u137_140, u137_143, eq_self, q_nl0, q_nlI, q_nlR, not_false_eq_true, q_nz0, q_nz1, q_zv0, q_zv1, q_tl1, q_tl0, q_wif, q_swc, q_swn, List.cons_append, List.nil_append, if_true, if_false, e10, e01, Bool.false_eq_true, sh_1, sh_178, eq_true w0, gR_hP, p_1_9 hp, gI_hP0, gI_hP2, miP]
        · rw [mst g Q (KQ_same a K), wi, if_neg (by decide), ml g Q w (KQ_same a K)]
          simp only [u270_108, u270_109, u270_112, u270_113, u270_116, u270_117, u270_120, u270_121, u270_124, u270_127, u270_128, eq_self, q_nl0, q_nlI, q_nlR, not_false_eq_true, q_nz0, q_nz1, q_zv0, q_zv1, q_tl1, q_tl0, q_wif, q_swc, q_swn, List.cons_append, List.nil_append, if_true, if_false, e10, e01, Bool.false_eq_true, eq_true w0, oI, oI_lt0 (show q < 2 ^ 31 by omega), k_bitsOf hq']
      · refine Pr_of (nI q) ⟨hP h (miP (some q)), Same_hP, fun Q => ?_⟩ (fun g a => ⟨g, Same_rf, fun Q => ?_⟩)
        · rw [cst, if_neg w0, if_pos w1, cl]
          simp only [u137_110, u137_111, u137_114, u137_117, u137_120, u137_121, u137_122, u137_123, u137_126, u137_127, u137_130, u137_133, u137_136, u137_137, u137_140, u137_143, eq_self, q_nl0, q_nlI, q_nlR, not_false_eq_true, q_nz0, q_nz1, q_zv0, q_zv1, q_tl1, q_tl0, q_wif, q_swc, q_swn, List.cons_append, List.nil_append, if_true, if_false, e10, e01, Bool.false_eq_true, sh_1, sh_178, eq_false w0, gR_hP, p_1_9 hp, gI_hP0, gI_hP3, miP]
        · rw [mst g Q (KQ_same a K), wi, if_neg (by decide), ml g Q w (KQ_same a K)]
          simp only [u270_108, u270_109, u270_112, u270_113, u270_116, u270_117, u270_120, u270_121, u270_124, u270_127, u270_128, eq_self, q_nl0, q_nlI, q_nlR, not_false_eq_true, q_nz0, q_nz1, q_zv0, q_zv1, q_tl1, q_tl0, q_wif, q_swc, q_swn, List.cons_append, List.nil_append, if_true, if_false, e10, e01, Bool.false_eq_true, eq_false w0, oI, oI_lt0 (show q < 2 ^ 31 by omega)]
      · refine Pr_pure (-1) (fun Q => ?_) (fun Q => ?_)
        · rw [cst, if_neg w0, if_neg w1]
        · rw [mst h Q K, wi, if_pos rfl]
  · refine Pr_pure (-1) (fun Q => ?_) (fun Q => ?_)
    · simp only [u137_0, u137_1, u137_2, u137_5, u137_8, u137_9, u137_10, u137_11, u137_12, u137_13, u137_14, u137_15, u137_16, u137_17, u137_20, u137_21, u137_24, u137_25, u137_26, u137_29, u137_30, eq_self, q_nl0, q_nlI, q_nlR, not_false_eq_true, q_nz0, q_nz1, q_zv0, q_zv1, q_tl1, q_tl0, q_wif, q_swc, q_swn, List.cons_append, List.nil_append, if_true, if_false, e10, e01, Bool.false_eq_true, sh_1, shT_0 hT, cq_T H, ct_cr (cq_t H), ea, zc]
    · simp only [u270_0, u270_1, u270_2, u270_3, u270_4, u270_7, u270_8, u270_11, u270_12, u270_13, u270_14, u270_15, u270_18, u270_21, u270_22, u270_23, u270_24, u270_27, u270_30, u270_31, eq_self, q_nl0, q_nlI, q_nlR, not_false_eq_true, q_nz0, q_nz1, q_zv0, q_zv1, q_tl1, q_tl0, q_wif, q_swc, q_swn, List.cons_append, List.nil_append, if_true, if_false, e10, e01, Bool.false_eq_true, sh_195, sh_198, p_195_11 hp, mt_k (mq_t K), bk_in (mq_t K), bk_cl (mq_t K), mt_cr (mq_t K), ea, k_isIn, ix_k1 (x := x) (show 2 ^ τ 0 0 < 2 ^ 30 by omega) h01, ix]
/-! press -/
def prP (τ : CT) (x : Int32) (n i : Nat) : Bool := decide (i &&& (127 ^^^ sCity τ n) = 0) && decide (¬ x < nI (pcN i))
def prM (τ : CT) (n i : Nat) : Option Nat → Option Nat
  | none => some i
  | some b => if sLoss τ (n ||| b) < sLoss τ (n ||| i) then some i else if sLoss τ (n ||| i) = sLoss τ (n ||| b) then if pcN i < pcN b then some i else some b else some b
def prS (τ : CT) (x : Int32) (n i : Nat) (o : Option Nat) : Option Nat := if prP τ x n i = true then prM τ n i o else o
theorem prS_o {τ : CT} {x : Int32} {n : Nat} (i : Nat) (o : Option Nat) : prS τ x n i o = o ∨ prS τ x n i o = some i := by
  unfold prS
  split
  · cases o with
    | none => exact Or.inr rfl
    | some b =>
      by_cases y : sLoss τ (n ||| b) < sLoss τ (n ||| i)
      · exact Or.inr (if_pos y)
      · by_cases z : sLoss τ (n ||| i) = sLoss τ (n ||| b)
        · by_cases v : pcN i < pcN b
          · exact Or.inr ((if_neg y).trans ((if_pos z).trans (if_pos v)))
          · exact Or.inl ((if_neg y).trans ((if_pos z).trans (if_neg v)))
        · exact Or.inl ((if_neg y).trans (if_neg z))
  · exact Or.inl rfl
theorem prS_n {τ : CT} {x : Int32} {n : Nat} (i b : Nat) : prS τ x n i (some b) ≠ none := by
  rcases prS_o (τ := τ) (x := x) (n := n) i (some b) with e | e <;> rw [e] <;> exact Option.some_ne_none _
def prV (τ : CT) (n : Nat) : Option Nat → PT3
  | none => none
  | some b => some (nI (sLoss τ (n ||| b)), nI (pcN b), nI b)
theorem prV_take {τ : CT} {n i : Nat} (H : cOk τ) (hi : i < 128) : ∀ o, (∀ b, o = some b → b < 128) → pTake (prV τ n o) (nI i) (nI (sLoss τ (n ||| i))) (nI (pcN i)) = prV τ n (prM τ n i o) := by
  intro o ho
  cases o with
  | none => rfl
  | some b =>
    have h1 := pcN_le _ hi
    have h2 := pcN_le _ (ho b rfl)
    have h3 := sLoss_le H (n ||| i)
    have h4 := sLoss_le H (n ||| b)
    show (if nI (sLoss τ (n ||| b)) < nI (sLoss τ (n ||| i)) then some (nI (sLoss τ (n ||| i)), nI (pcN i), nI i) else if nI (sLoss τ (n ||| i)) = nI (sLoss τ (n ||| b)) then if nI (pcN i) < nI (pcN b) then some (nI (sLoss τ (n ||| i)), nI (pcN i), nI i) else some (nI (sLoss τ (n ||| b)), nI (pcN b), nI b) else some (nI (sLoss τ (n ||| b)), nI (pcN b), nI b)) = prV τ n (if sLoss τ (n ||| b) < sLoss τ (n ||| i) then some i else if sLoss τ (n ||| i) = sLoss τ (n ||| b) then if pcN i < pcN b then some i else some b else some b)
    simp only [nI_ltB (show sLoss τ (n ||| b) < 2 ^ 31 by omega) (show sLoss τ (n ||| i) < 2 ^ 31 by omega), nI_eqB (show sLoss τ (n ||| i) < 2 ^ 31 by omega) (show sLoss τ (n ||| b) < 2 ^ 31 by omega), nI_ltB (show pcN i < 2 ^ 31 by omega) (show pcN b < 2 ^ 31 by omega)]
    split
    · rfl
    · split
      · split <;> rfl
      · rfl
theorem prP_ge {τ : CT} {x : Int32} {n i : Nat} (h7 : τ 0 1 ≤ 7) (hi : i < 128) (h : 2 ^ τ 0 1 ≤ i) : prP τ x n i = false := by
  unfold prP
  simp only [city_sub h7 hi]
  rw [decide_eq_false (fun z => by omega), Bool.false_and]
theorem b_press {X : XT} {d T b f N : Nat} {h : HT} {τ : CT} {A : Nat → Int32} (H : CQ h T τ N A) (K : KQ h b f τ N A) (x w : Int32) : Pr X (d + 10) 142 [some (.ref 1), some (.int x), some (.int w), none, none, none] 288 [some (.ref 195), some (.int x), some (.int w), none, none, none, none] h := by
  have h7 := o_mn (cq_k H)
  have hp := cq_p H
  have hn := cq_n H
  have hT := ct_T (cq_t H)
  have h8 := p2_7 h7
  have h01 : 0 < 2 ^ τ 0 1 := Nat.two_pow_pos _
  have hc := sCity_lt (n := aN A) (cq_k H)
  have sl : ∀ n, sLoss τ n < 2 ^ 31 := fun n => by
    have := sLoss_le (cq_k H) n
    omega
  have hx := ix_k1 (x := x) (k := 8) (by decide) (by decide)
  rw [show nI (8 - 1) = 7 from rfl] at hx
  rcases ix_cases x (k := 8) (by decide) with ⟨mo, hmo, ex, ix⟩ | ix
  · rw [ix, if_pos rfl] at hx
    have hx0 : ¬ x < 0 := fun z => by rw [if_pos z] at hx; exact absurd hx (by decide)
    have hx1 : ¬ 7 < x := fun z => by rw [if_neg hx0, if_pos z] at hx; exact absurd hx (by decide)
    have hlt := fO_lt (prS_o (τ := τ) (x := x) (n := aN A))
    have h0 : prS τ x (aN A) 0 none = some 0 := by
      refine if_pos ?_
      unfold prP
      rw [Nat.zero_and, decide_eq_true rfl, Bool.true_and]
      exact decide_eq_true (by rw [ex]; exact nI_nlt (a := mo) (b := pcN 0) (Nat.zero_le _) (by omega))
    have hsome : ∀ n, 0 < n → ∃ q, fL (prS τ x (aN A)) none n = some q := fO_some (s := prS τ x (aN A)) prS_n (by rw [h0]; exact Option.some_ne_none _)
    obtain ⟨best, hbest⟩ := hsome (2 ^ τ 0 1) h01
    have hbl : best < 128 := by
      have := hlt _ _ hbest
      omega
    have hub := or_128 hn hbl
    have cl : ∀ (Q : QT), ∃ l5, wq X (d + 10) 142 21 [some (.ref 1), some (.int x), some (.int w), none, none, none] [] h Q = wq X (d + 10) 142 100 [some (.ref 1), some (.int x), some (.int w), some (.int (nI (sCity τ (aN A)))), some (.int (nI 128)), l5] [] (hP h (prV τ (aN A) (some best))) Q := by
      intro Q
      simp only [u142_21, u142_22, u142_25, u142_28, u142_29, u142_32, u142_33, u142_34, eq_self, q_nl0, q_nlI, q_nlR, not_false_eq_true, q_nz0, q_nz1, q_zv0, q_zv1, q_tl1, q_tl0, q_wif, q_swc, q_swn, List.cons_append, List.nil_append, if_true, if_false, e10, e01, Bool.false_eq_true, sh_1, sh_38, sh_178, p_1_9 hp, c_pClear, c_inCity (CQ_same Same_hP H)]
      obtain ⟨l', e⟩ := q_loopL (fun i (l5 : Option Value) => wq X (d + 10) 142 36 [some (.ref 1), some (.int x), some (.int w), some (.int (nI (sCity τ (aN A)))), some (.int (nI i)), l5] [] (hP h (prV τ (aN A) (fL (prS τ x (aN A)) none i))) Q) 128 (by
        intro i hi l5
        refine ⟨some (.int (nI (pcN i))), ?_⟩
        have hl := hlt i
        show wq X (d + 10) 142 36 _ _ _ _ = _
        rw [u142_36, fL_s]
        generalize fL (prS τ x (aN A)) none i = o at hl ⊢
        have H' : ∀ p, CQ (hP h p) T τ N A := fun p => CQ_same Same_hP H
        have e1 : (nI i < 128) = True := eq_true (nI_lt (b := 128) hi (by decide))
        have hu := or_128 hn hi
        unfold prS prP
        simp only [u142_38, u142_41, u142_44, u142_46, u142_49, u142_51, u142_53, u142_54, u142_55, u142_56, u142_57, u142_60, u142_62, u142_63, u142_66, u142_67, u142_70, u142_72, u142_73, u142_76, u142_77, u142_80, u142_83, u142_85, u142_86, u142_89, u142_91, u142_94, u142_97, eq_self, q_nl0, q_nlI, q_nlR, not_false_eq_true, q_nz0, q_nz1, q_zv0, q_zv1, q_tl1, q_tl0, q_wif, q_swc, q_swn, List.cons_append, List.nil_append, if_true, if_false, e10, e01, Bool.false_eq_true, sh_1, sh_38, sh_178, shT_0 hT, e1, nI_not _ hi _ hc, nI_0eq (and_128 hi), cq_T (H' _), p_1_3 (cq_p (H' _)), p_1_9 (cq_p (H' _)), cq_o (H' _), nI_or, c_lossBy (cq_t (H' _)) hu, c_bitCount hi, c_take, prV_take (cq_k H) hi o (fun q hq => by have := hl q hq; omega), nI_1, Bool.and_eq_true, decide_eq_true_eq]
        by_cases z : i &&& (127 ^^^ sCity τ (aN A)) = 0
        · by_cases y : x < nI (pcN i)
          · simp only [z, y, if_true, not_true_eq_false, and_false, if_false]
          · simp only [z, y, if_true, if_false, not_false_eq_true, and_self]
        · simp only [z, if_false, false_and]) none
      refine ⟨l', e.trans ?_⟩
      show wq X (d + 10) 142 36 _ _ _ _ = _
      rw [u142_36, fL_to2 (s := prS τ x (aN A)) h8 (fun i o h1 h2 => if_neg (by rw [prP_ge h7 h2 h1]; decide)), hbest]
      simp only [u142_38, u142_41, eq_self, q_nl0, q_nlI, q_nlR, not_false_eq_true, q_nz0, q_nz1, q_zv0, q_zv1, q_tl1, q_tl0, q_wif, q_swc, q_swn, List.cons_append, List.nil_append, if_true, if_false, e10, e01, Bool.false_eq_true, eq_false (show ¬ nI 128 < 128 by decide)]
    have ml : ∀ (g : HT) (Q : QT), KQ g b f τ N A → ∃ l5 l6, wq X (d + 10) 288 21 [some (.ref 195), some (.int x), some (.int w), none, none, none, none] [] g Q = wq X (d + 10) 288 126 [some (.ref 195), some (.int x), some (.int w), some (.int (nI best)), some (.int (nI (2 ^ τ 0 1))), l5, l6] [] g Q := by
      intro g Q K
      have hp := mq_p K
      simp only [u288_21, u288_22, u288_23, u288_24, eq_self, q_nl0, q_nlI, q_nlR, not_false_eq_true, q_nz0, q_nz1, q_zv0, q_zv1, q_tl1, q_tl0, q_wif, q_swc, q_swn, List.cons_append, List.nil_append, if_true, if_false, e10, e01, Bool.false_eq_true]
      have st : ∀ i, 1 ≤ i → i < 2 ^ τ 0 1 → ∀ l : Option Value × Option Value, ∃ l' : Option Value × Option Value, wq X (d + 10) 288 26 [some (.ref 195), some (.int x), some (.int w), some (.int (oI (fL (prS τ x (aN A)) none i))), some (.int (nI i)), l.1, l.2] [] g Q = wq X (d + 10) 288 26 [some (.ref 195), some (.int x), some (.int w), some (.int (oI (fL (prS τ x (aN A)) none (i + 1)))), some (.int (nI (i + 1))), l'.1, l'.2] [] g Q := by
        intro i hi1 hi l
        obtain ⟨q, hq⟩ := hsome i (by omega)
        have hql := hlt i q hq
        rw [u288_26, fL_s, hq]
        have hi' : i < 128 := by omega
        have hq' : q < 128 := by omega
        have hu := or_128 hn hi'
        have huq := or_128 hn hq'
        have hpi := pcN_le _ hi'
        have hpq := pcN_le _ hq'
        by_cases z : i &&& aN A = 0
        · by_cases y : x < nI (pcN i)
          · refine ⟨l, ?_⟩
            unfold prS prP
            simp only [city_sub h7 hi', eq_true hi, true_and]
            simp only [u288_28, u288_29, u288_32, u288_35, u288_37, u288_38, u288_41, u288_43, u288_44, u288_45, u288_48, u288_50, u288_53, u288_54, u288_57, u288_120, u288_123, eq_self, q_nl0, q_nlI, q_nlR, not_false_eq_true, q_nz0, q_nz1, q_zv0, q_zv1, q_tl1, q_tl0, q_wif, q_swc, q_swn, List.cons_append, List.nil_append, if_true, if_false, e10, e01, Bool.false_eq_true, sh_195, sh_227, k_everybody (mq_t K), le_all h7 hi, p_195_47 hp, in14, cl14, mq_o K, nI_and, nI_0eq (and_128 hi'), eq_true z, k_bitsOf hi', eq_true y, nI_1, not_true_eq_false, decide_false, Bool.and_false]
          · refine ⟨(some (.int (nI (sLoss τ (aN A ||| i)))), some (.int (nI (sLoss τ (aN A ||| q))))), ?_⟩
            unfold prS prP
            simp only [city_sub h7 hi', eq_true hi, true_and]
            simp only [u288_28, u288_29, u288_32, u288_35, u288_37, u288_38, u288_41, u288_43, u288_44, u288_45, u288_48, u288_50, u288_53, u288_54, u288_57, u288_60, u288_61, u288_62, u288_65, u288_67, u288_68, u288_70, u288_71, u288_74, u288_76, u288_77, u288_78, u288_81, u288_83, u288_84, u288_85, u288_86, u288_89, u288_91, u288_93, u288_95, u288_98, u288_100, u288_102, u288_105, u288_107, u288_110, u288_111, u288_114, u288_117, u288_119, u288_120, u288_123, eq_self, q_nl0, q_nlI, q_nlR, not_false_eq_true, q_nz0, q_nz1, q_zv0, q_zv1, q_tl1, q_tl0, q_wif, q_swc, q_swn, List.cons_append, List.nil_append, if_true, if_false, e10, e01, Bool.false_eq_true, sh_195, sh_227, k_everybody (mq_t K), le_all h7 hi, p_195_47 hp, in14, cl14, mq_o K, nI_and, nI_0eq (and_128 hi'), eq_true z, k_bitsOf hi', k_bitsOf hq', eq_false y, oI, nI_or, k_lossBy (mq_t K) hu, k_lossBy (mq_t K) huq, nI_ltB (sl (aN A ||| q)) (sl (aN A ||| i)), nI_eqB (sl (aN A ||| i)) (sl (aN A ||| q)), nI_ltB (show pcN i < 2 ^ 31 by omega) (show pcN q < 2 ^ 31 by omega), nI_1, not_false_eq_true, decide_true, Bool.and_true, prM]
            by_cases v : sLoss τ (aN A ||| q) < sLoss τ (aN A ||| i)
            · simp only [eq_true v, if_true]
            · by_cases u : sLoss τ (aN A ||| i) = sLoss τ (aN A ||| q)
              · by_cases t : pcN i < pcN q
                · simp only [eq_false v, eq_true u, eq_true t, if_true, if_false]
                · simp only [eq_false v, eq_true u, eq_false t, if_true, if_false]
              · simp only [eq_false v, eq_false u, if_false]
        · refine ⟨l, ?_⟩
          unfold prS prP
          simp only [city_sub h7 hi', eq_true hi, true_and]
          simp only [u288_28, u288_29, u288_32, u288_35, u288_37, u288_38, u288_41, u288_43, u288_44, u288_45, u288_120, u288_123, eq_self, q_nl0, q_nlI, q_nlR, not_false_eq_true, q_nz0, q_nz1, q_zv0, q_zv1, q_tl1, q_tl0, q_wif, q_swc, q_swn, List.cons_append, List.nil_append, if_true, if_false, e10, e01, Bool.false_eq_true, sh_195, sh_227, k_everybody (mq_t K), le_all h7 hi, p_195_47 hp, in14, cl14, mq_o K, nI_and, nI_0eq (and_128 hi'), eq_false z, nI_1, decide_false, Bool.false_and]
      have go : ∀ k, 1 + k ≤ 2 ^ τ 0 1 → ∃ l : Option Value × Option Value, wq X (d + 10) 288 26 [some (.ref 195), some (.int x), some (.int w), some (.int 0), some (.int 1), none, none] [] g Q = wq X (d + 10) 288 26 [some (.ref 195), some (.int x), some (.int w), some (.int (oI (fL (prS τ x (aN A)) none (1 + k)))), some (.int (nI (1 + k))), l.1, l.2] [] g Q := by
        intro k
        induction k with
        | zero =>
          intro _
          refine ⟨(none, none), ?_⟩
          rw [show fL (prS τ x (aN A)) none (1 + 0) = some 0 from h0]
          rfl
        | succ k ih =>
          intro hk
          obtain ⟨l, e⟩ := ih (by omega)
          obtain ⟨l', e'⟩ := st (1 + k) (by omega) (by omega) l
          exact ⟨l', e.trans e'⟩
      obtain ⟨l, e⟩ := go (2 ^ τ 0 1 - 1) (by omega)
      refine ⟨l.1, l.2, e.trans ?_⟩
      rw [show 1 + (2 ^ τ 0 1 - 1) = 2 ^ τ 0 1 by omega, hbest, u288_26]
      simp only [u288_28, u288_29, u288_32, eq_self, q_nl0, q_nlI, q_nlR, not_false_eq_true, q_nz0, q_nz1, q_zv0, q_zv1, q_tl1, q_tl0, q_wif, q_swc, q_swn, List.cons_append, List.nil_append, if_true, if_false, e10, e01, Bool.false_eq_true, sh_195, k_everybody (mq_t K), gt_all h7, oI]
    have mst : ∀ (g : HT) (Q : QT), KQ g b f τ N A → wq X (d + 10) 288 0 [some (.ref 195), some (.int x), some (.int w), none, none, none, none] [] g Q = if (if w < 0 then (0 : Int32) else if 1 < w then 0 else 1) = 0 then Q (some (.int (-1))) g else wq X (d + 10) 288 21 [some (.ref 195), some (.int x), some (.int w), none, none, none, none] [] g Q := by
      intro g Q K
      simp only [u288_0, u288_1, u288_2, u288_4, u288_7, u288_10, u288_11, u288_12, u288_13, u288_16, u288_19, u288_20, eq_self, q_nl0, q_nlI, q_nlR, not_false_eq_true, q_nz0, q_nz1, q_zv0, q_zv1, q_tl1, q_tl0, q_wif, q_swc, q_swn, List.cons_append, List.nil_append, if_true, if_false, e10, e01, Bool.false_eq_true, k_isIn, hx]
    rcases w01 w with ⟨w0, wi⟩ | ⟨w0, w1, wi⟩ | ⟨w0, w1, wi⟩
    · refine Pr_of (nI (sLoss τ (aN A ||| best))) ⟨hP h (prV τ (aN A) (some best)), Same_hP, fun Q => ?_⟩ (fun g a => ⟨g, Same_rf, fun Q => ?_⟩)
      · obtain ⟨l5, e⟩ := cl Q
        simp only [u142_0, u142_1, u142_4, u142_5, u142_7, u142_10, u142_11, u142_14, u142_15, u142_16, u142_19, u142_20, eq_self, q_nl0, q_nlI, q_nlR, not_false_eq_true, q_nz0, q_nz1, q_zv0, q_zv1, q_tl1, q_tl0, q_wif, q_swc, q_swn, List.cons_append, List.nil_append, if_true, if_false, e10, e01, Bool.false_eq_true, eq_false hx0, eq_false hx1, eq_true w0, e]
        simp only [u142_100, u142_101, u142_104, u142_105, u142_108, u142_111, u142_114, u142_115, u142_118, u142_121, eq_self, q_nl0, q_nlI, q_nlR, not_false_eq_true, q_nz0, q_nz1, q_zv0, q_zv1, q_tl1, q_tl0, q_wif, q_swc, q_swn, List.cons_append, List.nil_append, if_true, if_false, e10, e01, Bool.false_eq_true, sh_1, sh_178, eq_true w0, gR_hP, p_1_9 hp, gI_hP1, prV]
      · have K' := KQ_same a K
        obtain ⟨l5, l6, e⟩ := ml g Q K'
        rw [mst g Q K', wi, if_neg (by decide), e]
        simp only [u288_126, u288_127, u288_130, u288_131, u288_132, u288_135, u288_137, u288_138, u288_139, u288_140, u288_143, u288_146, u288_147, eq_self, q_nl0, q_nlI, q_nlR, not_false_eq_true, q_nz0, q_nz1, q_zv0, q_zv1, q_tl1, q_tl0, q_wif, q_swc, q_swn, List.cons_append, List.nil_append, if_true, if_false, e10, e01, Bool.false_eq_true, sh_195, sh_227, eq_true w0, p_195_47 (mq_p K'), in14, cl14, mq_o K', nI_or, k_lossBy (mq_t K') hub]
    · refine Pr_of (nI best) ⟨hP h (prV τ (aN A) (some best)), Same_hP, fun Q => ?_⟩ (fun g a => ⟨g, Same_rf, fun Q => ?_⟩)
      · obtain ⟨l5, e⟩ := cl Q
        simp only [u142_0, u142_1, u142_4, u142_5, u142_7, u142_10, u142_11, u142_14, u142_15, u142_16, u142_19, u142_20, eq_self, q_nl0, q_nlI, q_nlR, not_false_eq_true, q_nz0, q_nz1, q_zv0, q_zv1, q_tl1, q_tl0, q_wif, q_swc, q_swn, List.cons_append, List.nil_append, if_true, if_false, e10, e01, Bool.false_eq_true, eq_false hx0, eq_false hx1, eq_false w0, eq_true w1, e]
        simp only [u142_100, u142_101, u142_104, u142_105, u142_108, u142_111, u142_114, u142_115, u142_118, u142_121, eq_self, q_nl0, q_nlI, q_nlR, not_false_eq_true, q_nz0, q_nz1, q_zv0, q_zv1, q_tl1, q_tl0, q_wif, q_swc, q_swn, List.cons_append, List.nil_append, if_true, if_false, e10, e01, Bool.false_eq_true, sh_1, sh_178, eq_false w0, gR_hP, p_1_9 hp, gI_hP3, prV]
      · have K' := KQ_same a K
        obtain ⟨l5, l6, e⟩ := ml g Q K'
        rw [mst g Q K', wi, if_neg (by decide), e]
        simp only [u288_126, u288_127, u288_130, u288_131, u288_132, u288_135, u288_137, u288_138, u288_139, u288_140, u288_143, u288_146, u288_147, eq_self, q_nl0, q_nlI, q_nlR, not_false_eq_true, q_nz0, q_nz1, q_zv0, q_zv1, q_tl1, q_tl0, q_wif, q_swc, q_swn, List.cons_append, List.nil_append, if_true, if_false, e10, e01, Bool.false_eq_true, sh_195, eq_false w0]
    · refine Pr_pure (-1) (fun Q => ?_) (fun Q => ?_)
      · simp only [u142_0, u142_1, u142_4, u142_5, u142_7, u142_10, u142_11, u142_14, u142_15, u142_16, u142_19, u142_20, eq_self, q_nl0, q_nlI, q_nlR, not_false_eq_true, q_nz0, q_nz1, q_zv0, q_zv1, q_tl1, q_tl0, q_wif, q_swc, q_swn, List.cons_append, List.nil_append, if_true, if_false, e10, e01, Bool.false_eq_true, eq_false hx0, eq_false hx1, eq_false w0, eq_false w1]
      · rw [mst h Q K, wi, if_pos rfl]
  · rw [ix, if_neg Bool.false_ne_true] at hx
    refine Pr_pure (-1) (fun Q => ?_) (fun Q => ?_)
    · by_cases x0 : x < 0
      · simp only [u142_0, u142_1, u142_4, u142_5, u142_7, u142_10, u142_11, u142_14, u142_15, u142_16, u142_19, u142_20, eq_self, q_nl0, q_nlI, q_nlR, not_false_eq_true, q_nz0, q_nz1, q_zv0, q_zv1, q_tl1, q_tl0, q_wif, q_swc, q_swn, List.cons_append, List.nil_append, if_true, if_false, e10, e01, Bool.false_eq_true, eq_true x0]
      · by_cases x1 : 7 < x
        · simp only [u142_0, u142_1, u142_4, u142_5, u142_7, u142_10, u142_11, u142_14, u142_15, u142_16, u142_19, u142_20, eq_self, q_nl0, q_nlI, q_nlR, not_false_eq_true, q_nz0, q_nz1, q_zv0, q_zv1, q_tl1, q_tl0, q_wif, q_swc, q_swn, List.cons_append, List.nil_append, if_true, if_false, e10, e01, Bool.false_eq_true, eq_false x0, eq_true x1]
        · rw [if_neg x0, if_neg x1] at hx
          exact absurd hx (by decide)
    · simp only [u288_0, u288_1, u288_2, u288_4, u288_7, u288_10, u288_11, u288_12, u288_13, u288_16, u288_19, u288_20, eq_self, q_nl0, q_nlI, q_nlR, not_false_eq_true, q_nz0, q_nz1, q_zv0, q_zv1, q_tl1, q_tl0, q_wif, q_swc, q_swn, List.cons_append, List.nil_append, if_true, if_false, e10, e01, Bool.false_eq_true, k_isIn, hx]
