/-! WHO CAN HAVE BEEN OUT -/
def sW (S : Nat → Nat → Int32) (i : Nat) : Nat := (S 1 i).toNatClampNeg
def hoB (τ : CT) (S : Nat → Nat → Int32) (i s : Nat) : Bool := if S 0 i = 0 then s.testBit (sW S i) else if S 0 i = 1 then (sShort τ s).testBit (sW S i) else decide (sW S i ≤ pcN s)
def hoI (τ : CT) (S : Nat → Nat → Int32) (i s : Nat) : Int32 := if hoB τ S i s = true then 1 else 0
def okB (τ : CT) (S : Nat → Nat → Int32) (k : Int32) (s i : Nat) : Bool := decide (k < S 3 i) || (decide (¬ S 4 i = -1) && decide (¬ k < S 4 i)) || decide (hoI τ S i s = S 2 i)
theorem ok_cases {p : Nat → Bool} : ∀ n, (∀ i, i < n → p i = true) ∨ ∃ j, j < n ∧ p j = false ∧ ∀ i, i < j → p i = true
  | 0 => Or.inl (fun i hi => absurd hi (Nat.not_lt_zero i))
  | n + 1 => by
    rcases ok_cases (p := p) n with h | ⟨j, h1, h2, h3⟩
    · cases e : p n with
      | true =>
        left
        intro i hi
        by_cases z : i = n
        · rw [z]
          exact e
        · exact h i (by omega)
      | false => exact Or.inr ⟨n, Nat.lt_succ_self n, e, h⟩
    · exact Or.inr ⟨j, by omega, h2, h3⟩
def fitB (τ : CT) (S : Nat → Nat → Int32) (k : Int32) (n s : Nat) : Bool := (List.range n).all (okB τ S k s)
theorem fit_t {τ : CT} {S : Nat → Nat → Int32} {k : Int32} {n s : Nat} (h : ∀ i, i < n → okB τ S k s i = true) : fitB τ S k n s = true := List.all_eq_true.mpr (fun i hi => h i (List.mem_range.mp hi))
theorem fit_f {τ : CT} {S : Nat → Nat → Int32} {k : Int32} {n s j : Nat} (hj : j < n) (h : okB τ S k s j = false) : fitB τ S k n s = false := by
  cases e : fitB τ S k n s with
  | false => rfl
  | true =>
    have := List.all_eq_true.mp e j (List.mem_range.mpr hj)
    rw [h] at this
    cases this
theorem c_holds {X : XT} {d T n t i s : Nat} {h : HT} {Q : QT} {τ : CT} {S : Nat → Nat → Int32} (H : CTown h T τ) (C : CSig h n t S) (hn : n ≤ 30) (hi : i < n) (O : sOk S i) (hs : s < 128) : wq X (d + 1) 181 0 [some (.ref 179), some (.ref T), some (.int (nI i)), some (.int (nI s))] [] h Q = Q (some (.int (hoI τ S i s))) h := by
  have hp := ct_p H
  have hT := ct_T H
  have f1 : (nI i < 0) = False := oI_lt0 (by omega)
  have f3 : (nI i < 30) = True := eq_true (nI_lt (b := 30) (by omega) (by omega))
  have e3 : m_in (nI i) 30 = true := q_in (by omega) (by decide)
  have e4 : (nI i).toNatClampNeg = i := q_cl (by omega)
  have c0 : m_gI h 180 i = S 0 i := C.2.2 i hi 0 (by decide)
  have c1 : m_gI h 181 i = S 1 i := C.2.2 i hi 1 (by decide)
  obtain ⟨ok, ⟨w, hw, ew⟩, _⟩ := O
  have esw : sW S i = w := by
    unfold sW
    rw [ew]
    exact q_cl (by omega)
  have hb1 := bit01 hs hw
  have hb2 := bit01 (s128 (ct_ok H) s) hw
  have hps := pcN_le s hs
  unfold hoI hoB
  rw [esw]
  rcases ok with e | e | e
  · simp only [u181_0, u181_1, u181_4, u181_5, u181_7, u181_10, u181_11, u181_12, u181_13, u181_16, u181_17, u181_18, u181_44, u181_45, u181_46, u181_49, u181_50, u181_51, u181_52, u181_53, u181_54, u181_55, u181_58, u181_59, u181_62, u181_63, u181_64, u181_65, u181_66, u181_69, u181_70, u181_73, u181_74, u181_75, u181_76, u181_77, u181_78, u181_79, u181_82, u181_83, u181_86, u181_87, u181_88, u181_89, u181_92, u181_93, u181_96, u181_97, u181_98, u181_101, u181_102, u181_105, u181_106, eq_self, q_nl0, q_nlI, q_nlR, not_false_eq_true, q_nz0, q_nz1, q_zv0, q_zv1, q_tl1, q_tl0, q_wif, q_swc, q_swn, List.cons_append, List.nil_append, if_true, if_false, e10, e01, Bool.false_eq_true, sh_179, sh_180, sh_181, f1, f3, p_179_0 hp, p_179_1 hp, e3, e4, c0, c1, e, ew, q_t0, hb1, if_b1]
    split <;> rfl
  · simp only [u181_0, u181_1, u181_4, u181_5, u181_7, u181_10, u181_11, u181_12, u181_13, u181_16, u181_17, u181_18, u181_44, u181_45, u181_46, u181_49, u181_50, u181_51, u181_52, u181_53, u181_54, u181_55, u181_58, u181_59, u181_62, u181_63, u181_64, u181_65, u181_66, u181_69, u181_70, u181_73, u181_74, u181_75, u181_76, u181_77, u181_78, u181_79, u181_82, u181_83, u181_86, u181_87, u181_88, u181_89, u181_92, u181_93, u181_96, u181_97, u181_98, u181_101, u181_102, u181_105, u181_106, eq_self, q_nl0, q_nlI, q_nlR, not_false_eq_true, q_nz0, q_nz1, q_zv0, q_zv1, q_tl1, q_tl0, q_wif, q_swc, q_swn, List.cons_append, List.nil_append, if_true, if_false, e10, e01, Bool.false_eq_true, sh_179, sh_180, sh_181, shT_0 hT, f1, f3, p_179_0 hp, p_179_1 hp, e3, e4, c0, c1, e, ew, q_t0, q_t1, c_shortBy H hs, hb2, if_b1]
    split <;> rfl
  · have n20 : ((2 : Int32) = 0) = False := eq_false (by decide)
    have n21 : ((2 : Int32) = 1) = False := eq_false (by decide)
    have el : (nI (pcN s) < nI w) = ¬ w ≤ pcN s := by
      rw [nI_ltB (by omega) (by omega)]
      exact propext ⟨fun _ => by omega, fun _ => by omega⟩
    simp only [u181_0, u181_1, u181_4, u181_5, u181_7, u181_10, u181_11, u181_12, u181_13, u181_16, u181_17, u181_18, u181_44, u181_45, u181_46, u181_49, u181_50, u181_51, u181_52, u181_53, u181_54, u181_55, u181_58, u181_59, u181_62, u181_63, u181_64, u181_65, u181_66, u181_69, u181_70, u181_73, u181_74, u181_75, u181_76, u181_77, u181_78, u181_79, u181_82, u181_83, u181_86, u181_87, u181_88, u181_89, u181_92, u181_93, u181_96, u181_97, u181_98, u181_101, u181_102, u181_105, u181_106, eq_self, q_nl0, q_nlI, q_nlR, not_false_eq_true, q_nz0, q_nz1, q_zv0, q_zv1, q_tl1, q_tl0, q_wif, q_swc, q_swn, List.cons_append, List.nil_append, if_true, if_false, e10, e01, Bool.false_eq_true, sh_179, sh_180, sh_181, f1, f3, p_179_0 hp, p_179_1 hp, e3, e4, c0, c1, e, ew, q_t0, q_t1, n20, n21, c_bitCount hs, el, decide_eq_true_eq]
    by_cases z : w ≤ pcN s
    · simp only [z, not_true_eq_false, if_false, if_true]
    · simp only [z, not_false_eq_true, if_false, if_true]
theorem k_isSo {X : XT} {d b n t i s : Nat} {h : HT} {Q : QT} {τ : CT} {S : Nat → Nat → Int32} (H : MTown h b τ) (C : KSig h n t S) (hn : n ≤ 30) (hi : i < n) (O : sOk S i) (hs : s < 128) : wq X (d + 3) 307 0 [some (.ref 195), some (.int (nI i)), some (.int (nI s))] [] h Q = Q (some (.int (hoI τ S i s))) h := by
  have hp := mt_p H
  have e3 : m_in (nI i) 30 = true := q_in (by omega) (by decide)
  have e4 : (nI i).toNatClampNeg = i := q_cl (by omega)
  have c0 : m_gI h 230 i = S 0 i := C.2.2 i hi 0 (by decide)
  have c1 : m_gI h 231 i = S 1 i := C.2.2 i hi 1 (by decide)
  obtain ⟨ok, ⟨w, hw, ew⟩, _⟩ := O
  have esw : sW S i = w := by
    unfold sW
    rw [ew]
    exact q_cl (by omega)
  have hb1 := bit01 hs hw
  have hb2 := bit01 (s128 (mt_ok H) s) hw
  have hps := pcN_le s hs
  have n20 : ((2 : Int32) = 0) = False := eq_false (by decide)
  have n21 : ((2 : Int32) = 1) = False := eq_false (by decide)
  unfold hoI hoB
  rw [esw]
  rcases ok with e | e | e
  · simp only [u307_0, u307_1, u307_4, u307_5, u307_6, u307_9, u307_10, u307_11, u307_14, u307_15, u307_16, u307_19, u307_20, u307_21, u307_24, u307_25, u307_26, u307_27, u307_30, u307_31, u307_32, u307_35, u307_36, u307_39, u307_40, u307_41, u307_44, u307_45, u307_46, u307_49, u307_50, u307_53, u307_54, u307_55, u307_58, u307_59, u307_62, u307_63, eq_self, q_nl0, q_nlI, q_nlR, not_false_eq_true, q_nz0, q_nz1, q_zv0, q_zv1, q_tl1, q_tl0, q_wif, q_swc, q_swn, List.cons_append, List.nil_append, if_true, if_false, e10, e01, Bool.false_eq_true, sh_195, sh_230, sh_231, p_195_56 hp, p_195_57 hp, e3, e4, c0, c1, e, ew, k_has, hb1, if_b1, q_nzc]
  · simp only [u307_0, u307_1, u307_4, u307_5, u307_6, u307_9, u307_10, u307_11, u307_14, u307_15, u307_16, u307_19, u307_20, u307_21, u307_24, u307_25, u307_26, u307_27, u307_30, u307_31, u307_32, u307_35, u307_36, u307_39, u307_40, u307_41, u307_44, u307_45, u307_46, u307_49, u307_50, u307_53, u307_54, u307_55, u307_58, u307_59, u307_62, u307_63, eq_self, q_nl0, q_nlI, q_nlR, not_false_eq_true, q_nz0, q_nz1, q_zv0, q_zv1, q_tl1, q_tl0, q_wif, q_swc, q_swn, List.cons_append, List.nil_append, if_true, if_false, e10, e01, Bool.false_eq_true, sh_195, sh_230, sh_231, p_195_56 hp, p_195_57 hp, e3, e4, c0, c1, e, ew, k_shortBy H hs, k_has, hb2, if_b1, q_nzc]
  · have el : (nI (pcN s) < nI w) = ¬ w ≤ pcN s := by
      rw [nI_ltB (by omega) (by omega)]
      exact propext ⟨fun _ => by omega, fun _ => by omega⟩
    simp only [u307_0, u307_1, u307_4, u307_5, u307_6, u307_9, u307_10, u307_11, u307_14, u307_15, u307_16, u307_19, u307_20, u307_21, u307_24, u307_25, u307_26, u307_27, u307_30, u307_31, u307_32, u307_35, u307_36, u307_39, u307_40, u307_41, u307_44, u307_45, u307_46, u307_49, u307_50, u307_53, u307_54, u307_55, u307_58, u307_59, u307_62, u307_63, eq_self, q_nl0, q_nlI, q_nlR, not_false_eq_true, q_nz0, q_nz1, q_zv0, q_zv1, q_tl1, q_tl0, q_wif, q_swc, q_swn, List.cons_append, List.nil_append, if_true, if_false, e10, e01, Bool.false_eq_true, sh_195, sh_230, sh_231, p_195_56 hp, p_195_57 hp, e3, e4, c0, c1, e, ew, n20, n21, k_bitsOf hs, el, decide_eq_true_eq]
    by_cases z : w ≤ pcN s
    · simp only [z, not_true_eq_false, if_false, if_true]
    · simp only [z, not_false_eq_true, if_false, if_true]
theorem c_can {X : XT} {d T n t s : Nat} {h : HT} {Q : QT} {τ : CT} {S : Nat → Nat → Int32} {k : Int32} (H : CTown h T τ) (C : CSig h n t S) (hn : n ≤ 30) (O : ∀ i, i < n → sOk S i) (hs : s < 128) : wq X (d + 2) 180 0 [some (.ref 179), some (.ref T), some (.int (nI s)), some (.int k), none, none] [] h Q = Q (some (.int (if fitB τ S k n s = true then 1 else 0))) h := by
  have hp := ct_p H
  have hT := ct_T H
  have st : ∀ i, i < n → ∀ l5, ∃ l', wq X (d + 2) 180 3 [some (.ref 179), some (.ref T), some (.int (nI s)), some (.int k), some (.int (nI i)), l5] [] h Q = if okB τ S k s i = true then wq X (d + 2) 180 3 [some (.ref 179), some (.ref T), some (.int (nI s)), some (.int k), some (.int (nI (i + 1))), l'] [] h Q else Q (some (.int 0)) h := by
    intro i hi l5
    have f1 : (nI i < nI n) = True := eq_true (nI_lt hi (by omega))
    have f3 : (nI i < 30) = True := eq_true (nI_lt (b := 30) (by omega) (by omega))
    have e3 : m_in (nI i) 30 = true := q_in (by omega) (by decide)
    have e4 : (nI i).toNatClampNeg = i := q_cl (by omega)
    have c2 : m_gI h 182 i = S 2 i := C.2.2 i hi 2 (by decide)
    have c3 : m_gI h 183 i = S 3 i := C.2.2 i hi 3 (by decide)
    have c4 : m_gI h 184 i = S 4 i := C.2.2 i hi 4 (by decide)
    have ch := fun (Q : QT) => c_holds (X := X) (d := d) (Q := Q) (i := i) (s := s) H C hn hi (O i hi) hs
    refine ⟨some (.int (if (decide (¬ S 4 i = -1) && decide (¬ k < S 4 i)) = true then 1 else 0)), ?_⟩
    rw [u180_3]
    unfold okB
    simp only [u180_5, u180_6, u180_9, u180_12, u180_14, u180_16, u180_19, u180_20, u180_23, u180_25, u180_26, u180_27, u180_30, u180_31, u180_34, u180_36, u180_37, u180_38, u180_41, u180_42, u180_45, u180_46, eq_self, q_nl0, q_nlI, q_nlR, not_false_eq_true, q_nz0, q_nz1, q_zv0, q_zv1, q_tl1, q_tl0, q_wif, q_swc, q_swn, List.cons_append, List.nil_append, if_true, if_false, e10, e01, Bool.false_eq_true, sh_179, sh_184, C.1, f1, f3, p_179_4 hp, e3, e4, c4]
    by_cases a : S 4 i = -1
    · simp only [a, if_true, u180_45, u180_46, u180_48, u180_49, u180_52, u180_54, u180_55, u180_56, u180_59, u180_61, u180_64, u180_65, u180_66, u180_68, u180_69, u180_72, u180_73, u180_76, u180_78z, u180_78b, u180_79, u180_82, u180_83, u180_84, u180_87, eq_self, q_nl0, q_nlI, q_nlR, not_false_eq_true, q_nz0, q_nz1, q_zv0, q_zv1, q_tl1, q_tl0, q_wif, q_swc, q_swn, List.cons_append, List.nil_append, if_true, if_false, e10, e01, Bool.false_eq_true, sh_179, sh_182, sh_183, p_179_3 hp, p_179_2 hp, e3, e4, c3, c2, not_true_eq_false, decide_false, Bool.false_and, Bool.or_false, ch, nI_1]
      by_cases b : k < S 3 i
      · simp only [b, if_true, decide_true, Bool.true_or]
      · by_cases c : hoI τ S i s = S 2 i
        · simp only [b, c, if_true, if_false, decide_true, decide_false, Bool.or_true]
        · simp only [b, c, if_false, decide_false, Bool.or_false, Bool.false_eq_true]
    · by_cases a2 : k < S 4 i
      · simp only [a, a2, if_true, if_false, u180_30, u180_31, u180_34, u180_36, u180_37, u180_38, u180_41, u180_42, u180_45, u180_46, u180_48, u180_49, u180_52, u180_54, u180_55, u180_56, u180_59, u180_61, u180_64, u180_65, u180_66, u180_68, u180_69, u180_72, u180_73, u180_76, u180_78z, u180_78b, u180_79, u180_82, u180_83, u180_84, u180_87, eq_self, q_nl0, q_nlI, q_nlR, not_false_eq_true, q_nz0, q_nz1, q_zv0, q_zv1, q_tl1, q_tl0, q_wif, q_swc, q_swn, List.cons_append, List.nil_append, if_true, if_false, e10, e01, Bool.false_eq_true, sh_179, sh_182, sh_183, sh_184, p_179_3 hp, p_179_2 hp, p_179_4 hp, e3, e4, c3, c2, c4, not_true_eq_false, not_false_eq_true, decide_false, decide_true, Bool.and_false, Bool.or_false, ch, nI_1]
        by_cases b : k < S 3 i
        · simp only [b, if_true, decide_true, Bool.true_or]
        · by_cases c : hoI τ S i s = S 2 i
          · simp only [b, c, if_true, if_false, decide_true, decide_false, Bool.or_true]
          · simp only [b, c, if_false, decide_false, Bool.or_false, Bool.false_eq_true]
      · simp only [a, a2, if_false, u180_30, u180_31, u180_34, u180_36, u180_37, u180_38, u180_41, u180_42, u180_45, u180_46, u180_48, u180_49, u180_52, u180_54, u180_55, u180_56, u180_59, u180_61, u180_64, u180_65, u180_66, u180_68, u180_69, u180_72, u180_73, u180_76, u180_78z, u180_78b, u180_79, u180_82, u180_83, u180_84, u180_87, eq_self, q_nl0, q_nlI, q_nlR, not_false_eq_true, q_nz0, q_nz1, q_zv0, q_zv1, q_tl1, q_tl0, q_wif, q_swc, q_swn, List.cons_append, List.nil_append, if_true, if_false, e10, e01, Bool.false_eq_true, sh_179, sh_183, sh_184, p_179_3 hp, p_179_4 hp, e3, e4, c3, c4, not_false_eq_true, decide_true, Bool.and_true, Bool.or_true, Bool.true_or, if_true, ite_self, nI_1]
  simp only [u180_0, u180_1, eq_self, q_nl0, q_nlI, q_nlR, not_false_eq_true, q_nz0, q_nz1, q_zv0, q_zv1, q_tl1, q_tl0, q_wif, q_swc, q_swn, List.cons_append, List.nil_append, if_true, if_false, e10, e01, Bool.false_eq_true]
  have lp : ∀ j, j ≤ n → (∀ i, i < j → okB τ S k s i = true) → ∃ l', wq X (d + 2) 180 3 [some (.ref 179), some (.ref T), some (.int (nI s)), some (.int k), some (.int (nI 0)), none] [] h Q = wq X (d + 2) 180 3 [some (.ref 179), some (.ref T), some (.int (nI s)), some (.int k), some (.int (nI j)), l'] [] h Q := by
    intro j hj hz
    refine q_loopL (fun i (l5 : Option Value) => wq X (d + 2) 180 3 [some (.ref 179), some (.ref T), some (.int (nI s)), some (.int k), some (.int (nI i)), l5] [] h Q) j (fun i hi l5 => ?_) none
    obtain ⟨l', e⟩ := st i (by omega) l5
    exact ⟨l', by rw [e, if_pos (hz i hi)]⟩
  rcases ok_cases (p := okB τ S k s) n with hz | ⟨j, j1, j2, j3⟩
  · obtain ⟨l', e⟩ := lp n (Nat.le_refl _) hz
    rw [fit_t hz, if_pos rfl]
    refine Eq.trans e ?_
    rw [u180_3]
    simp only [u180_5, u180_6, u180_9, u180_90, u180_91, eq_self, q_nl0, q_nlI, q_nlR, not_false_eq_true, q_nz0, q_nz1, q_zv0, q_zv1, q_tl1, q_tl0, q_wif, q_swc, q_swn, List.cons_append, List.nil_append, if_true, if_false, e10, e01, Bool.false_eq_true, sh_179, C.1, eq_false (nI_nlt (Nat.le_refl n) (by omega))]
  · obtain ⟨l', e⟩ := lp j (by omega) j3
    obtain ⟨l2, e2⟩ := st j j1 l'
    rw [fit_f j1 j2, if_neg Bool.false_ne_true]
    refine Eq.trans e ?_
    rw [e2, j2, if_neg Bool.false_ne_true]
theorem k_does {X : XT} {d b n t s : Nat} {h : HT} {Q : QT} {τ : CT} {S : Nat → Nat → Int32} {k : Int32} (H : MTown h b τ) (C : KSig h n t S) (hn : n ≤ 30) (O : ∀ i, i < n → sOk S i) (hs : s < 128) : wq X (d + 4) 306 0 [some (.ref 195), some (.int (nI s)), some (.int k), none, none] [] h Q = Q (some (.int (if fitB τ S k n s = true then 1 else 0))) h := by
  have hp := mt_p H
  have st : ∀ i, i < n → ∀ l5, ∃ l', wq X (d + 4) 306 2 [some (.ref 195), some (.int (nI s)), some (.int k), some (.int (nI i)), l5] [] h Q = if okB τ S k s i = true then wq X (d + 4) 306 2 [some (.ref 195), some (.int (nI s)), some (.int k), some (.int (nI (i + 1))), l'] [] h Q else Q (some (.int 0)) h := by
    intro i hi l5
    have f1 : (nI i < nI n) = True := eq_true (nI_lt hi (by omega))
    have e3 : m_in (nI i) 30 = true := q_in (by omega) (by decide)
    have e4 : (nI i).toNatClampNeg = i := q_cl (by omega)
    have c2 : m_gI h 232 i = S 2 i := C.2.2 i hi 2 (by decide)
    have c3 : m_gI h 233 i = S 3 i := C.2.2 i hi 3 (by decide)
    have c4 : m_gI h 234 i = S 4 i := C.2.2 i hi 4 (by decide)
    have ch := fun (Q : QT) => k_isSo (X := X) (d := d) (Q := Q) (i := i) (s := s) H C hn hi (O i hi) hs
    have h01 : hoI τ S i s = 0 ∨ hoI τ S i s = 1 := by
      unfold hoI
      split
      · exact Or.inr rfl
      · exact Or.inl rfl
    have ei : (if hoI τ S i s = 0 then (0 : Int32) else 1) = hoI τ S i s := by
      rcases h01 with e | e <;> rw [e] <;> rfl
    by_cases b : k < S 3 i
    · refine ⟨l5, ?_⟩
      have eo : okB τ S k s i = true := by
        unfold okB
        rw [decide_eq_true b]
        rfl
      rw [u306_2, eo, if_pos rfl]
      simp only [u306_3, u306_4, u306_7, u306_10, u306_11, u306_14, u306_15, u306_16, u306_17, u306_71, u306_74, eq_self, q_nl0, q_nlI, q_nlR, not_false_eq_true, q_nz0, q_nz1, q_zv0, q_zv1, q_tl1, q_tl0, q_wif, q_swc, q_swn, List.cons_append, List.nil_append, if_true, if_false, e10, e01, Bool.false_eq_true, sh_195, sh_233, C.1, f1, p_195_59 hp, e3, e4, c3, eq_true b, nI_1]
    · by_cases a : S 4 i = -1
      · refine ⟨some (.int (hoI τ S i s)), ?_⟩
        have eo : okB τ S k s i = decide (hoI τ S i s = S 2 i) := by
          unfold okB
          simp only [a, decide_eq_false b, Bool.false_or, not_true_eq_false, decide_false, Bool.false_and]
        rw [u306_2, eo]
        rcases h01 with e | e
        · simp only [u306_3, u306_4, u306_7, u306_10, u306_11, u306_14, u306_15, u306_16, u306_17, u306_20, u306_21, u306_24, u306_25, u306_26, u306_29, u306_30, u306_33, u306_34, u306_35, u306_36, u306_39, u306_42, u306_43, u306_44, u306_45, u306_48, u306_51, u306_52, u306_55, u306_56, u306_58, u306_60, u306_61, u306_64, u306_65, u306_66, u306_69, u306_70, u306_71, u306_74, eq_self, q_nl0, q_nlI, q_nlR, not_false_eq_true, q_nz0, q_nz1, q_zv0, q_zv1, q_tl1, q_tl0, q_wif, q_swc, q_swn, List.cons_append, List.nil_append, if_true, if_false, e10, e01, Bool.false_eq_true, sh_195, sh_232, sh_233, sh_234, C.1, f1, p_195_58 hp, p_195_59 hp, p_195_60 hp, e3, e4, c2, c3, c4, eq_false b, a, m1_lt0, ch, e, nI_1, decide_eq_true_eq]
        · simp only [u306_3, u306_4, u306_7, u306_10, u306_11, u306_14, u306_15, u306_16, u306_17, u306_20, u306_21, u306_24, u306_25, u306_26, u306_29, u306_30, u306_33, u306_34, u306_35, u306_36, u306_39, u306_42, u306_43, u306_44, u306_45, u306_48, u306_51, u306_52, u306_55, u306_56, u306_58, u306_60, u306_61, u306_64, u306_65, u306_66, u306_69, u306_70, u306_71, u306_74, eq_self, q_nl0, q_nlI, q_nlR, not_false_eq_true, q_nz0, q_nz1, q_zv0, q_zv1, q_tl1, q_tl0, q_wif, q_swc, q_swn, List.cons_append, List.nil_append, if_true, if_false, e10, e01, Bool.false_eq_true, sh_195, sh_232, sh_233, sh_234, C.1, f1, p_195_58 hp, p_195_59 hp, p_195_60 hp, e3, e4, c2, c3, c4, eq_false b, a, m1_lt0, ch, e, nI_1, decide_eq_true_eq]
      · obtain ⟨u, hu, eu⟩ : ∃ u, u < 2 ^ 31 ∧ S 4 i = nI u := by
          rcases (O i hi).2.2.2 with w | w
          · exact absurd w a
          · exact w
        by_cases a2 : k < S 4 i
        · refine ⟨some (.int (hoI τ S i s)), ?_⟩
          have eo : okB τ S k s i = decide (hoI τ S i s = S 2 i) := by
            unfold okB
            simp only [a2, decide_eq_false b, Bool.false_or, not_true_eq_false, decide_false, Bool.and_false]
          have a3 := a2
          rw [eu] at a3
          rw [u306_2, eo]
          rcases h01 with e | e
          · simp only [u306_3, u306_4, u306_7, u306_10, u306_11, u306_14, u306_15, u306_16, u306_17, u306_20, u306_21, u306_24, u306_25, u306_26, u306_29, u306_30, u306_33, u306_34, u306_35, u306_36, u306_39, u306_42, u306_43, u306_44, u306_45, u306_48, u306_51, u306_52, u306_55, u306_56, u306_58, u306_60, u306_61, u306_64, u306_65, u306_66, u306_69, u306_70, u306_71, u306_74, eq_self, q_nl0, q_nlI, q_nlR, not_false_eq_true, q_nz0, q_nz1, q_zv0, q_zv1, q_tl1, q_tl0, q_wif, q_swc, q_swn, List.cons_append, List.nil_append, if_true, if_false, e10, e01, Bool.false_eq_true, sh_195, sh_232, sh_233, sh_234, C.1, f1, p_195_58 hp, p_195_59 hp, p_195_60 hp, e3, e4, c2, c3, c4, eq_false b, eu, oI_lt0 hu, eq_true a3, ch, e, nI_1, decide_eq_true_eq]
          · simp only [u306_3, u306_4, u306_7, u306_10, u306_11, u306_14, u306_15, u306_16, u306_17, u306_20, u306_21, u306_24, u306_25, u306_26, u306_29, u306_30, u306_33, u306_34, u306_35, u306_36, u306_39, u306_42, u306_43, u306_44, u306_45, u306_48, u306_51, u306_52, u306_55, u306_56, u306_58, u306_60, u306_61, u306_64, u306_65, u306_66, u306_69, u306_70, u306_71, u306_74, eq_self, q_nl0, q_nlI, q_nlR, not_false_eq_true, q_nz0, q_nz1, q_zv0, q_zv1, q_tl1, q_tl0, q_wif, q_swc, q_swn, List.cons_append, List.nil_append, if_true, if_false, e10, e01, Bool.false_eq_true, sh_195, sh_232, sh_233, sh_234, C.1, f1, p_195_58 hp, p_195_59 hp, p_195_60 hp, e3, e4, c2, c3, c4, eq_false b, eu, oI_lt0 hu, eq_true a3, ch, e, nI_1, decide_eq_true_eq]
        · refine ⟨l5, ?_⟩
          have eo : okB τ S k s i = true := by
            unfold okB
            simp only [a, a2, not_false_eq_true, decide_true, Bool.and_true, Bool.or_true, Bool.true_or]
          have a3 := a2
          rw [eu] at a3
          rw [u306_2, eo, if_pos rfl]
          simp only [u306_3, u306_4, u306_7, u306_10, u306_11, u306_14, u306_15, u306_16, u306_17, u306_20, u306_21, u306_24, u306_25, u306_26, u306_29, u306_30, u306_33, u306_34, u306_35, u306_36, u306_39, u306_71, u306_74, eq_self, q_nl0, q_nlI, q_nlR, not_false_eq_true, q_nz0, q_nz1, q_zv0, q_zv1, q_tl1, q_tl0, q_wif, q_swc, q_swn, List.cons_append, List.nil_append, if_true, if_false, e10, e01, Bool.false_eq_true, sh_195, sh_233, sh_234, C.1, f1, p_195_59 hp, p_195_60 hp, e3, e4, c3, c4, eq_false b, eu, oI_lt0 hu, eq_false a3, nI_1]
  simp only [u306_0, u306_1, eq_self, q_nl0, q_nlI, q_nlR, not_false_eq_true, q_nz0, q_nz1, q_zv0, q_zv1, q_tl1, q_tl0, q_wif, q_swc, q_swn, List.cons_append, List.nil_append, if_true, if_false, e10, e01, Bool.false_eq_true]
  have lp : ∀ j, j ≤ n → (∀ i, i < j → okB τ S k s i = true) → ∃ l', wq X (d + 4) 306 2 [some (.ref 195), some (.int (nI s)), some (.int k), some (.int (nI 0)), none] [] h Q = wq X (d + 4) 306 2 [some (.ref 195), some (.int (nI s)), some (.int k), some (.int (nI j)), l'] [] h Q := by
    intro j hj hz
    refine q_loopL (fun i (l5 : Option Value) => wq X (d + 4) 306 2 [some (.ref 195), some (.int (nI s)), some (.int k), some (.int (nI i)), l5] [] h Q) j (fun i hi l5 => ?_) none
    obtain ⟨l', e⟩ := st i (by omega) l5
    exact ⟨l', by rw [e, if_pos (hz i hi)]⟩
  rcases ok_cases (p := okB τ S k s) n with hz | ⟨j, j1, j2, j3⟩
  · obtain ⟨l', e⟩ := lp n (Nat.le_refl _) hz
    rw [fit_t hz, if_pos rfl]
    refine Eq.trans e ?_
    rw [u306_2]
    simp only [u306_3, u306_4, u306_7, u306_77, u306_78, eq_self, q_nl0, q_nlI, q_nlR, not_false_eq_true, q_nz0, q_nz1, q_zv0, q_zv1, q_tl1, q_tl0, q_wif, q_swc, q_swn, List.cons_append, List.nil_append, if_true, if_false, e10, e01, Bool.false_eq_true, sh_195, C.1, eq_false (nI_nlt (Nat.le_refl n) (by omega))]
  · obtain ⟨l', e⟩ := lp j (by omega) j3
    obtain ⟨l2, e2⟩ := st j j1 l'
    rw [fit_f j1 j2, if_neg Bool.false_ne_true]
    refine Eq.trans e ?_
    rw [e2, j2, if_neg Bool.false_ne_true]
