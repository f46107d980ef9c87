/-! WHO CAN HAVE BEEN OUT -/
def sW (S : Nat → Nat → Int32) (i : Nat) : Nat := (S 1 i).toNatClampNeg
def hoB (τ : CT) (S : Nat → Nat → Int32) (i s : Nat) : Bool := if S 0 i = 0 then s.testBit (sW S i) else if S 0 i = 1 then (sShort τ s).testBit (sW S i) else decide (sW S i ≤ pcN s)
def hoI (τ : CT) (S : Nat → Nat → Int32) (i s : Nat) : Int32 := if hoB τ S i s = true then 1 else 0
def okB (τ : CT) (S : Nat → Nat → Int32) (k : Int32) (s i : Nat) : Bool := decide (k < S 3 i) || (decide (¬ S 4 i = -1) && decide (¬ k < S 4 i)) || decide (hoI τ S i s = S 2 i)
theorem ok_cases {p : Nat → Bool} : ∀ n, (∀ i, i < n → p i = true) ∨ ∃ j, j < n ∧ p j = false ∧ ∀ i, i < j → p i = true
  | 0 => Or.inl (fun i hi => absurd hi (Nat.not_lt_zero i))
  | n + 1 => by
    rcases ok_cases (p := p) n with h | ⟨j, h1, h2, h3⟩
    · cases e : p n with
      | true =>
        left
        intro i hi
        by_cases z : i = n
        · rw [z]
          exact e
        · exact h i (by omega)
      | false => exact Or.inr ⟨n, Nat.lt_succ_self n, e, h⟩
    · exact Or.inr ⟨j, by omega, h2, h3⟩
def fitB (τ : CT) (S : Nat → Nat → Int32) (k : Int32) (n s : Nat) : Bool := (List.range n).all (okB τ S k s)
theorem fit_t {τ : CT} {S : Nat → Nat → Int32} {k : Int32} {n s : Nat} (h : ∀ i, i < n → okB τ S k s i = true) : fitB τ S k n s = true := List.all_eq_true.mpr (fun i hi => h i (List.mem_range.mp hi))
theorem fit_f {τ : CT} {S : Nat → Nat → Int32} {k : Int32} {n s j : Nat} (hj : j < n) (h : okB τ S k s j = false) : fitB τ S k n s = false := by
  cases e : fitB τ S k n s with
  | false => rfl
  | true =>
    have := List.all_eq_true.mp e j (List.mem_range.mpr hj)
    rw [h] at this
    cases this
theorem c_holds {X : XT} {d T n t i s : Nat} {h : HT} {Q : QT} {τ : CT} {S : Nat → Nat → Int32} (H : CTown h T τ) (C : CSig h n t S) (hn : n ≤ 30) (hi : i < n) (O : sOk S i) (hs : s < 128) : wq X (d + 1) 181 0 [some (.ref 179), some (.ref T), some (.int (nI i)), some (.int (nI s))] [] h Q = Q (some (.int (hoI τ S i s))) h := by
  have hp := ct_p H
  have hT := ct_T H
  have f1 : (nI i < 0) = False := oI_lt0 (by omega)
  have f3 : (nI i < 30) = True := eq_true (nI_lt (b := 30) (by omega) (by omega))
  have e3 : m_in (nI i) 30 = true := q_in (by omega) (by decide)
  have e4 : (nI i).toNatClampNeg = i := q_cl (by omega)
  have c0 : m_gI h 180 i = S 0 i := C.2.2 i hi 0 (by decide)
  have c1 : m_gI h 181 i = S 1 i := C.2.2 i hi 1 (by decide)
  obtain ⟨ok, ⟨w, hw, ew⟩, _⟩ := O
  have esw : sW S i = w := by
    unfold sW
    rw [ew]
    exact q_cl (by omega)
  have hb1 := bit01 hs hw
  have hb2 := bit01 (s128 (ct_ok H) s) hw
  have hps := pcN_le s hs
  unfold hoI hoB
  rw [esw]
  rcases ok with e | e | e
  · simp only [u181_0, u181_1, u181_4, u181_5, u181_7, u181_10, u181_11, u181_12, u181_13, u181_16, u181_17, u181_18, u181_44, u181_45, u181_46, u181_49, u181_50, u181_51, u181_52, u181_53, u181_54, u181_55, u181_58, u181_59, u181_62, u181_63, u181_64, u181_65, u181_66, u181_69, u181_70, u181_73, u181_74, u181_75, u181_76, u181_77, u181_78, u181_79, u181_82, u181_83, u181_86, u181_87, u181_88, u181_89, u181_92, u181_93, u181_96, u181_97, u181_98, u181_101, u181_102, u181_105, u181_106, eq_self, q_nl0, q_nlI, q_nlR, not_false_eq_true, q_nz0, q_nz1, q_zv0, q_zv1, q_tl1, q_tl0, q_wif, q_swc, q_swn, List.cons_append, List.nil_append, if_true, if_false, e10, e01, Bool.false_eq_true, sh_179, sh_180, sh_181, f1, f3, p_179_0 hp, p_179_1 hp, e3, e4, c0, c1, e, ew, q_t0, hb1, if_b1]
    split <;> rfl
  · simp only [u181_0, u181_1, u181_4, u181_5, u181_7, u181_10, u181_11, u181_12, u181_13, u181_16, u181_17, u181_18, u181_44, u181_45, u181_46, u181_49, u181_50, u181_51, u181_52, u181_53, u181_54, u181_55, u181_58, u181_59, u181_62, u181_63, u181_64, u181_65, u181_66, u181_69, u181_70, u181_73, u181_74, u181_75, u181_76, u181_77, u181_78, u181_79, u181_82, u181_83, u181_86, u181_87, u181_88, u181_89, u181_92, u181_93, u181_96, u181_97, u181_98, u181_101, u181_102, u181_105, u181_106, eq_self, q_nl0, q_nlI, q_nlR, not_false_eq_true, q_nz0, q_nz1, q_zv0, q_zv1, q_tl1, q_tl0, q_wif, q_swc, q_swn, List.cons_append, List.nil_append, if_true, if_false, e10, e01, Bool.false_eq_true, sh_179, sh_180, sh_181, shT_0 hT, f1, f3, p_179_0 hp, p_179_1 hp, e3, e4, c0, c1, e, ew, q_t0, q_t1, c_shortBy H hs, hb2, if_b1]
    split <;> rfl
  · have n20 : ((2 : Int32) = 0) = False := eq_false (by decide)
    have n21 : ((2 : Int32) = 1) = False := eq_false (by decide)
    have el : (nI (pcN s) < nI w) = ¬ w ≤ pcN s := by
      rw [nI_ltB (by omega) (by omega)]
      exact propext ⟨fun _ => by omega, fun _ => by omega⟩
    simp only [u181_0, u181_1, u181_4, u181_5, u181_7, u181_10, u181_11, u181_12, u181_13, u181_16, u181_17, u181_18, u181_44, u181_45, u181_46, u181_49, u181_50, u181_51, u181_52, u181_53, u181_54, u181_55, u181_58, u181_59, u181_62, u181_63, u181_64, u181_65, u181_66, u181_69, u181_70, u181_73, u181_74, u181_75, u181_76, u181_77, u181_78, u181_79, u181_82, u181_83, u181_86, u181_87, u181_88, u181_89, u181_92, u181_93, u181_96, u181_97, u181_98, u181_101, u181_102, u181_105, u181_106, eq_self, q_nl0, q_nlI, q_nlR, not_false_eq_true, q_nz0, q_nz1, q_zv0, q_zv1, q_tl1, q_tl0, q_wif, q_swc, q_swn, List.cons_append, List.nil_append, if_true, if_false, e10, e01, Bool.false_eq_true, sh_179, sh_180, sh_181, f1, f3, p_179_0 hp, p_179_1 hp, e3, e4, c0, c1, e, ew, q_t0, q_t1, n20, n21, c_bitCount hs, el, decide_eq_true_eq]
    by_cases z : w ≤ pcN s
    · simp only [z, not_true_eq_false, if_false, if_true]
    · simp only [z, not_false_eq_true, if_false, if_true]
theorem c_can {X : XT} {d T n t s : Nat} {h : HT} {Q : QT} {τ : CT} {S : Nat → Nat → Int32} {k : Int32} (H : CTown h T τ) (C : CSig h n t S) (hn : n ≤ 30) (O : ∀ i, i < n → sOk S i) (hs : s < 128) : wq X (d + 2) 180 0 [some (.ref 179), some (.ref T), some (.int (nI s)), some (.int k), none, none] [] h Q = Q (some (.int (if fitB τ S k n s = true then 1 else 0))) h := by
  have hp := ct_p H
  have hT := ct_T H
  have st : ∀ i, i < n → ∀ l5, ∃ l', wq X (d + 2) 180 3 [some (.ref 179), some (.ref T), some (.int (nI s)), some (.int k), some (.int (nI i)), l5] [] h Q = if okB τ S k s i = true then wq X (d + 2) 180 3 [some (.ref 179), some (.ref T), some (.int (nI s)), some (.int k), some (.int (nI (i + 1))), l'] [] h Q else Q (some (.int 0)) h := by
    intro i hi l5
    have f1 : (nI i < nI n) = True := eq_true (nI_lt hi (by omega))
    have f3 : (nI i < 30) = True := eq_true (nI_lt (b := 30) (by omega) (by omega))
    have e3 : m_in (nI i) 30 = true := q_in (by omega) (by decide)
    have e4 : (nI i).toNatClampNeg = i := q_cl (by omega)
    have c2 : m_gI h 182 i = S 2 i := C.2.2 i hi 2 (by decide)
    have c3 : m_gI h 183 i = S 3 i := C.2.2 i hi 3 (by decide)
    have c4 : m_gI h 184 i = S 4 i := C.2.2 i hi 4 (by decide)
    have ch := fun (Q : QT) => c_holds (X := X) (d := d) (Q := Q) (i := i) (s := s) H C hn hi (O i hi) hs
    refine ⟨some (.int (if (decide (¬ S 4 i = -1) && decide (¬ k < S 4 i)) = true then 1 else 0)), ?_⟩
    rw [u180_3]
    unfold okB
    simp only [u180_5, u180_6, u180_9, u180_12, u180_14, u180_16, u180_19, u180_20, u180_23, u180_25, u180_26, u180_27, u180_30, u180_31, u180_34, u180_36, u180_37, u180_38, u180_41, u180_42, u180_45, u180_46, eq_self, q_nl0, q_nlI, q_nlR, not_false_eq_true, q_nz0, q_nz1, q_zv0, q_zv1, q_tl1, q_tl0, q_wif, q_swc, q_swn, List.cons_append, List.nil_append, if_true, if_false, e10, e01, Bool.false_eq_true, sh_179, sh_184, C.1, f1, f3, p_179_4 hp, e3, e4, c4]
    by_cases a : S 4 i = -1
    · simp only [a, if_true, u180_45, u180_46, u180_48, u180_49, u180_52, u180_54, u180_55, u180_56, u180_59, u180_61, u180_64, u180_65, u180_66, u180_68, u180_69, u180_72, u180_73, u180_76, u180_78z, u180_78b, u180_79, u180_82, u180_83, u180_84, u180_87, eq_self, q_nl0, q_nlI, q_nlR, not_false_eq_true, q_nz0, q_nz1, q_zv0, q_zv1, q_tl1, q_tl0, q_wif, q_swc, q_swn, List.cons_append, List.nil_append, if_true, if_false, e10, e01, Bool.false_eq_true, sh_179, sh_182, sh_183, p_179_3 hp, p_179_2 hp, e3, e4, c3, c2, not_true_eq_false, decide_false, Bool.false_and, Bool.or_false, ch, nI_1]
      by_cases b : k < S 3 i
      · simp only [b, if_true, decide_true, Bool.true_or]
      · by_cases c : hoI τ S i s = S 2 i
        · simp only [b, c, if_true, if_false, decide_true, decide_false, Bool.or_true]
        · simp only [b, c, if_false, decide_false, Bool.or_false, Bool.false_eq_true]
    · by_cases a2 : k < S 4 i
      · simp only [a, a2, if_true, if_false, u180_30, u180_31, u180_34, u180_36, u180_37, u180_38, u180_41, u180_42, u180_45, u180_46, u180_48, u180_49, u180_52, u180_54, u180_55, u180_56, u180_59, u180_61, u180_64, u180_65, u180_66, u180_68, u180_69, u180_72, u180_73, u180_76, u180_78z, u180_78b, u180_79, u180_82, u180_83, u180_84, u180_87, eq_self, q_nl0, q_nlI, q_nlR, not_false_eq_true, q_nz0, q_nz1, q_zv0, q_zv1, q_tl1, q_tl0, q_wif, q_swc, q_swn, List.cons_append, List.nil_append, if_true, if_false, e10, e01, Bool.false_eq_true, sh_179, sh_182, sh_183, sh_184, p_179_3 hp, p_179_2 hp, p_179_4 hp, e3, e4, c3, c2, c4, not_true_eq_false, not_false_eq_true, decide_false, decide_true, Bool.and_false, Bool.or_false, ch, nI_1]
        by_cases b : k < S 3 i
        · simp only [b, if_true, decide_true, Bool.true_or]
        · by_cases c : hoI τ S i s = S 2 i
          · simp only [b, c, if_true, if_false, decide_true, decide_false, Bool.or_true]
          · simp only [b, c, if_false, decide_false, Bool.or_false, Bool.false_eq_true]
      · simp only [a, a2, if_false, u180_30, u180_31, u180_34, u180_36, u180_37, u180_38, u180_41, u180_42, u180_45, u180_46, u180_48, u180_49, u180_52, u180_54, u180_55, u180_56, u180_59, u180_61, u180_64, u180_65, u180_66, u180_68, u180_69, u180_72, u180_73, u180_76, u180_78z, u180_78b, u180_79, u180_82, u180_83, u180_84, u180_87, eq_self, q_nl0, q_nlI, q_nlR, not_false_eq_true, q_nz0, q_nz1, q_zv0, q_zv1, q_tl1, q_tl0, q_wif, q_swc, q_swn, List.cons_append, List.nil_append, if_true, if_false, e10, e01, Bool.false_eq_true, sh_179, sh_183, sh_184, p_179_3 hp, p_179_4 hp, e3, e4, c3, c4, not_false_eq_true, decide_true, Bool.and_true, Bool.or_true, Bool.true_or, if_true, ite_self, nI_1]
  simp only [u180_0, u180_1, eq_self, q_nl0, q_nlI, q_nlR, not_false_eq_true, q_nz0, q_nz1, q_zv0, q_zv1, q_tl1, q_tl0, q_wif, q_swc, q_swn, List.cons_append, List.nil_append, if_true, if_false, e10, e01, Bool.false_eq_true]
  have lp : ∀ j, j ≤ n → (∀ i, i < j → okB τ S k s i = true) → ∃ l', wq X (d + 2) 180 3 [some (.ref 179), some (.ref T), some (.int (nI s)), some (.int k), some (.int (nI 0)), none] [] h Q = wq X (d + 2) 180 3 [some (.ref 179), some (.ref T), some (.int (nI s)), some (.int k), some (.int (nI j)), l'] [] h Q := by
    intro j hj hz
    refine q_loopL (fun i (l5 : Option Value) => wq X (d + 2) 180 3 [some (.ref 179), some (.ref T), some (.int (nI s)), some (.int k), some (.int (nI i)), l5] [] h Q) j (fun i hi l5 => ?_) none
    obtain ⟨l', e⟩ := st i (by omega) l5
    exact ⟨l', by rw [e, if_pos (hz i hi)]⟩
  rcases ok_cases (p := okB τ S k s) n with hz | ⟨j, j1, j2, j3⟩
  · obtain ⟨l', e⟩ := lp n (Nat.le_refl _) hz
    rw [fit_t hz, if_pos rfl]
    refine Eq.trans e ?_
    rw [u180_3]
    simp only [u180_5, u180_6, u180_9, u180_90, u180_91, eq_self, q_nl0, q_nlI, q_nlR, not_false_eq_true, q_nz0, q_nz1, q_zv0, q_zv1, q_tl1, q_tl0, q_wif, q_swc, q_swn, List.cons_append, List.nil_append, if_true, if_false, e10, e01, Bool.false_eq_true, sh_179, C.1, eq_false (nI_nlt (Nat.le_refl n) (by omega))]
  · obtain ⟨l', e⟩ := lp j (by omega) j3
    obtain ⟨l2, e2⟩ := st j j1 l'
    rw [fit_f j1 j2, if_neg Bool.false_ne_true]
    refine Eq.trans e ?_
    rw [e2, j2, if_neg Bool.false_ne_true]
