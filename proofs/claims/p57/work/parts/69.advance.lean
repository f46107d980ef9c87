/-! the next token -/
/-- what reading a token may change -/
def FrT (h g : HT) : Prop := (∀ c k, m_gR g c k = m_gR h c k) ∧ (∀ c k, c ≠ 2 ∨ k = 1 → m_gI g c k = m_gI h c k) ∧ ∀ c k, c ≠ 2 → m_gL g c k = m_gL h c k
theorem FrT_hT {h : HT} {a b c e : Int32} {w : Int64} : FrT h (hT h a b c e w) := by
  refine ⟨fun _ _ => rfl, fun x k z => ?_, fun x k z => ?_⟩
  · show (if x = 2 then _ else h.1 x k) = h.1 x k
    rcases z with z | z
    · rw [if_neg z]
    · subst z
      split
      · rfl
      · rfl
  · show (if x = 2 ∧ k = 5 then _ else h.2.1 x k) = h.2.1 x k
    rw [if_neg (fun q => z q.1)]
theorem Tp_hT {h : HT} {L : Nat} {V : Nat → Nat} {a b c e : Int32} {w : Int64} (T : Tp h L V) : Tp (hT h a b c e w) L V := T
theorem lt_n {a L : Nat} (h1 : a < 2 ^ 31) (h2 : L < 2 ^ 31) : (nI a < nI L) = (a < L) := nI_ltB h1 h2
theorem c_blank {X : XT} {d p L : Nat} {h : HT} {V : Nat → Nat} {a b e : Int32} {w : Int64} (T : Tp h L V) (hp : p ≤ L) (Q : QT) : wq X (d + 4) 19 0 [some (.ref 2), none] [] (hT h a b (nI p) e w) Q = wq X (d + 4) 19 50 [some (.ref 2), none] [] (hT h a b (nI (tS V L p)) e w) Q := by
  have hL := T.2.2.1
  have e0 := q_loop (fun j => wq X (d + 4) 19 0 [some (.ref 2), none] [] (hT h a b (nI (p + j)) e w) Q) (rl (isBl V L) L p) (fun j hj => by
    have z := of_decide_eq_true (rl_lt (P := isBl V L) L p j hj)
    have e1 : (nI (p + j) < nI L) = True := eq_true (nI_lt z.1 (by omega))
    have cb := fun (Q : QT) => c_byteAt (X := X) (d := d + 3) (p := p + j) (a := a) (b := b) (c := nI (p + j)) (e := e) (w := w) (Q := Q) T (by omega)
    have eb : bA V L (p + j) = nI (V (p + j)) := if_pos z.1
    have hv := T.2.2.2 _ z.1
    have f1 : (nI (V (p + j)) = 32) = (V (p + j) = 32) := nI_eqB (b := 32) (by omega) (by decide)
    have f2 : (nI (V (p + j)) = 10) = (V (p + j) = 10) := nI_eqB (b := 10) (by omega) (by decide)
    have n1 : nI (p + j) + 1 = nI (p + (j + 1)) := nI_1 _
    show wq X (d + 4) 19 0 _ _ _ _ = _
    rw [u19_0]
    by_cases y : V (p + j) = 32
    · simp only [u19_1, u19_4, u19_5, u19_8, u19_11, u19_12, u19_13, u19_16, u19_19, u19_21, u19_24, u19_25, u19_26, u19_29, u19_32, u19_34, u19_37, u19_38, u19_39, u19_42, u19_43, u19_44, u19_47, eq_self, q_nl0, q_nlI, q_nlR, not_false_eq_true, q_nz0, q_nz1, q_zv0, q_zv1, q_tl1, q_tl0, q_wif, q_swc, q_swn, List.cons_append, List.nil_append, if_true, if_false, e10, e01, Bool.false_eq_true, sh_2, hT_4, hT_1, T.2.1.1, e1, cb, eb, f1, eq_true y, n1, hT_s4, Option.toList]
    · have y2 : V (p + j) = 10 := z.2.resolve_left y
      simp only [u19_1, u19_4, u19_5, u19_8, u19_11, u19_12, u19_13, u19_16, u19_19, u19_21, u19_24, u19_25, u19_26, u19_29, u19_32, u19_34, u19_37, u19_38, u19_39, u19_42, u19_43, u19_44, u19_47, eq_self, q_nl0, q_nlI, q_nlR, not_false_eq_true, q_nz0, q_nz1, q_zv0, q_zv1, q_tl1, q_tl0, q_wif, q_swc, q_swn, List.cons_append, List.nil_append, if_true, if_false, e10, e01, Bool.false_eq_true, sh_2, hT_4, hT_1, T.2.1.1, e1, cb, eb, f1, f2, eq_false y, eq_true y2, n1, hT_s4, Option.toList])
  refine Eq.trans e0 ?_
  show wq X (d + 4) 19 0 _ _ (hT h a b (nI (tS V L p)) e w) _ = _
  have hs := tS_L (V := V) hp
  have st : isBl V L (tS V L p) = false := rl_stop isBl_L _ _ (by omega)
  generalize tS V L p = s at hs st ⊢
  have e1 : (nI s < nI L) = (s < L) := lt_n (by omega) (by omega)
  rw [u19_0]
  by_cases z : s < L
  · have st' := of_decide_eq_false st
    have cb := fun (Q : QT) => c_byteAt (X := X) (d := d + 3) (p := s) (a := a) (b := b) (c := nI s) (e := e) (w := w) (Q := Q) T (by omega)
    have eb : bA V L s = nI (V s) := if_pos z
    have hv := T.2.2.2 _ z
    have f1 : (nI (V s) = 32) = False := eq_false (fun q => st' ⟨z, Or.inl ((nI_eq (b := 32) (by omega) (by decide)).mp q)⟩)
    have f2 : (nI (V s) = 10) = False := eq_false (fun q => st' ⟨z, Or.inr ((nI_eq (b := 10) (by omega) (by decide)).mp q)⟩)
    simp only [u19_1, u19_4, u19_5, u19_8, u19_11, u19_12, u19_13, u19_16, u19_19, u19_21, u19_24, u19_25, u19_26, u19_29, u19_32, u19_34, eq_self, q_nl0, q_nlI, q_nlR, not_false_eq_true, q_nz0, q_nz1, q_zv0, q_zv1, q_tl1, q_tl0, q_wif, q_swc, q_swn, List.cons_append, List.nil_append, if_true, if_false, e10, e01, Bool.false_eq_true, sh_2, hT_4, hT_1, T.2.1.1, e1, eq_true z, cb, eb, f1, f2, Option.toList]
  · simp only [u19_1, u19_4, u19_5, u19_8, eq_self, q_nl0, q_nlI, q_nlR, not_false_eq_true, q_nz0, q_nz1, q_zv0, q_zv1, q_tl1, q_tl0, q_wif, q_swc, q_swn, List.cons_append, List.nil_append, if_true, if_false, e10, e01, Bool.false_eq_true, sh_2, hT_4, hT_1, T.2.1.1, e1, eq_false z]
theorem nI_64 {v : Nat} (h : v < 2 ^ 31) : (nI v).toInt64 = nL v := by
  apply Int64.toInt_inj.mp
  rw [Int32.toInt_toInt64, nI_toInt h]
  unfold nL
  rw [Int64.toInt_ofNat_of_lt (by omega)]
theorem nL_w {w v : Nat} (h1 : 97 ≤ v) (h : v < 256) : nL w * 32 + (nI v).toInt64 - 97 + 1 = nL (w * 32 + (v - 96)) := by
  rw [nI_64 (by omega)]
  show Int64.ofNat w * Int64.ofNat 32 + Int64.ofNat v - Int64.ofNat 97 + Int64.ofNat 1 = Int64.ofNat (w * 32 + (v - 96))
  rw [← Int64.ofNat_mul, ← Int64.ofNat_add, ← Int64.ofNat_sub _ _ (by omega), ← Int64.ofNat_add]
  congr 1
  omega
theorem nI_dg {a v : Nat} (h1 : 48 ≤ v) : nI a * 10 + nI v - 48 = nI (a * 10 + (v - 48)) := by
  rw [show (10 : Int32) = nI 10 from rfl, show (48 : Int32) = nI 48 from rfl, pk_mul, nI_add, pk_sub (by omega)]
  congr 1
  omega
theorem c_advance {X : XT} {d p L : Nat} {h : HT} {V : Nat → Nat} (T : Tp h L V) (hp : p ≤ L) (h4 : m_gI h 2 4 = nI p) : ∃ g, FrT h g ∧ TkC g L V (tS V L p) ∧ ∀ Q : QT, wq X (d + 4) 19 0 [some (.ref 2), none] [] h Q = Q none g := by
  have hL := T.2.2.1
  have hh : h = hT h (m_gI h 2 2) (m_gI h 2 3) (nI p) (m_gI h 2 6) (m_gL h 2 5) := by
    rw [← h4]
    exact hT_id
  generalize m_gI h 2 2 = a at hh
  generalize m_gI h 2 3 = b at hh
  generalize m_gI h 2 6 = e at hh
  generalize m_gL h 2 5 = w at hh
  have bl := fun (Q : QT) => c_blank (X := X) (d := d) (a := a) (b := b) (e := e) (w := w) T hp Q
  rw [← hh] at bl
  have hs := tS_L (V := V) hp
  generalize tS V L p = s at bl hs ⊢
  have e1 : (nI s < nI L) = (s < L) := lt_n (by omega) (by omega)
  have cb := fun (Q : QT) (p : Nat) (hp : p ≤ 1600) (a b c e : Int32) (w : Int64) => c_byteAt (X := X) (d := d + 3) (p := p) (a := a) (b := b) (c := c) (e := e) (w := w) (Q := Q) T hp
  have hb : ∀ Q : QT, wq X (d + 4) 19 50 [some (.ref 2), none] [] (hT h a b (nI s) e w) Q = if s < L then wq X (d + 4) 19 86 [some (.ref 2), some (.int (bA V L s))] [] (hT h a (nI s) (nI s) e w) Q else wq X (d + 4) 19 78 [some (.ref 2), some (.int (bA V L s))] [] (hT h a (nI s) (nI s) e w) Q := fun Q => by
    simp only [u19_50, u19_51, u19_52, u19_55, u19_58, u19_59, u19_60, u19_63, u19_66, u19_67, u19_68, u19_71, u19_72, u19_75, eq_self, q_nl0, q_nlI, q_nlR, not_false_eq_true, q_nz0, q_nz1, q_zv0, q_zv1, q_tl1, q_tl0, q_wif, q_swc, q_swn, List.cons_append, List.nil_append, if_true, if_false, e10, e01, Bool.false_eq_true, sh_2, hT_4, hT_3, hT_1, hT_s3, T.2.1.1, e1, cb _ s (by omega), Option.toList]
  by_cases zL : s < L
  · have eK : ∀ {α : Type} {x y : α}, (if L ≤ s then x else y) = y := if_neg (by omega)
    by_cases zl : isLt V L s = true
    · -- a word
      have hn : s + nLt V L s ≤ L := rl_le isLt_L _ _ (by omega)
      have ek : tK V L s = if nLt V L s ≤ 8 then 1 else 4 := by
        unfold tK
        rw [eK, if_pos zl]
      have ee : tE V L s = s + nLt V L s := by
        unfold tE
        rw [eK, if_pos zl]
      refine ⟨hT h (nI (tK V L s)) (nI s) (nI (s + nLt V L s)) e (nL (wN V s (nLt V L s))), FrT_hT, ⟨Tp_hT T, hs, rfl, rfl, ?_, fun _ => rfl, fun q => ?_⟩, fun Q => ?_⟩
      · rw [ee]
        rfl
      · rw [ek] at q
        split at q <;> cases q
      · rw [bl, hb, if_pos zL]
        have lp := q_loop (fun j => wq X (d + 4) 19 98 [some (.ref 2), some (.int (bA V L s))] [] (hT h a (nI s) (nI (s + j)) e (nL (wN V s j))) Q) (nLt V L s) (fun j hj => by
          have z := rl_lt (P := isLt V L) L s j hj
          have z' := of_decide_eq_true z
          have f1 : (nI (s + j) < nI L) = True := eq_true (nI_lt z'.1 (by omega))
          have eb : bA V L (s + j) = nI (V (s + j)) := if_pos z'.1
          have n1 : nI (s + j) + 1 = nI (s + (j + 1)) := nI_1 _
          have cl := fun (h : HT) (Q : QT) => c_isLetter (X := X) (d := d + 3) (p := s + j) (h := h) (Q := Q) T.2.2.2
          rw [eb] at cl
          show wq X (d + 4) 19 98 _ _ _ _ = _
          rw [u19_98]
          simp only [u19_99, u19_102, u19_103, u19_106, u19_109, u19_110, u19_111, u19_114, u19_117, u19_120, u19_123, u19_124, u19_125, u19_128, u19_129, u19_130, u19_133, u19_136, u19_139, u19_142, u19_143, u19_144, u19_147, u19_148, u19_149, u19_152, eq_self, q_nl0, q_nlI, q_nlR, not_false_eq_true, q_nz0, q_nz1, q_zv0, q_zv1, q_tl1, q_tl0, q_wif, q_swc, q_swn, List.cons_append, List.nil_append, if_true, if_false, e10, e01, Bool.false_eq_true, sh_2, hT_4, hT_1, hT_5, hT_s4, hT_s5, T.2.1.1, f1, cb _ (s + j) (by omega), eb, cl, z, c_withL, nL_w z'.2.1 (T.2.2.2 _ z'.1), n1, Option.toList]
          rfl)
        have st : isLt V L (s + nLt V L s) = false := rl_stop isLt_L _ _ (by omega)
        have cl0 := fun (h : HT) (Q : QT) => c_isLetter (X := X) (d := d + 3) (p := s) (h := h) (Q := Q) T.2.2.2
        have cl1 := fun (h : HT) (Q : QT) => c_isLetter (X := X) (d := d + 3) (p := s + nLt V L s) (h := h) (Q := Q) T.2.2.2
        simp only [u19_86, u19_87, u19_90, u19_93, u19_94, u19_95, eq_self, q_nl0, q_nlI, q_nlR, not_false_eq_true, q_nz0, q_nz1, q_zv0, q_zv1, q_tl1, q_tl0, q_wif, q_swc, q_swn, List.cons_append, List.nil_append, if_true, if_false, e10, e01, Bool.false_eq_true, sh_2, cl0, zl, hT_s5, Option.toList]
        refine Eq.trans lp ?_
        have f1 : (nI (s + nLt V L s) < nI L) = (s + nLt V L s < L) := lt_n (by omega) (by omega)
        have ex : ∀ hh : HT, wq X (d + 4) 19 98 [some (.ref 2), some (.int (bA V L s))] [] (hT h a (nI s) (nI (s + nLt V L s)) e (nL (wN V s (nLt V L s)))) Q = wq X (d + 4) 19 155 [some (.ref 2), some (.int (bA V L s))] [] (hT h a (nI s) (nI (s + nLt V L s)) e (nL (wN V s (nLt V L s)))) Q := fun _ => by
          rw [u19_98]
          by_cases y : s + nLt V L s < L
          · simp only [u19_99, u19_102, u19_103, u19_106, u19_109, u19_110, u19_111, u19_114, u19_117, u19_120, eq_self, q_nl0, q_nlI, q_nlR, not_false_eq_true, q_nz0, q_nz1, q_zv0, q_zv1, q_tl1, q_tl0, q_wif, q_swc, q_swn, List.cons_append, List.nil_append, if_true, if_false, e10, e01, Bool.false_eq_true, sh_2, hT_4, hT_1, T.2.1.1, f1, eq_true y, cb _ (s + nLt V L s) (by omega), cl1, st, Option.toList]
          · simp only [u19_99, u19_102, u19_103, u19_106, u19_109, u19_110, u19_111, u19_114, u19_117, u19_120, eq_self, q_nl0, q_nlI, q_nlR, not_false_eq_true, q_nz0, q_nz1, q_zv0, q_zv1, q_tl1, q_tl0, q_wif, q_swc, q_swn, List.cons_append, List.nil_append, if_true, if_false, e10, e01, Bool.false_eq_true, sh_2, hT_4, hT_1, T.2.1.1, f1, eq_false y]
        refine Eq.trans (ex h) ?_
        have sb : nI (s + nLt V L s) - nI s = nI (nLt V L s) := by
          rw [pk_sub (by omega)]
          congr 1
          omega
        have f8 : (8 < nI (nLt V L s)) = (8 < nLt V L s) := nI_ltB (a := 8) (by decide) (by omega)
        rw [ek]
        by_cases y : nLt V L s ≤ 8
        · rw [if_pos y]
          simp only [u19_155, u19_156, u19_157, u19_160, u19_161, u19_164, u19_165, u19_167, u19_170, u19_171, u19_174, u19_175, u19_178, u19_322, eq_self, q_nl0, q_nlI, q_nlR, not_false_eq_true, q_nz0, q_nz1, q_zv0, q_zv1, q_tl1, q_tl0, q_wif, q_swc, q_swn, List.cons_append, List.nil_append, if_true, if_false, e10, e01, Bool.false_eq_true, sh_2, hT_4, hT_3, hT_s2, sb, f8, eq_false (show ¬ 8 < nLt V L s by omega)]
          rfl
        · rw [if_neg y]
          simp only [u19_155, u19_156, u19_157, u19_160, u19_161, u19_164, u19_165, u19_167, u19_170, u19_171, u19_174, u19_175, u19_178, u19_322, eq_self, q_nl0, q_nlI, q_nlR, not_false_eq_true, q_nz0, q_nz1, q_zv0, q_zv1, q_tl1, q_tl0, q_wif, q_swc, q_swn, List.cons_append, List.nil_append, if_true, if_false, e10, e01, Bool.false_eq_true, sh_2, hT_4, hT_3, hT_s2, sb, f8, eq_true (show 8 < nLt V L s by omega)]
          rfl
    · have zl' : isLt V L s = false := by simpa using zl
      have cl0 := fun (h : HT) (Q : QT) => c_isLetter (X := X) (d := d + 3) (p := s) (h := h) (Q := Q) T.2.2.2
      by_cases zd : isDg V L s = true
      · -- a number
        have hn : s + nDg V L s ≤ L := rl_le isDg_L _ _ (by omega)
        have ek : tK V L s = if nDg V L s ≤ 4 then if isLt V L (s + nDg V L s) = true then 4 else 2 else 4 := by
          unfold tK
          rw [eK, if_neg zl, if_pos zd]
        have ee : tE V L s = s + nDg V L s := by
          unfold tE
          rw [eK, if_neg zl, if_pos zd]
        refine ⟨hT h (nI (tK V L s)) (nI s) (nI (s + nDg V L s)) (nI (dN V s (nDg V L s))) w, FrT_hT, ⟨Tp_hT T, hs, rfl, rfl, ?_, fun q => ?_, fun _ => rfl⟩, fun Q => ?_⟩
        · rw [ee]
          rfl
        · rw [ek] at q
          split at q
          · split at q <;> cases q
          · cases q
        · rw [bl, hb, if_pos zL]
          have lp := q_loop (fun j => wq X (d + 4) 19 193 [some (.ref 2), some (.int (bA V L s))] [] (hT h a (nI s) (nI (s + j)) (nI (dN V s j)) w) Q) (nDg V L s) (fun j hj => by
            have z := rl_lt (P := isDg V L) L s j hj
            have z' := of_decide_eq_true z
            have f1 : (nI (s + j) < nI L) = True := eq_true (nI_lt z'.1 (by omega))
            have eb : bA V L (s + j) = nI (V (s + j)) := if_pos z'.1
            have n1 : nI (s + j) + 1 = nI (s + (j + 1)) := nI_1 _
            have cl := fun (h : HT) (Q : QT) => c_isDigit (X := X) (d := d + 3) (p := s + j) (h := h) (Q := Q) T.2.2.2
            rw [eb] at cl
            show wq X (d + 4) 19 193 _ _ _ _ = _
            rw [u19_193]
            simp only [u19_194, u19_197, u19_198, u19_201, u19_204, u19_205, u19_206, u19_209, u19_212, u19_215, u19_218, u19_219, u19_220, u19_223, u19_225, u19_226, u19_227, u19_228, u19_231, u19_234, u19_235, u19_237, u19_238, u19_241, u19_242, u19_243, u19_246, u19_247, u19_248, u19_251, eq_self, q_nl0, q_nlI, q_nlR, not_false_eq_true, q_nz0, q_nz1, q_zv0, q_zv1, q_tl1, q_tl0, q_wif, q_swc, q_swn, List.cons_append, List.nil_append, if_true, if_false, e10, e01, Bool.false_eq_true, sh_2, hT_4, hT_1, hT_6, hT_s4, hT_s6, T.2.1.1, f1, cb _ (s + j) (by omega), eb, cl, z, nI_dg z'.2.1, n1, Option.toList]
            rfl)
          have st : isDg V L (s + nDg V L s) = false := rl_stop isDg_L _ _ (by omega)
          have cd0 := fun (h : HT) (Q : QT) => c_isDigit (X := X) (d := d + 3) (p := s) (h := h) (Q := Q) T.2.2.2
          have cd1 := fun (h : HT) (Q : QT) => c_isDigit (X := X) (d := d + 3) (p := s + nDg V L s) (h := h) (Q := Q) T.2.2.2
          have cl1 := fun (h : HT) (Q : QT) => c_isLetter (X := X) (d := d + 3) (p := s + nDg V L s) (h := h) (Q := Q) T.2.2.2
          simp only [u19_86, u19_87, u19_90, u19_181, u19_182, u19_185, u19_188, u19_189, u19_190, eq_self, q_nl0, q_nlI, q_nlR, not_false_eq_true, q_nz0, q_nz1, q_zv0, q_zv1, q_tl1, q_tl0, q_wif, q_swc, q_swn, List.cons_append, List.nil_append, if_true, if_false, e10, e01, Bool.false_eq_true, sh_2, cl0, zl', cd0, zd, hT_s6, Option.toList]
          refine Eq.trans lp ?_
          have f1 : (nI (s + nDg V L s) < nI L) = (s + nDg V L s < L) := lt_n (by omega) (by omega)
          have ex : wq X (d + 4) 19 193 [some (.ref 2), some (.int (bA V L s))] [] (hT h a (nI s) (nI (s + nDg V L s)) (nI (dN V s (nDg V L s))) w) Q = wq X (d + 4) 19 254 [some (.ref 2), some (.int (bA V L s))] [] (hT h a (nI s) (nI (s + nDg V L s)) (nI (dN V s (nDg V L s))) w) Q := by
            rw [u19_193]
            by_cases y : s + nDg V L s < L
            · simp only [u19_194, u19_197, u19_198, u19_201, u19_204, u19_205, u19_206, u19_209, u19_212, u19_215, eq_self, q_nl0, q_nlI, q_nlR, not_false_eq_true, q_nz0, q_nz1, q_zv0, q_zv1, q_tl1, q_tl0, q_wif, q_swc, q_swn, List.cons_append, List.nil_append, if_true, if_false, e10, e01, Bool.false_eq_true, sh_2, hT_4, hT_1, T.2.1.1, f1, eq_true y, cb _ (s + nDg V L s) (by omega), cd1, st, Option.toList]
            · simp only [u19_194, u19_197, u19_198, u19_201, u19_204, u19_205, u19_206, u19_209, u19_212, u19_215, eq_self, q_nl0, q_nlI, q_nlR, not_false_eq_true, q_nz0, q_nz1, q_zv0, q_zv1, q_tl1, q_tl0, q_wif, q_swc, q_swn, List.cons_append, List.nil_append, if_true, if_false, e10, e01, Bool.false_eq_true, sh_2, hT_4, hT_1, T.2.1.1, f1, eq_false y]
          refine Eq.trans ex ?_
          have sb : nI (s + nDg V L s) - nI s = nI (nDg V L s) := by
            rw [pk_sub (by omega)]
            congr 1
            omega
          have f8 : (4 < nI (nDg V L s)) = (4 < nDg V L s) := nI_ltB (a := 4) (by decide) (by omega)
          rw [ek]
          by_cases y : nDg V L s ≤ 4
          · rw [if_pos y]
            by_cases x : isLt V L (s + nDg V L s) = true
            · rw [if_pos x]
              simp only [u19_254, u19_255, u19_256, u19_259, u19_260, u19_263, u19_264, u19_265, u19_268, u19_269, u19_270, u19_273, u19_276, u19_279, u19_282, u19_283, u19_286, u19_287, u19_290, u19_322, eq_self, q_nl0, q_nlI, q_nlR, not_false_eq_true, q_nz0, q_nz1, q_zv0, q_zv1, q_tl1, q_tl0, q_wif, q_swc, q_swn, List.cons_append, List.nil_append, if_true, if_false, e10, e01, Bool.false_eq_true, sh_2, hT_4, hT_3, hT_s2, sb, f8, eq_false (show ¬ 4 < nDg V L s by omega), cb _ (s + nDg V L s) (by omega), cl1, x, Option.toList]
              rfl
            · have x' : isLt V L (s + nDg V L s) = false := by simpa using x
              rw [if_neg x]
              simp only [u19_254, u19_255, u19_256, u19_259, u19_260, u19_263, u19_264, u19_265, u19_268, u19_269, u19_270, u19_273, u19_276, u19_279, u19_282, u19_283, u19_286, u19_287, u19_290, u19_322, eq_self, q_nl0, q_nlI, q_nlR, not_false_eq_true, q_nz0, q_nz1, q_zv0, q_zv1, q_tl1, q_tl0, q_wif, q_swc, q_swn, List.cons_append, List.nil_append, if_true, if_false, e10, e01, Bool.false_eq_true, sh_2, hT_4, hT_3, hT_s2, sb, f8, eq_false (show ¬ 4 < nDg V L s by omega), cb _ (s + nDg V L s) (by omega), cl1, x', Option.toList]
              rfl
          · rw [if_neg y]
            simp only [u19_254, u19_255, u19_256, u19_259, u19_260, u19_263, u19_264, u19_265, u19_268, u19_269, u19_270, u19_273, u19_276, u19_279, u19_282, u19_283, u19_286, u19_287, u19_290, u19_322, eq_self, q_nl0, q_nlI, q_nlR, not_false_eq_true, q_nz0, q_nz1, q_zv0, q_zv1, q_tl1, q_tl0, q_wif, q_swc, q_swn, List.cons_append, List.nil_append, if_true, if_false, e10, e01, Bool.false_eq_true, sh_2, hT_4, hT_3, hT_s2, sb, f8, eq_true (show 4 < nDg V L s by omega)]
            rfl
      · have zd' : isDg V L s = false := by simpa using zd
        have cd0 := fun (h : HT) (Q : QT) => c_isDigit (X := X) (d := d + 3) (p := s) (h := h) (Q := Q) T.2.2.2
        have ek : tK V L s = if isSg (V s) = true then 3 else 4 := by
          unfold tK
          rw [eK, if_neg zl, if_neg zd]
        have ee : tE V L s = s + 1 := by
          unfold tE
          rw [eK, if_neg zl, if_neg zd]
        refine ⟨hT h (nI (tK V L s)) (nI s) (nI (s + 1)) e w, FrT_hT, ⟨Tp_hT T, hs, rfl, rfl, ?_, fun q => ?_, fun q => ?_⟩, fun Q => ?_⟩
        · rw [ee]
          rfl
        · rw [ek] at q
          split at q <;> cases q
        · rw [ek] at q
          split at q <;> cases q
        · rw [bl, hb, if_pos zL]
          have hv := T.2.2.2 s zL
          have eb : bA V L s = nI (V s) := if_pos zL
          obtain ⟨x, x1, x2⟩ := c_indexOf (X := X) (d := d) (h := hT h a (nI s) (nI s) e w) (i := 0) (by decide) hv
          simp only [u19_86, u19_87, u19_90, u19_181, u19_182, u19_185, eq_self, q_nl0, q_nlI, q_nlR, not_false_eq_true, q_nz0, q_nz1, q_zv0, q_zv1, q_tl1, q_tl0, q_wif, q_swc, q_swn, List.cons_append, List.nil_append, if_true, if_false, e10, e01, Bool.false_eq_true, sh_2, cl0, zl', cd0, zd', Option.toList]
          rw [eb]
          rw [ek]
          by_cases y : nI (V s) ∈ m_tx 0
          · have xf : (x < 0) = False := by
              rw [x1]
              exact eq_false (fun q => q y)
            rw [if_pos (show isSg (V s) = true from decide_eq_true y)]
            simp only [u19_293, u19_294, u19_296, u19_297, u19_298 (r0 := 10) (by decide), u19_301, u19_304, u19_305, u19_308, u19_309, u19_312, u19_313, u19_314, u19_317, u19_318, u19_319, u19_322, eq_self, q_nl0, q_nlI, q_nlR, not_false_eq_true, q_nz0, q_nz1, q_zv0, q_zv1, q_tl1, q_tl0, q_wif, q_swc, q_swn, List.cons_append, List.nil_append, if_true, if_false, e10, e01, Bool.false_eq_true, sh_2, ch_v _ hv, x2, xf, hT_s2, hT_4, hT_s4, nI_1, Option.toList]
            rfl
          · have xt : (x < 0) = True := by
              rw [x1]
              exact eq_true y
            rw [if_neg (show ¬ isSg (V s) = true from fun q => y (of_decide_eq_true q))]
            simp only [u19_293, u19_294, u19_296, u19_297, u19_298 (r0 := 10) (by decide), u19_301, u19_304, u19_305, u19_308, u19_309, u19_312, u19_313, u19_314, u19_317, u19_318, u19_319, u19_322, eq_self, q_nl0, q_nlI, q_nlR, not_false_eq_true, q_nz0, q_nz1, q_zv0, q_zv1, q_tl1, q_tl0, q_wif, q_swc, q_swn, List.cons_append, List.nil_append, if_true, if_false, e10, e01, Bool.false_eq_true, sh_2, ch_v _ hv, x2, xt, hT_s2, hT_4, hT_s4, nI_1, Option.toList]
            rfl
  · have eK : ∀ {α : Type} {x y : α}, (if L ≤ s then x else y) = x := if_pos (by omega)
    have ek : tK V L s = 0 := by
      unfold tK
      rw [eK]
    have ee : tE V L s = s := by
      unfold tE
      rw [eK]
    refine ⟨hT h (nI (tK V L s)) (nI s) (nI s) e w, FrT_hT, ⟨Tp_hT T, hs, rfl, rfl, ?_, fun q => ?_, fun q => ?_⟩, fun Q => ?_⟩
    · rw [ee]
      rfl
    · rw [ek] at q
      cases q
    · rw [ek] at q
      cases q
    · rw [bl, hb, if_neg zL, ek]
      simp only [u19_78, u19_79, u19_80, u19_83, u19_322, eq_self, q_nl0, q_nlI, q_nlR, not_false_eq_true, q_nz0, q_nz1, q_zv0, q_zv1, q_tl1, q_tl0, q_wif, q_swc, q_swn, List.cons_append, List.nil_append, if_true, if_false, e10, e01, Bool.false_eq_true, sh_2, hT_s2]
      rfl
