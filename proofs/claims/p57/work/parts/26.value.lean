/-! the formula's run is its value -/
def fSw : List (Int × Nat) := [(-7, 131), (-6, 122), (-5, 113), (-4, 104), (-3, 96), (-2, 88), (-1, 80)]
theorem fSw_n {n : Nat} (h : n < 10000) : m_swt [(-7, 131), (-6, 122), (-5, 113), (-4, 104), (-3, 96), (-2, 88), (-1, 80)] 150 (nI n).toInt = 150 := by
  rw [nI_toInt (by omega)]
  simp only [q_swc, q_swn]
  rw [if_neg (by omega), if_neg (by omega), if_neg (by omega), if_neg (by omega), if_neg (by omega), if_neg (by omega), if_neg (by omega)]
theorem fSw_b : ∀ k ∈ fBins, m_swt [(-7, 131), (-6, 122), (-5, 113), (-4, 104), (-3, 96), (-2, 88), (-1, 80)] 150 (clsC k 0).toInt = 150 ∧ clsC k 0 < 0 := by decide +kernel
theorem clsC_0 {k n : Nat} (h : k ≠ 110) : clsC k n = clsC k 0 := by
  unfold clsC
  rw [if_neg h, if_neg h]
theorem fBins_n {k : Nat} (h : k ∈ fBins) : k ≠ 110 := by
  have : ∀ k ∈ fBins, k ≠ 110 := by decide
  exact this k h
theorem hG_0 {h : HT} {T n : Nat} : m_sI h (T + 10) 4 (nI n) = hG h T n (m_gI h (T + 12)) := by
  apply hx
  · intro b j
    show (if b = T + 10 ∧ j = 4 then nI n else h.1 b j) = if b = T + 12 then h.1 (T + 12) j else if b = T + 10 ∧ j = 4 then nI n else h.1 b j
    by_cases z : b = T + 12
    · rw [if_neg (by omega), if_pos z, z]
    · rw [if_neg z]
  · rfl
theorem c_valL {X : XT} {d T : Nat} {h : HT} {Q : QT} {τ : CT} {c : Nat → Int32} {a1 a2 a3 a4 a5 a6 : Int32} (H : CTown h T τ) (F : fOk τ) (h0 : 0 < τ 0 9) :
    ∀ k i (l8 l9 : Option Value), i + k = τ 0 9 → wq X (d + 1) 87 8 [some (.ref (T + 10)), some (.int a1), some (.int a2), some (.int a3), some (.int a4), some (.int a5), some (.int a6), some (.int (nI i)), l8, l9] [] (hG h T (fH τ i) (fC τ (a1, a2, a3, a4, a5, a6) c i)) Q = Q (some (.int (fC τ (a1, a2, a3, a4, a5, a6) c (τ 0 9) 0))) (hG h T 0 (fC τ (a1, a2, a3, a4, a5, a6) c (τ 0 9)))
  | 0, i, l8, l9, hi => by
    have hT := ct_T H
    have hp := ct_p H
    have hi' : i = τ 0 9 := by omega
    subst hi'
    rw [F.2.2 h0]
    have e1 : ∀ c, m_gI (hG h T 1 c) (T + 10) 1 = nI (τ 0 9) := fun c => (gI_hGo (by omega) (Or.inr (by decide))).trans (ct_fl H)
    have e2 : (nI (τ 0 9) < nI (τ 0 9)) = False := eq_false (nI_nlt (Nat.le_refl _) (by have := F.1; omega))
    simp only [u87_8, u87_10, u87_11, u87_14, u87_191, u87_192, u87_195, eq_self, q_nl0, q_nlI, q_nlR, not_false_eq_true, q_nz0, q_nz1, q_zv0, q_zv1, q_tl1, q_tl0, q_wif, q_swc, q_swn, List.cons_append, List.nil_append, shT_10 hT, e1, e2, if_false, c_pop (n := 0) hT hp (by omega)]
  | k + 1, i, l8, l9, hi => by
    have hT := ct_T H
    have hp := ct_p H
    have hl := F.1
    have ih := c_valL (X := X) (d := d) (T := T) (h := h) (Q := Q) (c := c) (a1 := a1) (a2 := a2) (a3 := a3) (a4 := a4) (a5 := a5) (a6 := a6) H F h0 k (i + 1)
    have e1 : ∀ n c, m_gI (hG h T n c) (T + 10) 1 = nI (τ 0 9) := fun n c => (gI_hGo (by omega) (Or.inr (by decide))).trans (ct_fl H)
    have e2 : (nI i < nI (τ 0 9)) = True := eq_true (nI_lt (by omega) (by omega))
    have e3 : (nI i < Int32.ofNat 1600) = True := eq_true (nI_lt (b := 1600) (by omega) (by omega))
    have e4 : (Nat.ble 20 20 && Nat.blt 20 99) = true := by decide
    have e5 : m_in (nI i) 1600 = true := q_in (by omega) (by decide)
    have e6 : ∀ n c, m_gI (hG h T n c) (T + 11) i = clsC (τ 9 i) (τ 10 i) := fun n c => (gI_hGo (by omega) (Or.inl (by omega))).trans (ct_fc H i (by omega))
    have e7 : (nI i).toNatClampNeg = i := q_cl (by omega)
    simp only [u87_8, u87_10, u87_11, u87_14, u87_17, u87_19, u87_20, u87_23, u87_24, u87_27, u87_28, u87_31, u87_33, u87_34, u87_36, eq_self, q_nl0, q_nlI, q_nlR, not_false_eq_true, q_nz0, q_nz1, q_zv0, q_zv1, q_tl1, q_tl0, q_wif, q_swc, q_swn, List.cons_append, List.nil_append, shT_10 hT, shT_11 hT, gR_hG, pF_0 hT hp, e1, e2, e3, e4, e5, e6, e7, if_true]
    rw [u87_38]
    have go : ∀ (l8 l9 : Option Value), wq X (d + 1) 87 185 [some (.ref (T + 10)), some (.int a1), some (.int a2), some (.int a3), some (.int a4), some (.int a5), some (.int a6), some (.int (nI i)), l8, l9] [] (hG h T (fH τ (i + 1)) (fC τ (a1, a2, a3, a4, a5, a6) c (i + 1))) Q = Q (some (.int (fC τ (a1, a2, a3, a4, a5, a6) c (τ 0 9) 0))) (hG h T 0 (fC τ (a1, a2, a3, a4, a5, a6) c (τ 0 9))) := by
      intro l8 l9
      simp only [u87_185, u87_188, eq_self, q_nl0, q_nlI, q_nlR, not_false_eq_true, q_nz0, q_nz1, q_zv0, q_zv1, q_tl1, q_tl0, q_wif, q_swc, q_swn, List.cons_append, List.nil_append, nI_1]
      exact ih l8 l9 (by omega)
    have hH : fH τ (i + 1) = if τ 9 i ∈ fOps then fH τ i + 1 else if τ 9 i = 126 then fH τ i else fH τ i - 1 := rfl
    have hC : fC τ (a1, a2, a3, a4, a5, a6) c (i + 1) = if τ 9 i ∈ fOps then up (fC τ (a1, a2, a3, a4, a5, a6) c i) (fH τ i) (fUnit (a1, a2, a3, a4, a5, a6) (τ 9 i) (τ 10 i)) else if τ 9 i = 126 then up (fC τ (a1, a2, a3, a4, a5, a6) c i) (fH τ i - 1) (if fC τ (a1, a2, a3, a4, a5, a6) c i (fH τ i - 1) = 0 then 1 else 0) else up (fC τ (a1, a2, a3, a4, a5, a6) c i) (fH τ i - 2) (fJoin (τ 9 i) (fC τ (a1, a2, a3, a4, a5, a6) c i (fH τ i - 2)) (fC τ (a1, a2, a3, a4, a5, a6) c i (fH τ i - 1))) := rfl
    rw [hH, hC] at go
    have hk := F.2.1 i (by omega)
    generalize fC τ (a1, a2, a3, a4, a5, a6) c i = ce at go ⊢
    generalize fH τ i = n at go hk ⊢
    generalize τ 10 i = m at go hk ⊢
    generalize τ 9 i = o at go hk ⊢
    rcases hk with ⟨z, w, w2⟩ | ⟨z, w, w2⟩ | ⟨z, w, w2⟩
    · rw [if_pos z, if_pos z] at go
      have z' : o = 110 ∨ o = 108 ∨ o = 100 ∨ o = 111 ∨ o = 103 ∨ o = 121 ∨ o = 115 := by simpa [fOps] using z
      rcases z' with y | y | y | y | y | y | y <;> subst y
      · rw [show clsC 110 m = nI m from rfl, fSw_n (show m < 10000 by omega)]
        simp only [u87_150, u87_152, u87_155, u87_156, u87_158, u87_161, eq_self, q_nl0, q_nlI, q_nlR, not_false_eq_true, q_nz0, q_nz1, q_zv0, q_zv1, q_tl1, q_tl0, q_wif, q_swc, q_swn, List.cons_append, List.nil_append, shT_10 hT, eq_false (nI_pos (show m < 2 ^ 31 by omega)), if_false, c_push hT hp w]
        exact go _ _
      · rw [show clsC 108 m = -1 from rfl, show m_swt _ _ (-1 : Int32).toInt = 80 from rfl]
        simp only [u87_80, u87_81, u87_82, u87_85, eq_self, q_nl0, q_nlI, q_nlR, not_false_eq_true, q_nz0, q_nz1, q_zv0, q_zv1, q_tl1, q_tl0, q_wif, q_swc, q_swn, List.cons_append, List.nil_append, shT_10 hT, c_push hT hp w]
        exact go _ _
      · rw [show clsC 100 m = -2 from rfl, show m_swt _ _ (-2 : Int32).toInt = 88 from rfl]
        simp only [u87_88, u87_89, u87_90, u87_93, eq_self, q_nl0, q_nlI, q_nlR, not_false_eq_true, q_nz0, q_nz1, q_zv0, q_zv1, q_tl1, q_tl0, q_wif, q_swc, q_swn, List.cons_append, List.nil_append, shT_10 hT, c_push hT hp w]
        exact go _ _
      · rw [show clsC 111 m = -3 from rfl, show m_swt _ _ (-3 : Int32).toInt = 96 from rfl]
        simp only [u87_96, u87_97, u87_98, u87_101, eq_self, q_nl0, q_nlI, q_nlR, not_false_eq_true, q_nz0, q_nz1, q_zv0, q_zv1, q_tl1, q_tl0, q_wif, q_swc, q_swn, List.cons_append, List.nil_append, shT_10 hT, c_push hT hp w]
        exact go _ _
      · rw [show clsC 103 m = -4 from rfl, show m_swt _ _ (-4 : Int32).toInt = 104 from rfl]
        simp only [u87_104, u87_105, u87_107, u87_110, eq_self, q_nl0, q_nlI, q_nlR, not_false_eq_true, q_nz0, q_nz1, q_zv0, q_zv1, q_tl1, q_tl0, q_wif, q_swc, q_swn, List.cons_append, List.nil_append, shT_10 hT, c_push hT hp w]
        exact go _ _
      · rw [show clsC 121 m = -5 from rfl, show m_swt _ _ (-5 : Int32).toInt = 113 from rfl]
        simp only [u87_113, u87_114, u87_116, u87_119, eq_self, q_nl0, q_nlI, q_nlR, not_false_eq_true, q_nz0, q_nz1, q_zv0, q_zv1, q_tl1, q_tl0, q_wif, q_swc, q_swn, List.cons_append, List.nil_append, shT_10 hT, c_push hT hp w]
        exact go _ _
      · rw [show clsC 115 m = -6 from rfl, show m_swt _ _ (-6 : Int32).toInt = 122 from rfl]
        simp only [u87_122, u87_123, u87_125, u87_128, eq_self, q_nl0, q_nlI, q_nlR, not_false_eq_true, q_nz0, q_nz1, q_zv0, q_zv1, q_tl1, q_tl0, q_wif, q_swc, q_swn, List.cons_append, List.nil_append, shT_10 hT, c_push hT hp w]
        exact go _ _
    · subst z
      have nz : 126 ∉ fOps := by decide
      rw [if_neg nz, if_pos rfl, if_neg nz, if_pos rfl] at go
      obtain ⟨p, rfl⟩ : ∃ p, n = p + 1 := ⟨n - 1, by omega⟩
      rw [show p + 1 - 1 = p by omega] at go
      rw [show clsC 126 m = -7 from rfl, show m_swt _ _ (-7 : Int32).toInt = 131 from rfl]
      simp only [u87_131, u87_132, u87_133, u87_136, u87_139, u87_140, u87_143, u87_144, u87_147, eq_self, q_nl0, q_nlI, q_nlR, not_false_eq_true, q_nz0, q_nz1, q_zv0, q_zv1, q_tl1, q_tl0, q_wif, q_swc, q_swn, List.cons_append, List.nil_append, shT_10 hT, c_pop hT hp (show p < 30 by omega)]
      split
      · next y =>
        rw [if_pos y] at go
        simp only [u87_144, u87_147, eq_self, q_nl0, q_nlI, q_nlR, not_false_eq_true, q_nz0, q_nz1, q_zv0, q_zv1, q_tl1, q_tl0, q_wif, q_swc, q_swn, List.cons_append, List.nil_append, shT_10 hT, c_push hT hp (show p < 30 by omega)]
        exact go _ _
      · next y =>
        rw [if_neg y] at go
        simp only [u87_144, u87_147, eq_self, q_nl0, q_nlI, q_nlR, not_false_eq_true, q_nz0, q_nz1, q_zv0, q_zv1, q_tl1, q_tl0, q_wif, q_swc, q_swn, List.cons_append, List.nil_append, shT_10 hT, c_push hT hp (show p < 30 by omega)]
        exact go _ _
    · have nz := fBins_no z
      have sb := fSw_b o z
      rw [if_neg nz.1, if_neg nz.2, if_neg nz.1, if_neg nz.2] at go
      obtain ⟨p, rfl⟩ : ∃ p, n = p + 1 + 1 := ⟨n - 2, by omega⟩
      rw [show p + 1 + 1 - 1 = p + 1 by omega, show p + 1 + 1 - 2 = p by omega] at go
      have cj := fun (Q : QT) (hh : HT) (x y : Int32) => c_joined (X := X) (d := d) (n := 0) (h := hh) (Q := Q) (x := x) (y := y) z
      rw [clsC_0 (fBins_n z), sb.1]
      simp only [u87_150, u87_152, u87_164, u87_165, u87_168, u87_170, u87_171, u87_173, u87_174, u87_177, u87_179, u87_182, eq_self, q_nl0, q_nlI, q_nlR, not_false_eq_true, q_nz0, q_nz1, q_zv0, q_zv1, q_tl1, q_tl0, q_wif, q_swc, q_swn, List.cons_append, List.nil_append, shT_10 hT, eq_true sb.2, if_true, c_pop hT hp (show p < 30 by omega), c_pop hT hp (show p + 1 < 30 by omega), cj, c_push hT hp (show p < 30 by omega)]
      exact go _ _
theorem c_valueOf {X : XT} {d T : Nat} {h : HT} {Q : QT} {τ : CT} {a1 a2 a3 a4 a5 a6 : Int32} (H : CTown h T τ) (F : fOk τ) (h0 : 0 < τ 0 9) : wq X (d + 1) 87 0 [some (.ref (T + 10)), some (.int a1), some (.int a2), some (.int a3), some (.int a4), some (.int a5), some (.int a6), none, none, none] [] h Q = Q (some (.int (fVal τ (a1, a2, a3, a4, a5, a6)))) (hG h T 0 (fC τ (a1, a2, a3, a4, a5, a6) (m_gI h (T + 12)) (τ 0 9))) := by
  simp only [u87_0, u87_1, u87_2, u87_5, u87_6, eq_self, q_nl0, q_nlI, q_nlR, not_false_eq_true, q_nz0, q_nz1, q_zv0, q_zv1, q_tl1, q_tl0, q_wif, q_swc, q_swn, List.cons_append, List.nil_append, shT_10 (ct_T H)]
  have := c_valL (X := X) (d := d) (Q := Q) (c := m_gI h (T + 12)) (a1 := a1) (a2 := a2) (a3 := a3) (a4 := a4) (a5 := a5) (a6 := a6) H F h0 (τ 0 9) 0 none none (by omega)
  rw [show m_sI h (T + 10) 4 0 = hG h T 0 (m_gI h (T + 12)) from hG_0 (n := 0)]
  refine Eq.trans this ?_
  have e : fC τ (a1, a2, a3, a4, a5, a6) (m_gI h (T + 12)) (τ 0 9) 0 = fVal τ (a1, a2, a3, a4, a5, a6) := fC_eq F (τ 0 9) (Nat.le_refl _) 0 (by rw [F.2.2 h0]; omega)
  rw [e]
