/-! signs in texts -/
theorem tx_lt : ∀ i, i < 46 → ∀ j, j < (m_tx i).length → ∃ u, u < 128 ∧ (m_tx i).getD j 0 = nI u := by decide +kernel
theorem tx_pos : ∀ i, i < 46 → 0 < (m_tx i).length := by decide +kernel
theorem by_lo : ∀ v, v < 128 → byI v = nI v := by decide +kernel
theorem by_hi : ∀ v, v < 256 → 128 ≤ v → byI v < 0 := by decide +kernel
theorem ch_v : ∀ v, v < 256 → ((nI v).toUInt32 % 65536).toInt32 = nI v := by decide +kernel
theorem by_tx {i j v : Nat} (hi : i < 46) (hj : j < (m_tx i).length) (hv : v < 256) : ((m_tx i).getD j 0 = byI v) = ((m_tx i).getD j 0 = nI v) := by
  obtain ⟨u, h1, h2⟩ := tx_lt i hi j hj
  rw [h2]
  apply propext
  by_cases z : v < 128
  · rw [by_lo v z]
  · have := by_hi v hv (by omega)
    constructor
    · intro e
      rw [← e] at this
      exact absurd this (nI_nlt (b := 0) (Nat.zero_le _) (by omega))
    · intro e
      have := (nI_eq (a := u) (b := v) (by omega) (by omega)).mp e
      omega
theorem c_ixL {X : XT} {d i v : Nat} {h : HT} {a1 a2 : Int32} (hi : i < 46) (hv : v < 256) : ∀ k j, j + k = (m_tx i).length → ∃ r : Int32, ((r < 0) = ∀ m, j ≤ m → m < (m_tx i).length → (m_tx i).getD m 0 ≠ nI v) ∧ ∀ Q : QT, wq X d 33 7 [some (.ref (10000 + (10 + i + 60))), some (.int a1), some (.int a2), some (.int (nI (m_tx i).length)), some (.int (byI v)), some (.int (nI j))] [] h Q = Q (some (.int r)) h
  | 0, j, e => by
    have hl := tx_len i hi
    refine ⟨-1, ?_, fun Q => ?_⟩
    · apply propext
      exact ⟨fun _ m h1 h2 => by omega, fun _ => by decide⟩
    · rw [u33_7]
      simp only [u33_9, u33_10, u33_31, u33_32, eq_self, q_nl0, q_nlI, q_nlR, not_false_eq_true, q_nz0, q_nz1, q_zv0, q_zv1, q_tl1, q_tl0, q_wif, q_swc, q_swn, List.cons_append, List.nil_append, if_true, if_false, e10, e01, Bool.false_eq_true, eq_false (show ¬ nI j < nI (m_tx i).length from nI_nlt (by omega) (by omega))]
  | k + 1, j, e => by
    have hl := tx_len i hi
    have hj : j < (m_tx i).length := by omega
    have e2 : (nI j < nI (m_tx i).length) = True := eq_true (nI_lt hj (by omega))
    have e3 : m_in (nI j) (m_tx i).length = true := q_in hj (by omega)
    have e4 : (nI j).toNatClampNeg = j := q_cl (by omega)
    have e5 : 10 + i + 60 - 70 = i := by omega
    obtain ⟨r, r1, r2⟩ := c_ixL (X := X) (d := d) (h := h) (a1 := a1) (a2 := a2) hi hv k (j + 1) (by omega)
    by_cases z : (m_tx i).getD j 0 = nI v
    · refine ⟨nI j, ?_, fun Q => ?_⟩
      · apply propext
        exact ⟨fun q => absurd q (nI_nlt (b := 0) (Nat.zero_le _) (by omega)), fun q => absurd z (q j (Nat.le_refl _) hj)⟩
      · rw [u33_7]
        simp only [u33_9, u33_10, u33_13, u33_14, u33_16, u33_17, u33_19, u33_22, u33_24, eq_self, q_nl0, q_nlI, q_nlR, not_false_eq_true, q_nz0, q_nz1, q_zv0, q_zv1, q_tl1, q_tl0, q_wif, q_swc, q_swn, List.cons_append, List.nil_append, if_true, if_false, e10, e01, Bool.false_eq_true, e2, xb_i hi, xl_i, e3, e4, e5, by_tx hi hj hv, eq_true z]
    · refine ⟨r, ?_, fun Q => ?_⟩
      · rw [r1]
        apply propext
        constructor
        · intro q m h1 h2
          by_cases y : m = j
          · rw [y]
            exact z
          · exact q m (by omega) h2
        · exact fun q m h1 h2 => q m (by omega) h2
      · rw [u33_7]
        simp only [u33_9, u33_10, u33_13, u33_14, u33_16, u33_17, u33_19, u33_22, u33_24, u33_25, u33_28, eq_self, q_nl0, q_nlI, q_nlR, not_false_eq_true, q_nz0, q_nz1, q_zv0, q_zv1, q_tl1, q_tl0, q_wif, q_swc, q_swn, List.cons_append, List.nil_append, if_true, if_false, e10, e01, Bool.false_eq_true, e2, xb_i hi, xl_i, e3, e4, e5, by_tx hi hj hv, eq_false z, nI_1]
        exact r2 Q
theorem c_indexOf {X : XT} {d i v : Nat} {h : HT} (hi : i < 46) (hv : v < 256) : ∃ r : Int32, ((r < 0) = ¬ nI v ∈ m_tx i) ∧ ∀ Q : QT, wq X (d + 3) 24 0 [some (.ref (10000 + (10 + i))), some (.int (nI v))] [] h Q = Q (some (.int r)) h := by
  have hl := tx_len i hi
  have nb1 : q_nb .boolean 1 = true := by decide
  by_cases e0 : 0 < (m_tx i).length
  · obtain ⟨r, r1, r2⟩ := c_ixL (X := X) (d := d) (h := h) (a1 := nI v) (a2 := nI 0) hi hv (m_tx i).length 0 (by omega)
    refine ⟨r, ?_, fun Q => ?_⟩
    · rw [r1]
      apply propext
      constructor
      · intro q m
        obtain ⟨k, hk, e⟩ := List.getElem_of_mem m
        exact q k (Nat.zero_le _) hk (by rw [← e]; exact (List.getElem_eq_getD 0).symm)
      · intro q m _ h2 e
        apply q
        rw [← e, ← List.getElem_eq_getD (h := h2) 0]
        exact List.getElem_mem h2
    · have c1 : (nI v < 0) = False := eq_false (nI_nlt (b := 0) (Nat.zero_le _) (by omega))
      have c2 : (255 < nI v) = False := eq_false (nI_nlt (a := 255) (by omega) (by decide))
      have c3 : ((0 : Int32) < 0) = False := eq_false (by decide)
      have c4 : (Int32.ofNat (m_tx i).length < nI (m_tx i).length) = False := eq_false (by
        show ¬ nI (m_tx i).length < nI (m_tx i).length
        exact nI_nlt (Nat.le_refl _) (by omega))
      have c5 : ((0 : Int32) < nI (m_tx i).length) = True := eq_true (nI_lt (a := 0) e0 (by omega))
      simp only [u24_0, u24_1, u24_2, u24_3, u24_6, u25_0, u25_1, u25_4, u25_7, u25_8, u25_11, u25_12, u25_13, u25_14, u25_17, u25_20, u25_36, u29_0, u29_1, u29_4, u29_7, u29_8, u29_9, u29_10, u29_11, u29_14, u29_15, u29_16, u29_17, u29_18, u29_21, u29_22, u29_23, u29_24, u29_27, u29_28, u29_29, u29_30, u29_31, u29_32, u29_33, u29_36, u30_0, u30_1, u30_4, u30_5, u30_8, u30_11, u30_12, u30_15, u30_16, u33_0, u33_1, u33_2, u33_4, u33_5, eq_self, q_nl0, q_nlI, q_nlR, not_false_eq_true, q_nz0, q_nz1, q_zv0, q_zv1, q_tl1, q_tl0, q_wif, q_swc, q_swn, List.cons_append, List.nil_append, if_true, if_false, e10, e01, Bool.false_eq_true, xs_i hi, xb_i hi, xl_i, c_latin hi, c_len hi, c1, c2, c3, c4, c5, nb1, Option.toList]
      refine (r2 _).trans ?_
      simp only [u24_6, u25_20, u25_36, u29_36, eq_self, q_nl0, q_nlI, q_nlR, not_false_eq_true, q_nz0, q_nz1, q_zv0, q_zv1, q_tl1, q_tl0, q_wif, q_swc, q_swn, List.cons_append, List.nil_append, if_true, if_false, e10, e01, Bool.false_eq_true]
  · exact absurd (tx_pos i hi) e0
/-- the class's tape stands at the token that begins at s -/
def TkC (h : HT) (L : Nat) (V : Nat → Nat) (s : Nat) : Prop := Tp h L V ∧ s ≤ L ∧ m_gI h 2 2 = nI (tK V L s) ∧ m_gI h 2 3 = nI s ∧ m_gI h 2 4 = nI (tE V L s) ∧ (tK V L s = 1 → m_gL h 2 5 = nL (wN V s (nLt V L s))) ∧ (tK V L s = 2 → m_gI h 2 6 = nI (dN V s (nDg V L s)))
theorem tK_4 {V : Nat → Nat} {L s : Nat} : tK V L s ≤ 4 := by
  unfold tK
  repeat' split
  all_goals omega
theorem tK_0 {V : Nat → Nat} {L s : Nat} (h : tK V L s ≠ 0) : s < L := by
  unfold tK at h
  by_cases z : L ≤ s
  · rw [if_pos z] at h
    exact absurd rfl h
  · omega
def isW (V : Nat → Nat) (L s i : Nat) : Bool := decide (tK V L s = 1 ∧ nL (wN V s (nLt V L s)) = txW i)
def isN (V : Nat → Nat) (L s : Nat) : Bool := decide (tK V L s = 1 ∧ own (nL (wN V s (nLt V L s))) = false)
def isG (V : Nat → Nat) (L s c : Nat) : Bool := decide (tK V L s = 3 ∧ V s = c)
def opS (V : Nat → Nat) (L s i : Nat) : Nat := if tK V L s = 3 ∧ nI (V s) ∈ m_tx i then V s else 0
theorem c_wordAt {X : XT} {d r i L s : Nat} {h : HT} {Q : QT} {V : Nat → Nat} (H : TkC h L V s) (hr : r = 10000 + (10 + i)) (hi : i < 46) : wq X (d + 4) 46 0 [some (.ref 2), some (.ref r), none, none, none] [] h Q = Q (some (.int (if isW V L s i = true then 1 else 0))) h := by
  rw [c_wordIs hr hi, H.2.2.1]
  congr 3
  have e1 : (nI (tK V L s) = 1) = (tK V L s = 1) := nI_eqB (b := 1) (by have := tK_4 (V := V) (L := L) (s := s); omega) (by decide)
  have i1 : nI (tK V L s) = 1 ↔ tK V L s = 1 := by rw [e1]
  unfold isW
  by_cases z : tK V L s = 1
  · rw [H.2.2.2.2.2.1 z]
    by_cases y : nL (wN V s (nLt V L s)) = txW i
    · rw [if_pos ⟨i1.mpr z, y⟩, if_pos (decide_eq_true ⟨z, y⟩)]
    · rw [if_neg (fun q => y q.2), if_neg (fun q => y (of_decide_eq_true q).2)]
  · rw [if_neg (fun q => z (i1.mp q.1)), if_neg (fun q => z (of_decide_eq_true q).1)]
theorem c_nameAt {X : XT} {d L s : Nat} {h : HT} {Q : QT} {V : Nat → Nat} (H : TkC h L V s) : wq X (d + 4) 56 0 [some (.ref 2), none, none, none, none, none] [] h Q = Q (some (.int (if isN V L s = true then 1 else 0))) h := by
  rw [c_isName, H.2.2.1]
  congr 3
  have e1 : (nI (tK V L s) = 1) = (tK V L s = 1) := nI_eqB (b := 1) (by have := tK_4 (V := V) (L := L) (s := s); omega) (by decide)
  have i1 : nI (tK V L s) = 1 ↔ tK V L s = 1 := by rw [e1]
  unfold isN
  by_cases z : tK V L s = 1
  · rw [H.2.2.2.2.2.1 z]
    by_cases y : own (nL (wN V s (nLt V L s))) = false
    · rw [if_pos ⟨i1.mpr z, y⟩, if_pos (decide_eq_true ⟨z, y⟩)]
    · rw [if_neg (fun q => y q.2), if_neg (fun q => y (of_decide_eq_true q).2)]
  · rw [if_neg (fun q => z (i1.mp q.1)), if_neg (fun q => z (of_decide_eq_true q).1)]
theorem c_byteAt' {X : XT} {d p L : Nat} {h : HT} {Q : QT} {V : Nat → Nat} (H : Tp h L V) (hp : p ≤ 1600) : wq X d 20 0 [some (.ref 2), some (.int (nI p))] [] h Q = Q (some (.int (bA V L p))) h := by
  have := c_byteAt (X := X) (d := d) (Q := Q) (a := m_gI h 2 2) (b := m_gI h 2 3) (c := m_gI h 2 4) (e := m_gI h 2 6) (w := m_gL h 2 5) H hp
  rw [← hT_id] at this
  exact this
theorem c_signIs {X : XT} {d c L s : Nat} {h : HT} {Q : QT} {V : Nat → Nat} (H : TkC h L V s) (hc : c < 256) : wq X (d + 1) 65 0 [some (.ref 2), some (.int (nI c))] [] h Q = Q (some (.int (if isG V L s c = true then 1 else 0))) h := by
  have nb0 : q_nb .boolean 0 = true := by decide
  have nb1 : q_nb .boolean 1 = true := by decide
  have e1 : (nI (tK V L s) = 3) = (tK V L s = 3) := nI_eqB (b := 3) (by have := tK_4 (V := V) (L := L) (s := s); omega) (by decide)
  have hL := H.1.2.2.1
  have hs := H.2.1
  unfold isG
  by_cases z : tK V L s = 3
  · have hsl : s < L := tK_0 (V := V) (L := L) (s := s) (by omega)
    have hv := H.1.2.2.2 s hsl
    have eb : bA V L s = nI (V s) := if_pos hsl
    have e2 : (nI (V s) = nI c) = (V s = c) := nI_eqB (by omega) (by omega)
    by_cases y : V s = c
    · rw [if_pos (decide_eq_true ⟨z, y⟩)]
      simp only [u65_0, u65_1, u65_4, u65_5, u65_8, u65_9, u65_10, u65_13, u65_16, u65_17, u65_20, u65_21, u65_24, u65_25, eq_self, q_nl0, q_nlI, q_nlR, not_false_eq_true, q_nz0, q_nz1, q_zv0, q_zv1, q_tl1, q_tl0, q_wif, q_swc, q_swn, List.cons_append, List.nil_append, if_true, if_false, e10, e01, Bool.false_eq_true, sh_2, H.2.2.1, H.2.2.2.1, e1, eq_true z, c_byteAt' H.1 (show s ≤ 1600 by omega), eb, e2, eq_true y, nb1, Option.toList]
    · rw [if_neg (fun q => y (of_decide_eq_true q).2)]
      simp only [u65_0, u65_1, u65_4, u65_5, u65_8, u65_9, u65_10, u65_13, u65_16, u65_17, u65_20, u65_21, u65_24, u65_25, eq_self, q_nl0, q_nlI, q_nlR, not_false_eq_true, q_nz0, q_nz1, q_zv0, q_zv1, q_tl1, q_tl0, q_wif, q_swc, q_swn, List.cons_append, List.nil_append, if_true, if_false, e10, e01, Bool.false_eq_true, sh_2, H.2.2.1, H.2.2.2.1, e1, eq_true z, c_byteAt' H.1 (show s ≤ 1600 by omega), eb, e2, eq_false y, nb0, Option.toList]
  · rw [if_neg (fun q => z (of_decide_eq_true q).1)]
    simp only [u65_0, u65_1, u65_4, u65_5, u65_8, u65_9, u65_10, u65_13, u65_16, u65_17, u65_20, u65_21, u65_24, u65_25, eq_self, q_nl0, q_nlI, q_nlR, not_false_eq_true, q_nz0, q_nz1, q_zv0, q_zv1, q_tl1, q_tl0, q_wif, q_swc, q_swn, List.cons_append, List.nil_append, if_true, if_false, e10, e01, Bool.false_eq_true, sh_2, H.2.2.1, H.2.2.2.1, e1, eq_false z, nb0]
theorem c_signOf {X : XT} {d r i L s : Nat} {h : HT} {Q : QT} {V : Nat → Nat} (H : TkC h L V s) (hr : r = 10000 + (10 + i)) (hi : i < 46) : wq X (d + 4) 71 0 [some (.ref 2), some (.ref r), none] [] h Q = Q (some (.int (nI (opS V L s i)))) h := by
  subst hr
  have e1 : (nI (tK V L s) = 3) = (tK V L s = 3) := nI_eqB (b := 3) (by have := tK_4 (V := V) (L := L) (s := s); omega) (by decide)
  have hL := H.1.2.2.1
  have hs := H.2.1
  have cb := fun (Q : QT) => c_byteAt' (X := X) (d := d + 3) (h := h) (Q := Q) H.1 (show s ≤ 1600 by omega)
  unfold opS
  by_cases z : tK V L s = 3
  · have hsl : s < L := tK_0 (V := V) (L := L) (s := s) (by omega)
    have hv := H.1.2.2.2 s hsl
    have eb : bA V L s = nI (V s) := if_pos hsl
    obtain ⟨x, x1, x2⟩ := c_indexOf (X := X) (d := d) (h := h) hi hv
    by_cases y : nI (V s) ∈ m_tx i
    · rw [if_pos ⟨z, y⟩]
      simp only [u71_0, u71_1, u71_2, u71_5, u71_8, u71_9, u71_10, u71_13, u71_14, u71_17, u71_18, u71_19, u71_20, u71_23, u71_26, u71_27, u71_30, u71_31, eq_self, q_nl0, q_nlI, q_nlR, not_false_eq_true, q_nz0, q_nz1, q_zv0, q_zv1, q_tl1, q_tl0, q_wif, q_swc, q_swn, List.cons_append, List.nil_append, if_true, if_false, e10, e01, Bool.false_eq_true, sh_2, H.2.2.1, H.2.2.2.1, e1, eq_true z, cb, eb, ch_v _ hv, xs_i hi, x2, x1, y, not_true_eq_false, not_false_eq_true, Option.toList]
    · rw [if_neg (fun q => y q.2)]
      simp only [u71_0, u71_1, u71_2, u71_5, u71_8, u71_9, u71_10, u71_13, u71_14, u71_17, u71_18, u71_19, u71_20, u71_23, u71_26, u71_27, u71_30, u71_31, eq_self, q_nl0, q_nlI, q_nlR, not_false_eq_true, q_nz0, q_nz1, q_zv0, q_zv1, q_tl1, q_tl0, q_wif, q_swc, q_swn, List.cons_append, List.nil_append, if_true, if_false, e10, e01, Bool.false_eq_true, sh_2, H.2.2.1, H.2.2.2.1, e1, eq_true z, cb, eb, ch_v _ hv, xs_i hi, x2, x1, y, not_true_eq_false, not_false_eq_true, Option.toList]
      rfl
  · rw [if_neg (fun q => z q.1)]
    simp only [u71_0, u71_1, u71_2, u71_5, u71_8, u71_9, u71_10, u71_13, u71_14, u71_17, u71_18, u71_19, u71_20, u71_23, u71_26, u71_27, u71_30, u71_31, eq_self, q_nl0, q_nlI, q_nlR, not_false_eq_true, q_nz0, q_nz1, q_zv0, q_zv1, q_tl1, q_tl0, q_wif, q_swc, q_swn, List.cons_append, List.nil_append, if_true, if_false, e10, e01, Bool.false_eq_true, sh_2, H.2.2.1, H.2.2.2.1, e1, eq_false z, cb, Option.toList]
    rfl
