/-! texts and words -/
/-- a text's first j letters as the class's number -/
def txF (l : List Int32) : Nat → Int64
  | 0 => 0
  | j + 1 => txF l j * 32 + (l.getD j 0).toInt64 - 97 + 1
def txW (i : Nat) : Int64 := txF (m_tx i) (m_tx i).length
theorem tx_ch : ∀ i, i < 46 → ∀ j, j < (m_tx i).length → ((((m_tx i).getD j 0) &&& 255).toUInt32 % 65536).toInt32 = (m_tx i).getD j 0 := by decide +kernel
theorem tx_nb : ∀ i, i < 46 → ∀ j, j < (m_tx i).length → q_nb .char ((m_tx i).getD j 0) = true := by decide +kernel
theorem nb_b0 : q_nb .byte 0 = true := by decide
theorem tx_len : ∀ i, i < 46 → (m_tx i).length < 200 := by decide +kernel
theorem xs_i {i : Nat} (hi : i < 46) : m_xs (10000 + (10 + i)) = true := by
  unfold m_xs
  rw [Bool.and_eq_true]
  exact ⟨Nat.ble_eq_true_of_le (by omega), by rw [Nat.blt_eq]; omega⟩
theorem xb_i {i : Nat} (hi : i < 46) : m_xb (10000 + (10 + i + 60)) = true := by
  unfold m_xb
  rw [Bool.and_eq_true]
  exact ⟨Nat.ble_eq_true_of_le (by omega), by rw [Nat.blt_eq]; omega⟩
theorem xl_i {X : XT} {i : Nat} : m_xl X (10000 + (10 + i + 60)) = (m_tx i).length := by
  unfold m_xl
  rw [if_neg (by omega), if_neg (by omega), show 10000 + (10 + i + 60) - 10070 = i by omega]
theorem sh0 (x : Int32) : x >>> ((0 : Int32) &&& 31) = x := by
  apply Int32.toBitVec_inj.mp
  show x.toBitVec.sshiftRight 0 = x.toBitVec
  exact BitVec.sshiftRight_zero
theorem c_latin {X : XT} {d i : Nat} {h : HT} {Q : QT} (hi : i < 46) : wq X d 26 0 [some (.ref (10000 + (10 + i)))] [] h Q = Q (some (.int 1)) h := by
  simp only [u26_0, u26_3, u26_6, u26_7, u26_10, u26_13, u26_14, u26_17, u26_18, eq_self, q_nl0, q_nlI, q_nlR, not_false_eq_true, q_nz0, q_nz1, q_zv0, q_zv1, q_tl1, q_tl0, q_wif, q_swc, q_swn, List.cons_append, List.nil_append, if_true, if_false, e10, e01, Bool.false_eq_true, xs_i hi]
theorem c_coder {X : XT} {d i : Nat} {h : HT} {Q : QT} (hi : i < 46) : wq X d 28 0 [some (.ref (10000 + (10 + i)))] [] h Q = Q (some (.int 0)) h := by
  simp only [u28_0, u28_3, u28_6, u28_7, u28_10, u28_13, u28_14, eq_self, q_nl0, q_nlI, q_nlR, not_false_eq_true, q_nz0, q_nz1, q_zv0, q_zv1, q_tl1, q_tl0, q_wif, q_swc, q_swn, List.cons_append, List.nil_append, if_true, if_false, e10, e01, Bool.false_eq_true, xs_i hi, nb_b0]
theorem c_len {X : XT} {d i : Nat} {h : HT} {Q : QT} (hi : i < 46) : wq X (d + 1) 27 0 [some (.ref (10000 + (10 + i)))] [] h Q = Q (some (.int (nI (m_tx i).length))) h := by
  simp only [u27_0, u27_1, u27_4, u27_5, u27_6, u27_9, u27_10, eq_self, q_nl0, q_nlI, q_nlR, not_false_eq_true, q_nz0, q_nz1, q_zv0, q_zv1, q_tl1, q_tl0, q_wif, q_swc, q_swn, List.cons_append, List.nil_append, if_true, if_false, e10, e01, Bool.false_eq_true, xs_i hi, xb_i hi, xl_i, c_coder hi, sh0]
  rfl
theorem c_charAt {X : XT} {d i j : Nat} {h : HT} {Q : QT} (hi : i < 46) (hj : j < (m_tx i).length) : wq X (d + 3) 47 0 [some (.ref (10000 + (10 + i))), some (.int (nI j))] [] h Q = Q (some (.int ((m_tx i).getD j 0))) h := by
  have hl := tx_len i hi
  have e1 : (nI j < 0) = False := eq_false (nI_nlt (b := 0) (Nat.zero_le _) (by omega))
  have e2 : (nI j < Int32.ofNat (m_tx i).length) = True := eq_true (nI_lt hj (by omega))
  have e3 : m_in (nI j) (m_tx i).length = true := q_in hj (by omega)
  have e4 : (nI j).toNatClampNeg = j := q_cl (by omega)
  have e5 : 10 + i + 60 - 70 = i := by omega
  simp only [u47_0, u47_1, u47_4, u47_7, u47_8, u47_11, u47_12, u47_15, u48_0, u48_1, u48_2, u48_3, u48_6, u48_7, u48_8, u48_9, u48_12, u48_13, u48_14, u49_0, u49_1, u49_2, u49_5, u49_8, u49_9, u50_0, u50_1, u50_4, u50_5, u50_6, u50_16, u50_17, eq_self, q_nl0, q_nlI, q_nlR, not_false_eq_true, q_nz0, q_nz1, q_zv0, q_zv1, q_tl1, q_tl0, q_wif, q_swc, q_swn, List.cons_append, List.nil_append, if_true, if_false, e10, e01, Bool.false_eq_true, xs_i hi, xb_i hi, xl_i, c_latin hi, e1, e2, e3, e4, e5, tx_ch i hi j hj, tx_nb i hi j hj, Option.toList]
theorem c_withL {X : XT} {d : Nat} {h : HT} {Q : QT} {w : Int64} {c : Int32} {l1 : Option Value} : wq X d 22 0 [some (.long w), l1, some (.int c)] [] h Q = Q (some (.long (w * 32 + c.toInt64 - 97 + 1))) h := by
  simp only [u22_0, u22_1, u22_4, u22_5, u22_6, u22_7, u22_8, u22_11, u22_12, u22_13, u22_14, eq_self, q_nl0, q_nlI, q_nlR, not_false_eq_true, q_nz0, q_nz1, q_zv0, q_zv1, q_tl1, q_tl0, q_wif, q_swc, q_swn, List.cons_append, List.nil_append, if_true, if_false, e10, e01, Bool.false_eq_true]
theorem lg_z (a b : Int64) : (lg_cmp a b = 0) = (a = b) := by
  unfold lg_cmp
  apply propext
  constructor
  · intro e
    split at e
    · cases e
    · split at e
      · assumption
      · cases e
  · intro e
    subst e
    simp
theorem c_wordIs {X : XT} {d r i : Nat} {h : HT} {Q : QT} (hr : r = 10000 + (10 + i)) (hi : i < 46) : wq X (d + 4) 46 0 [some (.ref 2), some (.ref r), none, none, none] [] h Q = Q (some (.int (if m_gI h 2 2 = 1 ∧ m_gL h 2 5 = txW i then 1 else 0))) h := by
  subst hr
  have hl := tx_len i hi
  simp only [u46_0, u46_1, u46_2, u46_3, eq_self, q_nl0, q_nlI, q_nlR, not_false_eq_true, q_nz0, q_nz1, q_zv0, q_zv1, q_tl1, q_tl0, q_wif, q_swc, q_swn, List.cons_append, List.nil_append, if_true, if_false, e10, e01, Bool.false_eq_true]
  have e := q_loop (fun j => wq X (d + 4) 46 5 [some (.ref 2), some (.ref (10000 + (10 + i))), some (.long (txF (m_tx i) j)), none, some (.int (nI j))] [] h Q) (m_tx i).length (fun j hj => by
    have e2 : (nI j < nI (m_tx i).length) = True := eq_true (nI_lt hj (by omega))
    show wq X (d + 4) 46 5 _ _ _ _ = _
    rw [u46_5]
    simp only [u46_7, u46_8, u46_11, u46_14, u46_15, u46_16, u46_18, u46_21, u46_24, u46_25, u46_28, eq_self, q_nl0, q_nlI, q_nlR, not_false_eq_true, q_nz0, q_nz1, q_zv0, q_zv1, q_tl1, q_tl0, q_wif, q_swc, q_swn, List.cons_append, List.nil_append, if_true, if_false, e10, e01, Bool.false_eq_true, xs_i hi, c_len hi, e2, c_charAt hi hj, c_withL, nI_1, Option.toList]
    rfl)
  refine Eq.trans e ?_
  show wq X (d + 4) 46 5 _ _ _ _ = _
  rw [u46_5]
  simp only [u46_7, u46_8, u46_11, u46_31, u46_32, u46_35, u46_36, u46_39, u46_40, u46_43, u46_44, u46_45, u46_48, u46_49, u46_52, u46_53, eq_self, q_nl0, q_nlI, q_nlR, not_false_eq_true, q_nz0, q_nz1, q_zv0, q_zv1, q_tl1, q_tl0, q_wif, q_swc, q_swn, List.cons_append, List.nil_append, if_true, if_false, e10, e01, Bool.false_eq_true, sh_2, xs_i hi, c_len hi, eq_false (nI_nlt (Nat.le_refl (m_tx i).length) (by omega)), lg_z]
  by_cases z : m_gI h 2 2 = 1
  · by_cases y : m_gL h 2 5 = txW i
    · rw [if_pos z, if_pos (show m_gL h 2 5 = txF (m_tx i) (m_tx i).length from y), if_pos ⟨z, y⟩]
    · rw [if_pos z, if_neg (show ¬ m_gL h 2 5 = txF (m_tx i) (m_tx i).length from y), if_neg (fun w => y w.2)]
  · rw [if_neg z, if_neg (fun w => z w.1)]
/-- the class's own words, as it makes them out of one text -/
def owL : Nat → List Int64 × Int64
  | 0 => ([], 0)
  | j + 1 => if (m_tx 2).getD j 0 = 32 then ((owL j).2 :: (owL j).1, 0) else ((owL j).1, (owL j).2 * 32 + ((m_tx 2).getD j 0).toInt64 - 97 + 1)
def own (w : Int64) : Bool := decide (w ∈ (owL 112).1)
theorem tx2_len : (m_tx 2).length = 112 := by decide +kernel
theorem c_isName {X : XT} {d : Nat} {h : HT} {Q : QT} : wq X (d + 4) 56 0 [some (.ref 2), none, none, none, none, none] [] h Q = Q (some (.int (if m_gI h 2 2 = 1 ∧ own (m_gL h 2 5) = false then 1 else 0))) h := by
  simp only [u56_0, u56_1, u56_2, u56_3, u56_4, u56_5, eq_self, q_nl0, q_nlI, q_nlR, not_false_eq_true, q_nz0, q_nz1, q_zv0, q_zv1, q_tl1, q_tl0, q_wif, q_swc, q_swn, List.cons_append, List.nil_append, if_true, if_false, e10, e01, Bool.false_eq_true]
  generalize hw : m_gL h 2 5 = w
  obtain ⟨l5, e⟩ := q_loopL (fun j (l5 : Option Value) => wq X (d + 4) 56 7 [some (.ref 2), some (.int (if w ∈ (owL j).1 then 1 else 0)), some (.long (owL j).2), none, some (.int (nI j)), l5] [] h Q) 112 (fun j hj l5 => by
    refine ⟨some (.int ((m_tx 2).getD j 0)), ?_⟩
    have e2 : (nI j < nI (m_tx 2).length) = True := eq_true (nI_lt (by rw [tx2_len]; exact hj) (by rw [tx2_len]; decide))
    have ca := fun (Q : QT) => c_charAt (X := X) (d := d) (i := 2) (j := j) (h := h) (Q := Q) (by decide) (by rw [tx2_len]; exact hj)
    have cl := fun (Q : QT) => c_len (X := X) (d := d + 2) (i := 2) (h := h) (Q := Q) (by decide)
    show wq X (d + 4) 56 7 _ _ _ _ = _
    rw [u56_7]
    simp only [u56_9, u56_11 (r0 := 12) (by decide), u56_14, u56_17, u56_19, u56_21 (r0 := 12) (by decide), u56_24, u56_26, u56_28, u56_30, eq_self, q_nl0, q_nlI, q_nlR, not_false_eq_true, q_nz0, q_nz1, q_zv0, q_zv1, q_tl1, q_tl0, q_wif, q_swc, q_swn, List.cons_append, List.nil_append, if_true, if_false, e10, e01, Bool.false_eq_true, cl, ca, e2, Option.toList]
    by_cases z : (m_tx 2).getD j 0 = 32
    · have eo : owL (j + 1) = ((owL j).2 :: (owL j).1, 0) := if_pos z
      rw [if_pos z, eo]
      by_cases y : w ∈ (owL j).1
      · rw [if_pos y, if_pos (show w ∈ (owL j).2 :: (owL j).1 from List.mem_cons_of_mem _ y)]
        simp only [u56_33, u56_34, u56_37, u56_38, u56_41, u56_42, u56_43, u56_46, u56_47, u56_50, u56_51, u56_52, u56_53, u56_54, u56_57, u56_58, u56_60, u56_63, u56_64, u56_67, eq_self, q_nl0, q_nlI, q_nlR, not_false_eq_true, q_nz0, q_nz1, q_zv0, q_zv1, q_tl1, q_tl0, q_wif, q_swc, q_swn, List.cons_append, List.nil_append, if_true, if_false, e10, e01, Bool.false_eq_true, nI_1]
      · rw [if_neg y]
        by_cases x : w = (owL j).2
        · rw [if_pos (show w ∈ (owL j).2 :: (owL j).1 from by rw [x]; exact List.mem_cons_self)]
          simp only [u56_33, u56_34, u56_37, u56_38, u56_41, u56_42, u56_43, u56_46, u56_47, u56_50, u56_51, u56_52, u56_53, u56_54, u56_57, u56_58, u56_60, u56_63, u56_64, u56_67, eq_self, q_nl0, q_nlI, q_nlR, not_false_eq_true, q_nz0, q_nz1, q_zv0, q_zv1, q_tl1, q_tl0, q_wif, q_swc, q_swn, List.cons_append, List.nil_append, if_true, if_false, e10, e01, Bool.false_eq_true, sh_2, nI_1, hw, lg_z, eq_true x]
        · rw [if_neg (show ¬ w ∈ (owL j).2 :: (owL j).1 from by rw [List.mem_cons]; exact fun q => q.elim x y)]
          simp only [u56_33, u56_34, u56_37, u56_38, u56_41, u56_42, u56_43, u56_46, u56_47, u56_50, u56_51, u56_52, u56_53, u56_54, u56_57, u56_58, u56_60, u56_63, u56_64, u56_67, eq_self, q_nl0, q_nlI, q_nlR, not_false_eq_true, q_nz0, q_nz1, q_zv0, q_zv1, q_tl1, q_tl0, q_wif, q_swc, q_swn, List.cons_append, List.nil_append, if_true, if_false, e10, e01, Bool.false_eq_true, sh_2, nI_1, hw, lg_z, eq_false x]
    · have eo : owL (j + 1) = ((owL j).1, (owL j).2 * 32 + ((m_tx 2).getD j 0).toInt64 - 97 + 1) := if_neg z
      rw [if_neg z, eo]
      simp only [u56_57, u56_58, u56_60, u56_63, u56_64, u56_67, eq_self, q_nl0, q_nlI, q_nlR, not_false_eq_true, q_nz0, q_nz1, q_zv0, q_zv1, q_tl1, q_tl0, q_wif, q_swc, q_swn, List.cons_append, List.nil_append, if_true, if_false, e10, e01, Bool.false_eq_true, c_withL, Option.toList, nI_1]) none
  refine Eq.trans e ?_
  have cl := fun (Q : QT) => c_len (X := X) (d := d + 2) (i := 2) (h := h) (Q := Q) (by decide)
  show wq X (d + 4) 56 7 _ _ _ _ = _
  rw [u56_7]
  simp only [u56_9, u56_11 (r0 := 12) (by decide), u56_14, u56_70, u56_71, u56_74, u56_75, u56_78, eq_self, q_nl0, q_nlI, q_nlR, not_false_eq_true, q_nz0, q_nz1, q_zv0, q_zv1, q_tl1, q_tl0, q_wif, q_swc, q_swn, List.cons_append, List.nil_append, if_true, if_false, e10, e01, Bool.false_eq_true, sh_2, cl, tx2_len, eq_false (nI_nlt (Nat.le_refl 112) (by decide)), Option.toList]
  by_cases y : w ∈ (owL 112).1
  · have yo : own w = true := decide_eq_true y
    rw [if_neg (show ¬ (m_gI h 2 2 = 1 ∧ own w = false) from fun q => by rw [yo] at q; exact Bool.noConfusion q.2), if_pos y]
    split
    · simp only [u56_78, u56_79, u56_82, u56_83, u56_86, u56_87, eq_self, q_nl0, q_nlI, q_nlR, not_false_eq_true, q_nz0, q_nz1, q_zv0, q_zv1, q_tl1, q_tl0, q_wif, q_swc, q_swn, List.cons_append, List.nil_append, if_true, if_false, e10, e01, Bool.false_eq_true]
    · simp only [u56_86, u56_87, eq_self, q_nl0, q_nlI, q_nlR, not_false_eq_true, q_nz0, q_nz1, q_zv0, q_zv1, q_tl1, q_tl0, q_wif, q_swc, q_swn, List.cons_append, List.nil_append, if_true, if_false, e10, e01, Bool.false_eq_true]
  · have yo : own w = false := decide_eq_false y
    rw [if_neg y]
    by_cases z : m_gI h 2 2 = 1
    · rw [if_pos z, if_pos ⟨z, yo⟩]
      simp only [u56_79, u56_82, u56_83, u56_86, u56_87, eq_self, q_nl0, q_nlI, q_nlR, not_false_eq_true, q_nz0, q_nz1, q_zv0, q_zv1, q_tl1, q_tl0, q_wif, q_swc, q_swn, List.cons_append, List.nil_append, if_true, if_false, e10, e01, Bool.false_eq_true]
    · rw [if_neg z, if_neg (fun q => z q.1)]
      simp only [u56_79, u56_82, u56_83, u56_86, u56_87, eq_self, q_nl0, q_nlI, q_nlR, not_false_eq_true, q_nz0, q_nz1, q_zv0, q_zv1, q_tl1, q_tl0, q_wif, q_swc, q_swn, List.cons_append, List.nil_append, if_true, if_false, e10, e01, Bool.false_eq_true]
