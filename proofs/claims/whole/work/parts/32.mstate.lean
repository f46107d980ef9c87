/-! THE MODEL'S STATE AS A VALUE: cell 227 holds loaves (0..6), days (7..13), out (14), granted (15), lost (16), foes (17), day (18), seed (19); 226 is the pile, field 46 the man asked for, 48 the day's odds -/
def hK (h : HT) (A P : Nat → Int32) (w o : Int32) : HT := (fun b k => if b = 227 then A k else if b = 226 then P k else if b = 195 ∧ k = 46 then w else if b = 195 ∧ k = 48 then o else h.1 b k, h.2)
theorem gI_hK227 {h : HT} {A P : Nat → Int32} {w o : Int32} {k : Nat} : m_gI (hK h A P w o) 227 k = A k := rfl
theorem gI_hK226 {h : HT} {A P : Nat → Int32} {w o : Int32} {k : Nat} : m_gI (hK h A P w o) 226 k = P k := rfl
theorem gI_hK46 {h : HT} {A P : Nat → Int32} {w o : Int32} : m_gI (hK h A P w o) 195 46 = w := rfl
theorem gI_hK48 {h : HT} {A P : Nat → Int32} {w o : Int32} : m_gI (hK h A P w o) 195 48 = o := rfl
theorem gI_hKo {h : HT} {A P : Nat → Int32} {w o : Int32} {b k : Nat} (z : b ≠ 227 ∧ b ≠ 226) (z2 : b ≠ 195 ∨ k ≠ 46 ∧ k ≠ 48) : m_gI (hK h A P w o) b k = m_gI h b k := by
  show (if b = 227 then A k else if b = 226 then P k else if b = 195 ∧ k = 46 then w else if b = 195 ∧ k = 48 then o else h.1 b k) = h.1 b k
  rw [if_neg z.1, if_neg z.2, if_neg (by omega), if_neg (by omega)]
theorem gR_hK {h : HT} {A P : Nat → Int32} {w o : Int32} {b k : Nat} : m_gR (hK h A P w o) b k = m_gR h b k := rfl
theorem gL_hK {h : HT} {A P : Nat → Int32} {w o : Int32} {b k : Nat} : m_gL (hK h A P w o) b k = m_gL h b k := rfl
theorem Ptr_hK {h : HT} {A P : Nat → Int32} {w o : Int32} : Ptr (hK h A P w o) = Ptr h := rfl
theorem sI_hK227 {h : HT} {A P : Nat → Int32} {w o v : Int32} {k : Nat} : m_sI (hK h A P w o) 227 k v = hK h (up A k v) P w o := by
  apply hx
  · intro b j
    show (if b = 227 ∧ j = k then v else if b = 227 then A j else _) = if b = 227 then (if j = k then v else A j) else _
    by_cases z : b = 227
    · by_cases y : j = k
      · rw [if_pos ⟨z, y⟩, if_pos z, if_pos y]
      · rw [if_neg (fun q => y q.2), if_pos z, if_pos z, if_neg y]
    · rw [if_neg (fun q => z q.1), if_neg z, if_neg z]
  · rfl
theorem sI_hK226 {h : HT} {A P : Nat → Int32} {w o v : Int32} {k : Nat} : m_sI (hK h A P w o) 226 k v = hK h A (up P k v) w o := by
  apply hx
  · intro b j
    show (if b = 226 ∧ j = k then v else if b = 227 then A j else if b = 226 then P j else _) = if b = 227 then A j else if b = 226 then (if j = k then v else P j) else _
    by_cases z : b = 226
    · by_cases y : j = k
      · rw [if_pos ⟨z, y⟩, if_neg (by omega), if_pos z, if_pos y]
      · rw [if_neg (fun q => y q.2), if_neg (by omega), if_pos z, if_neg (by omega), if_pos z, if_neg y]
    · rw [if_neg (fun q => z q.1), if_neg z, if_neg z]
  · rfl
theorem sI_hK46 {h : HT} {A P : Nat → Int32} {w o v : Int32} : m_sI (hK h A P w o) 195 46 v = hK h A P v o := by
  apply hx
  · intro b j
    show (if b = 195 ∧ j = 46 then v else if b = 227 then A j else if b = 226 then P j else if b = 195 ∧ j = 46 then w else if b = 195 ∧ j = 48 then o else h.1 b j) = if b = 227 then A j else if b = 226 then P j else if b = 195 ∧ j = 46 then v else if b = 195 ∧ j = 48 then o else h.1 b j
    by_cases z : b = 195 ∧ j = 46
    · rw [if_pos z, if_neg (by omega), if_neg (by omega), if_pos z]
    · rw [if_neg z, if_neg z, if_neg z]
  · rfl
theorem sI_hK48 {h : HT} {A P : Nat → Int32} {w o v : Int32} : m_sI (hK h A P w o) 195 48 v = hK h A P w v := by
  apply hx
  · intro b j
    show (if b = 195 ∧ j = 48 then v else if b = 227 then A j else if b = 226 then P j else if b = 195 ∧ j = 46 then w else if b = 195 ∧ j = 48 then o else h.1 b j) = if b = 227 then A j else if b = 226 then P j else if b = 195 ∧ j = 46 then w else if b = 195 ∧ j = 48 then v else h.1 b j
    by_cases z : b = 195 ∧ j = 48
    · rw [if_pos z, if_neg (by omega), if_neg (by omega), if_neg (by omega), if_pos z]
    · simp only [if_neg z]
  · rfl
theorem hK_id {h : HT} : hK h (m_gI h 227) (m_gI h 226) (m_gI h 195 46) (m_gI h 195 48) = h := by
  apply hx
  · intro b j
    show (if b = 227 then h.1 227 j else if b = 226 then h.1 226 j else if b = 195 ∧ j = 46 then h.1 195 46 else if b = 195 ∧ j = 48 then h.1 195 48 else h.1 b j) = h.1 b j
    by_cases z : b = 227
    · rw [if_pos z, z]
    · by_cases y : b = 226
      · rw [if_neg z, if_pos y, y]
      · by_cases x : b = 195 ∧ j = 46
        · rw [if_neg z, if_neg y, if_pos x, x.1, x.2]
        · by_cases u : b = 195 ∧ j = 48
          · rw [if_neg z, if_neg y, if_neg x, if_pos u, u.1, u.2]
          · rw [if_neg z, if_neg y, if_neg x, if_neg u]
  · rfl
theorem MTown_hK {h : HT} {A P : Nat → Int32} {w o : Int32} {b : Nat} {τ : CT} (H : MTown h b τ) : MTown (hK h A P w o) b τ := H
/-- the bank's rule, as the model keeps it: from f on -/
def MRule (h : HT) (b f : Nat) (τ : CT) : Prop := (f + τ 0 9 ≤ 1120 ∧ f = 560 * b ∧ τ 0 9 ≤ 560) ∧ m_gI h 216 b = (if τ 0 9 = 0 then 0 else 1) ∧ (0 < τ 0 9 → m_gI h 214 b = nI f) ∧ (0 < τ 0 9 → m_gI h 215 b = nI (f + τ 0 9)) ∧ (∀ i, i < τ 0 9 → m_gI h 222 (f + i) = nI (τ 9 i)) ∧ ∀ i, i < τ 0 9 → m_gI h 223 (f + i) = nI (τ 10 i)
theorem MRule_hK {h : HT} {A P : Nat → Int32} {w o : Int32} {b f : Nat} {τ : CT} (H : MRule h b f τ) : MRule (hK h A P w o) b f τ := H
theorem k_out {X : XT} {d : Nat} {h : HT} {Q : QT} (hp : Ptr h) : wq X d 243 0 [some (.ref 195)] [] h Q = Q (some (.int (m_gI h 227 14))) h := by
  simp only [u243_0, u243_1, u243_4, u243_6, u243_7, eq_self, q_nl0, q_nlI, q_nlR, not_false_eq_true, q_nz0, q_nz1, q_zv0, q_zv1, q_tl1, q_tl0, q_wif, q_swc, q_swn, List.cons_append, List.nil_append, sh_195, sh_227, p_195_47 hp, show m_in 14 20 = true by decide, show (14 : Int32).toNatClampNeg = 14 by decide]
theorem k_goneFor {X : XT} {d n m : Nat} {h : HT} {Q : QT} (hp : Ptr h) (hn : n < 128) (ho : m_gI h 227 14 = nI n) (hm : m < 8) : wq X (d + 1) 229 0 [some (.ref 195), some (.int (nI m))] [] h Q = Q (some (.int (nI (pcN (n &&& (127 ^^^ 2 ^ m % 128)))))) h := by
  have e1 : ∀ m, m < 8 → ∀ n, n < 128 → nI n &&& ((1 : Int32) <<< (nI m &&& 31) ^^^ (-1)) = nI (n &&& (127 ^^^ 2 ^ m % 128)) := by decide +kernel
  have e2 : n &&& (127 ^^^ 2 ^ m % 128) < 128 := Nat.lt_of_le_of_lt Nat.and_le_left hn
  simp only [u229_0, u229_1, u229_4, u229_6, u229_7, u229_8, u229_9, u229_10, u229_11, u229_12, u229_13, u229_16, eq_self, q_nl0, q_nlI, q_nlR, not_false_eq_true, q_nz0, q_nz1, q_zv0, q_zv1, q_tl1, q_tl0, q_wif, q_swc, q_swn, List.cons_append, List.nil_append, sh_195, sh_227, p_195_47 hp, show m_in 14 20 = true by decide, show (14 : Int32).toNatClampNeg = 14 by decide, ho, e1 m hm n hn, k_bitsOf e2]
theorem gone_one : ∀ n, n < 128 → ∀ m, m < 7 → n.testBit m = true → nI (pcN (n &&& (127 ^^^ 2 ^ m % 128))) = nI (pcN n) - 1 := by decide +kernel
/-! the model's formula -/
def mU (τ : CT) (A : Nat → Int32) (n m : Nat) : UT := (A m, nI (τ 5 m), nI (τ 6 m), nI (pcN n) - 1, A (7 + m), nI (pcN (sShort τ n)))
theorem m7_14 {b m : Nat} (hb : b < 2) (hm : m < 7) : m_in (nI (7 * b + m)) 14 = true := q_in (by omega) (by decide)
theorem k_asked {X : XT} {d b m n k v : Nat} {h : HT} {Q : QT} {τ : CT} {A P : Nat → Int32} {o : Int32} (H : MTown h b τ) (hm : m < τ 0 1) (hn : n < 128) (ho : A 14 = nI n) (hb : n.testBit m = true) (hk : k ∈ fOps) : wq X (d + 3) 232 0 [some (.ref 195), some (.int (nI k)), some (.int (nI v))] [] (hK h A P (nI m) o) Q = Q (some (.int (fUnit (mU τ A n m) k v))) (hK h A P (nI m) o) := by
  have h7 := o_mn (mt_ok H)
  have hbb := mt_b H
  have hp : Ptr (hK h A P (nI m) o) := mt_p H
  have HK : MTown (hK h A P (nI m) o) b τ := H
  have e1 : m_in (nI m) 20 = true := q_in (by omega) (by decide)
  have e2 : (nI m).toNatClampNeg = m := q_cl (by omega)
  have e3 : m_in (nI (7 * b + m)) 14 = true := m7_14 hbb (by omega)
  have e4 : (nI (7 * b + m)).toNatClampNeg = 7 * b + m := q_cl (by omega)
  have e5 : m_in (nI (7 + m)) 20 = true := q_in (by omega) (by decide)
  have e6 : (nI (7 + m)).toNatClampNeg = 7 + m := q_cl (by omega)
  have e7 : (0 : Int32) + nI m = nI m := Int32.zero_add _
  have e8 : (7 : Int32) + nI m = nI (7 + m) := nI_add 7 m
  have h16 := sShort_16 (mt_ok H) n
  have eg := gone_one n hn m (by omega) hb
  simp only [u232_0, u232_1, q_swc, q_swn]
  have z' : k = 110 ∨ k = 108 ∨ k = 100 ∨ k = 111 ∨ k = 103 ∨ k = 121 ∨ k = 115 := by simpa [fOps] using hk
  rcases z' with y | y | y | y | y | y | y <;> subst y
  · rw [show (nI 110).toInt = 110 from rfl]
    simp only [u232_145, u232_146, eq_self, q_nl0, q_nlI, q_nlR, not_false_eq_true, q_nz0, q_nz1, q_zv0, q_zv1, q_tl1, q_tl0, q_wif, q_swc, q_swn, List.cons_append, List.nil_append, Int.reduceEq, if_false, if_true]
    rfl
  · rw [show (nI 108).toInt = 108 from rfl]
    simp only [u232_60, u232_61, u232_64, u232_65, u232_66, u232_69, u232_70, u232_71, eq_self, q_nl0, q_nlI, q_nlR, not_false_eq_true, q_nz0, q_nz1, q_zv0, q_zv1, q_tl1, q_tl0, q_wif, q_swc, q_swn, List.cons_append, List.nil_append, Int.reduceEq, if_false, if_true, sh_195, sh_227, gR_hK, p_195_47 (mt_p H), gI_hK46, e7, e1, e2, gI_hK227]
    rfl
  · rw [show (nI 100).toInt = 100 from rfl]
    simp only [u232_72, u232_73, u232_76, u232_78, u232_79, u232_82, u232_83, u232_84, u232_87, u232_88, u232_89, eq_self, q_nl0, q_nlI, q_nlR, not_false_eq_true, q_nz0, q_nz1, q_zv0, q_zv1, q_tl1, q_tl0, q_wif, q_swc, q_swn, List.cons_append, List.nil_append, Int.reduceEq, if_false, if_true, sh_195, sh_210, p_195_23 hp, gI_hK46, mt_k HK, nI_7b, e3, e4, mt_de HK m hm]
    rfl
  · rw [show (nI 111).toInt = 111 from rfl]
    simp only [u232_90, u232_91, u232_94, u232_96, u232_97, u232_100, u232_101, u232_102, u232_105, u232_106, u232_107, eq_self, q_nl0, q_nlI, q_nlR, not_false_eq_true, q_nz0, q_nz1, q_zv0, q_zv1, q_tl1, q_tl0, q_wif, q_swc, q_swn, List.cons_append, List.nil_append, Int.reduceEq, if_false, if_true, sh_195, sh_211, p_195_24 hp, gI_hK46, mt_k HK, nI_7b, e3, e4, mt_ot HK m hm]
    rfl
  · rw [show (nI 103).toInt = 103 from rfl]
    simp only [u232_108, u232_109, u232_110, u232_113, u232_116, eq_self, q_nl0, q_nlI, q_nlR, not_false_eq_true, q_nz0, q_nz1, q_zv0, q_zv1, q_tl1, q_tl0, q_wif, q_swc, q_swn, List.cons_append, List.nil_append, Int.reduceEq, if_false, if_true, sh_195, gI_hK46, k_goneFor hp hn ho (show m < 8 by omega), eg]
    rfl
  · rw [show (nI 121).toInt = 121 from rfl]
    simp only [u232_117, u232_118, u232_121, u232_123, u232_124, u232_127, u232_128, u232_129, eq_self, q_nl0, q_nlI, q_nlR, not_false_eq_true, q_nz0, q_nz1, q_zv0, q_zv1, q_tl1, q_tl0, q_wif, q_swc, q_swn, List.cons_append, List.nil_append, Int.reduceEq, if_false, if_true, sh_195, sh_227, gR_hK, p_195_47 (mt_p H), gI_hK46, e8, e5, e6, gI_hK227]
    rfl
  · rw [show (nI 115).toInt = 115 from rfl]
    simp only [u232_130, u232_131, u232_132, u232_135, u232_137, u232_138, u232_141, u232_144, eq_self, q_nl0, q_nlI, q_nlR, not_false_eq_true, q_nz0, q_nz1, q_zv0, q_zv1, q_tl1, q_tl0, q_wif, q_swc, q_swn, List.cons_append, List.nil_append, Int.reduceEq, if_false, if_true, sh_195, sh_227, gR_hK, p_195_47 (mt_p H), gI_hK227, show m_in 14 20 = true by decide, show (14 : Int32).toNatClampNeg = 14 by decide, ho, k_shortBy HK hn, k_bitsOf (show sShort τ n < 128 by omega)]
    rfl
