/-! WHAT THE MODEL ASKS OF A TOKEN -/
theorem tK_1 {V : Nat → Nat} {L s : Nat} (h : tK V L s = 1) : nLt V L s ≤ 8 := by
  unfold tK at h
  split at h
  · cases h
  · split at h
    · split at h
      · assumption
      · cases h
    · split at h
      · split at h
        · split at h <;> cases h
        · cases h
      · split at h <;> cases h
theorem wN_40 {V : Nat → Nat} {L s : Nat} (h : tK V L s = 1) : wN V s (nLt V L s) < 2 ^ 40 := by
  have y := tK_1 h
  refine Nat.lt_of_lt_of_le (wN_lt (L := L) (nLt V L s) (Nat.le_refl _)) ?_
  rw [show (32 : Nat) = 2 ^ 5 from rfl, ← Nat.pow_mul]
  exact Nat.pow_le_pow_right (by decide) (by omega)
theorem mK_5 {V : Nat → Nat} {L s : Nat} : mK V L s ≤ 5 := by
  unfold mK
  repeat' split
  all_goals omega
theorem mK_s {V : Nat → Nat} {L s : Nat} : (mK V L s = 5) = (tK V L s = 3) := by
  have := tK_4 (V := V) (L := L) (s := s)
  unfold mK
  apply propext
  constructor
  · intro q
    split at q
    · cases q
    · split at q
      · split at q <;> cases q
      · split at q
        · cases q
        · split at q
          · assumption
          · cases q
  · intro q
    rw [q]
    rfl
theorem mK_n {V : Nat → Nat} {L s : Nat} : (mK V L s = 4) = (tK V L s = 2) := by
  unfold mK
  apply propext
  constructor
  · intro q
    split at q
    · cases q
    · split at q
      · split at q <;> cases q
      · split at q
        · assumption
        · split at q <;> cases q
  · intro q
    rw [q]
    rfl
theorem mK_b {V : Nat → Nat} {L s : Nat} : (mK V L s = 1) = (tK V L s = 4) := by
  have h4 := tK_4 (V := V) (L := L) (s := s)
  unfold mK
  apply propext
  constructor
  · intro q
    split at q
    · cases q
    · split at q
      · split at q <;> cases q
      · split at q
        · cases q
        · split at q
          · cases q
          · omega
  · intro q
    rw [q]
    rfl
theorem mK_w {V : Nat → Nat} {L s : Nat} : (mK V L s = 3) = (tK V L s = 1 ∧ own (nL (wN V s (nLt V L s))) = true) := by
  unfold mK
  apply propext
  constructor
  · intro q
    split at q
    · cases q
    · split at q
      · split at q
        · exact ⟨by assumption, by assumption⟩
        · cases q
      · split at q
        · cases q
        · split at q <;> cases q
  · intro q
    rw [q.1, q.2]
    rfl
theorem mK_m {V : Nat → Nat} {L s : Nat} : (mK V L s = 2) = (isN V L s = true) := by
  unfold mK isN
  apply propext
  constructor
  · intro q
    split at q
    · cases q
    · split at q
      · split at q
        · cases q
        · rename_i z1 z2 z3
          exact decide_eq_true ⟨z2, by simpa using z3⟩
      · split at q
        · cases q
        · split at q <;> cases q
  · intro q
    have q := of_decide_eq_true q
    rw [q.1, q.2]
    rfl
theorem k_isWord {X : XT} {d i L s : Nat} {h : HT} {Q : QT} {V : Nat → Nat} {c : Int64} (H : TkK h L V s) (hi : i ∈ wIx) (hc : c = nL (cv (txN i))) : wq X d 200 0 [some (.ref 195), some (.long c), none] [] h Q = Q (some (.int (if isW V L s i = true then 1 else 0))) h := by
  have nb0 : q_nb .boolean 0 = true := by decide
  have nb1 : q_nb .boolean 1 = true := by decide
  have e1 : (nI (mK V L s) = 3) = (mK V L s = 3) := nI_eqB (b := 3) (by have := mK_5 (V := V) (L := L) (s := s); omega) (by decide)
  unfold isW
  by_cases z : tK V L s = 1
  · have hw := wN_40 z
    have ht : txN i < 2 ^ 40 := ow_4 _ (tx_o i hi)
    have ec : (nL (cv (wN V s (nLt V L s))) = c) = (wN V s (nLt V L s) = txN i) := by
      rw [hc]
      exact propext ⟨fun q => cv_inj hw ht q, fun q => by rw [q]⟩
    by_cases y : wN V s (nLt V L s) = txN i
    · have oo : own (nL (wN V s (nLt V L s))) = true := by
        rw [own_N hw, y]
        exact tx_o i hi
      have m3 : mK V L s = 3 := by
        rw [mK_w]
        exact ⟨z, oo⟩
      rw [if_pos (decide_eq_true ⟨z, by rw [tx_n i hi, y]⟩)]
      simp only [u200_0, u200_1, u200_4, u200_5, u200_8, u200_9, u200_12, u200_13, u200_14, u200_17, u200_18, u200_21, u200_22, eq_self, q_nl0, q_nlI, q_nlR, not_false_eq_true, q_nz0, q_nz1, q_zv0, q_zv1, q_tl1, q_tl0, q_wif, q_swc, q_swn, List.cons_append, List.nil_append, if_true, if_false, e10, e01, Bool.false_eq_true, sh_195, H.2.2.2.2.1, e1, eq_true m3, H.2.2.2.2.2.1 z, lg_z, ec, eq_true y, nb1]
    · rw [if_neg (fun q => y (by
        have q := (of_decide_eq_true q).2
        rw [tx_n i hi] at q
        exact nL_inj (Nat.lt_trans hw (by decide)) (Nat.lt_trans ht (by decide)) q))]
      by_cases m3 : mK V L s = 3
      · simp only [u200_0, u200_1, u200_4, u200_5, u200_8, u200_9, u200_12, u200_13, u200_14, u200_17, u200_18, u200_21, u200_22, eq_self, q_nl0, q_nlI, q_nlR, not_false_eq_true, q_nz0, q_nz1, q_zv0, q_zv1, q_tl1, q_tl0, q_wif, q_swc, q_swn, List.cons_append, List.nil_append, if_true, if_false, e10, e01, Bool.false_eq_true, sh_195, H.2.2.2.2.1, e1, eq_true m3, H.2.2.2.2.2.1 z, lg_z, ec, eq_false y, nb0]
      · simp only [u200_0, u200_1, u200_4, u200_5, u200_8, u200_9, u200_12, u200_13, u200_14, u200_17, u200_18, u200_21, u200_22, eq_self, q_nl0, q_nlI, q_nlR, not_false_eq_true, q_nz0, q_nz1, q_zv0, q_zv1, q_tl1, q_tl0, q_wif, q_swc, q_swn, List.cons_append, List.nil_append, if_true, if_false, e10, e01, Bool.false_eq_true, sh_195, H.2.2.2.2.1, e1, eq_false m3, nb0]
  · rw [if_neg (fun q => z (of_decide_eq_true q).1)]
    have m3 : ¬ mK V L s = 3 := by
      rw [mK_w]
      exact fun q => z q.1
    simp only [u200_0, u200_1, u200_4, u200_5, u200_8, u200_9, u200_12, u200_13, u200_14, u200_17, u200_18, u200_21, u200_22, eq_self, q_nl0, q_nlI, q_nlR, not_false_eq_true, q_nz0, q_nz1, q_zv0, q_zv1, q_tl1, q_tl0, q_wif, q_swc, q_swn, List.cons_append, List.nil_append, if_true, if_false, e10, e01, Bool.false_eq_true, sh_195, H.2.2.2.2.1, e1, eq_false m3, nb0]
theorem k_isSignH {X : XT} {d c L s : Nat} {h : HT} {Q : QT} {V : Nat → Nat} (H : TkK h L V s) (hc : c < 256) : wq X (d + 1) 217 0 [some (.ref 195), some (.int (nI c))] [] h Q = Q (some (.int (if isG V L s c = true then 1 else 0))) h := by
  have nb0 : q_nb .boolean 0 = true := by decide
  have nb1 : q_nb .boolean 1 = true := by decide
  have hL := H.1.2.2.2.1
  have hs := H.2.1
  have e1 : (nI (mK V L s) = 5) = (tK V L s = 3) := by
    rw [← mK_s]
    exact nI_eqB (b := 5) (by have := mK_5 (V := V) (L := L) (s := s); omega) (by decide)
  have ks := fun (Q : QT) => k_sign (X := X) (d := d) (Q := Q) (p := s) H.1 (by omega)
  unfold isG
  by_cases z : tK V L s = 3
  · have hsl : s < L := tK_0 (V := V) (L := L) (s := s) (by omega)
    have hv := H.1.2.2.2.2 s hsl
    have es : sA V L s = V s := if_pos hsl
    have e2 : (nI (V s) = nI c) = (V s = c) := nI_eqB (by omega) (by omega)
    by_cases y : V s = c
    · rw [if_pos (decide_eq_true ⟨z, y⟩)]
      simp only [u217_0, u217_1, u217_4, u217_5, u217_8, u217_9, u217_10, u217_13, u217_16, u217_17, u217_20, u217_21, u217_24, u217_25, eq_self, q_nl0, q_nlI, q_nlR, not_false_eq_true, q_nz0, q_nz1, q_zv0, q_zv1, q_tl1, q_tl0, q_wif, q_swc, q_swn, List.cons_append, List.nil_append, if_true, if_false, e10, e01, Bool.false_eq_true, sh_195, H.2.2.2.2.1, H.2.2.1, e1, eq_true z, ks, es, e2, eq_true y, nb1, Option.toList]
    · rw [if_neg (fun q => y (of_decide_eq_true q).2)]
      simp only [u217_0, u217_1, u217_4, u217_5, u217_8, u217_9, u217_10, u217_13, u217_16, u217_17, u217_20, u217_21, u217_24, u217_25, eq_self, q_nl0, q_nlI, q_nlR, not_false_eq_true, q_nz0, q_nz1, q_zv0, q_zv1, q_tl1, q_tl0, q_wif, q_swc, q_swn, List.cons_append, List.nil_append, if_true, if_false, e10, e01, Bool.false_eq_true, sh_195, H.2.2.2.2.1, H.2.2.1, e1, eq_true z, ks, es, e2, eq_false y, nb0, Option.toList]
  · rw [if_neg (fun q => z (of_decide_eq_true q).1)]
    simp only [u217_0, u217_1, u217_4, u217_5, u217_8, u217_9, u217_10, u217_13, u217_16, u217_17, u217_20, u217_21, u217_24, u217_25, eq_self, q_nl0, q_nlI, q_nlR, not_false_eq_true, q_nz0, q_nz1, q_zv0, q_zv1, q_tl1, q_tl0, q_wif, q_swc, q_swn, List.cons_append, List.nil_append, if_true, if_false, e10, e01, Bool.false_eq_true, sh_195, H.2.2.2.2.1, e1, eq_false z, nb0]
theorem k_wordHere {X : XT} {d L s : Nat} {h : HT} {Q : QT} {V : Nat → Nat} (H : TkK h L V s) : wq X (d + 1) 218 0 [some (.ref 195)] [] h Q = Q (some (.int (nI (kuC V L s)))) h := by
  have wa := fun (i : Nat) (c : Int64) (hi : i ∈ wIx) (hc : c = nL (cv (txN i))) (Q : QT) => k_isWord (X := X) (d := d) (Q := Q) H hi hc
  unfold kuC
  by_cases z7 : isW V L s 7 = true
  · simp only [u218_0, u218_1, u218_4, u218_7, u218_10, u218_12, u218_13, u218_14, u218_17, u218_20, u218_23, u218_25, u218_26, u218_27, u218_30, u218_33, u218_36, u218_38, u218_39, u218_40, u218_43, u218_46, u218_49, u218_51, u218_52, u218_53, u218_56, u218_59, u218_62, u218_64, u218_65, u218_66, u218_69, u218_72, u218_75, u218_77, u218_80, u218_81, eq_self, q_nl0, q_nlI, q_nlR, not_false_eq_true, q_nz0, q_nz1, q_zv0, q_zv1, q_tl1, q_tl0, q_wif, q_swc, q_swn, List.cons_append, List.nil_append, if_true, if_false, e10, e01, Bool.false_eq_true, sh_195, wa 7 119225632318835 (by decide) (by decide), wa 8 1684365940 (by decide) (by decide), wa 9 122545758368371 (by decide) (by decide), wa 15 1735356005 (by decide) (by decide), wa 16 1684109683 (by decide) (by decide), wa 17 495673373300 (by decide) (by decide), Option.toList, z7]
    rfl
  · skip
    by_cases z8 : isW V L s 8 = true
    · simp only [u218_0, u218_1, u218_4, u218_7, u218_10, u218_12, u218_13, u218_14, u218_17, u218_20, u218_23, u218_25, u218_26, u218_27, u218_30, u218_33, u218_36, u218_38, u218_39, u218_40, u218_43, u218_46, u218_49, u218_51, u218_52, u218_53, u218_56, u218_59, u218_62, u218_64, u218_65, u218_66, u218_69, u218_72, u218_75, u218_77, u218_80, u218_81, eq_self, q_nl0, q_nlI, q_nlR, not_false_eq_true, q_nz0, q_nz1, q_zv0, q_zv1, q_tl1, q_tl0, q_wif, q_swc, q_swn, List.cons_append, List.nil_append, if_true, if_false, e10, e01, Bool.false_eq_true, sh_195, wa 7 119225632318835 (by decide) (by decide), wa 8 1684365940 (by decide) (by decide), wa 9 122545758368371 (by decide) (by decide), wa 15 1735356005 (by decide) (by decide), wa 16 1684109683 (by decide) (by decide), wa 17 495673373300 (by decide) (by decide), Option.toList, z7, z8]
      rfl
    · skip
      by_cases z9 : isW V L s 9 = true
      · simp only [u218_0, u218_1, u218_4, u218_7, u218_10, u218_12, u218_13, u218_14, u218_17, u218_20, u218_23, u218_25, u218_26, u218_27, u218_30, u218_33, u218_36, u218_38, u218_39, u218_40, u218_43, u218_46, u218_49, u218_51, u218_52, u218_53, u218_56, u218_59, u218_62, u218_64, u218_65, u218_66, u218_69, u218_72, u218_75, u218_77, u218_80, u218_81, eq_self, q_nl0, q_nlI, q_nlR, not_false_eq_true, q_nz0, q_nz1, q_zv0, q_zv1, q_tl1, q_tl0, q_wif, q_swc, q_swn, List.cons_append, List.nil_append, if_true, if_false, e10, e01, Bool.false_eq_true, sh_195, wa 7 119225632318835 (by decide) (by decide), wa 8 1684365940 (by decide) (by decide), wa 9 122545758368371 (by decide) (by decide), wa 15 1735356005 (by decide) (by decide), wa 16 1684109683 (by decide) (by decide), wa 17 495673373300 (by decide) (by decide), Option.toList, z7, z8, z9]
        rfl
      · skip
        by_cases z15 : isW V L s 15 = true
        · simp only [u218_0, u218_1, u218_4, u218_7, u218_10, u218_12, u218_13, u218_14, u218_17, u218_20, u218_23, u218_25, u218_26, u218_27, u218_30, u218_33, u218_36, u218_38, u218_39, u218_40, u218_43, u218_46, u218_49, u218_51, u218_52, u218_53, u218_56, u218_59, u218_62, u218_64, u218_65, u218_66, u218_69, u218_72, u218_75, u218_77, u218_80, u218_81, eq_self, q_nl0, q_nlI, q_nlR, not_false_eq_true, q_nz0, q_nz1, q_zv0, q_zv1, q_tl1, q_tl0, q_wif, q_swc, q_swn, List.cons_append, List.nil_append, if_true, if_false, e10, e01, Bool.false_eq_true, sh_195, wa 7 119225632318835 (by decide) (by decide), wa 8 1684365940 (by decide) (by decide), wa 9 122545758368371 (by decide) (by decide), wa 15 1735356005 (by decide) (by decide), wa 16 1684109683 (by decide) (by decide), wa 17 495673373300 (by decide) (by decide), Option.toList, z7, z8, z9, z15]
          rfl
        · skip
          by_cases z16 : isW V L s 16 = true
          · simp only [u218_0, u218_1, u218_4, u218_7, u218_10, u218_12, u218_13, u218_14, u218_17, u218_20, u218_23, u218_25, u218_26, u218_27, u218_30, u218_33, u218_36, u218_38, u218_39, u218_40, u218_43, u218_46, u218_49, u218_51, u218_52, u218_53, u218_56, u218_59, u218_62, u218_64, u218_65, u218_66, u218_69, u218_72, u218_75, u218_77, u218_80, u218_81, eq_self, q_nl0, q_nlI, q_nlR, not_false_eq_true, q_nz0, q_nz1, q_zv0, q_zv1, q_tl1, q_tl0, q_wif, q_swc, q_swn, List.cons_append, List.nil_append, if_true, if_false, e10, e01, Bool.false_eq_true, sh_195, wa 7 119225632318835 (by decide) (by decide), wa 8 1684365940 (by decide) (by decide), wa 9 122545758368371 (by decide) (by decide), wa 15 1735356005 (by decide) (by decide), wa 16 1684109683 (by decide) (by decide), wa 17 495673373300 (by decide) (by decide), Option.toList, z7, z8, z9, z15, z16]
            rfl
          · skip
            by_cases z17 : isW V L s 17 = true
            · simp only [u218_0, u218_1, u218_4, u218_7, u218_10, u218_12, u218_13, u218_14, u218_17, u218_20, u218_23, u218_25, u218_26, u218_27, u218_30, u218_33, u218_36, u218_38, u218_39, u218_40, u218_43, u218_46, u218_49, u218_51, u218_52, u218_53, u218_56, u218_59, u218_62, u218_64, u218_65, u218_66, u218_69, u218_72, u218_75, u218_77, u218_80, u218_81, eq_self, q_nl0, q_nlI, q_nlR, not_false_eq_true, q_nz0, q_nz1, q_zv0, q_zv1, q_tl1, q_tl0, q_wif, q_swc, q_swn, List.cons_append, List.nil_append, if_true, if_false, e10, e01, Bool.false_eq_true, sh_195, wa 7 119225632318835 (by decide) (by decide), wa 8 1684365940 (by decide) (by decide), wa 9 122545758368371 (by decide) (by decide), wa 15 1735356005 (by decide) (by decide), wa 16 1684109683 (by decide) (by decide), wa 17 495673373300 (by decide) (by decide), Option.toList, z7, z8, z9, z15, z16, z17]
              rfl
            · simp only [u218_0, u218_1, u218_4, u218_7, u218_10, u218_12, u218_13, u218_14, u218_17, u218_20, u218_23, u218_25, u218_26, u218_27, u218_30, u218_33, u218_36, u218_38, u218_39, u218_40, u218_43, u218_46, u218_49, u218_51, u218_52, u218_53, u218_56, u218_59, u218_62, u218_64, u218_65, u218_66, u218_69, u218_72, u218_75, u218_77, u218_80, u218_81, eq_self, q_nl0, q_nlI, q_nlR, not_false_eq_true, q_nz0, q_nz1, q_zv0, q_zv1, q_tl1, q_tl0, q_wif, q_swc, q_swn, List.cons_append, List.nil_append, if_true, if_false, e10, e01, Bool.false_eq_true, sh_195, wa 7 119225632318835 (by decide) (by decide), wa 8 1684365940 (by decide) (by decide), wa 9 122545758368371 (by decide) (by decide), wa 15 1735356005 (by decide) (by decide), wa 16 1684109683 (by decide) (by decide), wa 17 495673373300 (by decide) (by decide), Option.toList, z7, z8, z9, z15, z16, z17]
              rfl
def rkC (V : Nat → Nat) (L s : Nat) : Nat := if isW V L s 20 = true then 2 else if isW V L s 19 = true then 1 else if isG V L s 60 = true then 4 else if isG V L s 62 = true then 4 else if isG V L s 61 = true then 4 else if isG V L s 43 = true then 5 else if isG V L s 45 = true then 5 else if isG V L s 42 = true then 6 else if isG V L s 47 = true then 6 else if isG V L s 37 = true then 6 else 0
theorem k_rank {X : XT} {d L s : Nat} {h : HT} {Q : QT} {V : Nat → Nat} (H : TkK h L V s) : wq X (d + 2) 221 0 [some (.ref 195)] [] h Q = Q (some (.int (nI (rkC V L s)))) h := by
  have wa := fun (i : Nat) (c : Int64) (hi : i ∈ wIx) (hc : c = nL (cv (txN i))) (Q : QT) => k_isWord (X := X) (d := d + 1) (Q := Q) H hi hc
  have sg : ∀ (c : Nat) (x : Int32), x = nI c → c < 256 → ∀ Q : QT, wq X (d + 1) 217 0 [some (.ref 195), some (.int x)] [] h Q = Q (some (.int (if isG V L s c = true then 1 else 0))) h := fun c x hx hc Q => by
    rw [hx]
    exact k_isSignH (X := X) (d := d) (Q := Q) H hc
  unfold rkC
  by_cases za : isW V L s 20 = true
  · simp only [u221_0, u221_1, u221_4, u221_7, u221_10, u221_11, u221_12, u221_13, u221_16, u221_19, u221_22, u221_23, u221_24, u221_25, u221_27, u221_30, u221_33, u221_34, u221_36, u221_39, u221_42, u221_43, u221_45, u221_48, u221_51, u221_52, u221_53, u221_54, u221_56, u221_59, u221_62, u221_63, u221_65, u221_68, u221_71, u221_72, u221_73, u221_74, u221_76, u221_79, u221_82, u221_83, u221_85, u221_88, u221_91, u221_92, u221_94, u221_97, u221_100, u221_102, u221_105, u221_106, eq_self, q_nl0, q_nlI, q_nlR, not_false_eq_true, q_nz0, q_nz1, q_zv0, q_zv1, q_tl1, q_tl0, q_wif, q_swc, q_swn, List.cons_append, List.nil_append, if_true, if_false, e10, e01, Bool.false_eq_true, sh_195, wa 20 6385252 (by decide) (by decide), wa 19 28530 (by decide) (by decide), sg 60 60 rfl (by decide), sg 62 62 rfl (by decide), sg 61 61 rfl (by decide), sg 43 43 rfl (by decide), sg 45 45 rfl (by decide), sg 42 42 rfl (by decide), sg 47 47 rfl (by decide), sg 37 37 rfl (by decide), Option.toList, za]
    rfl
  · skip
    by_cases zb : isW V L s 19 = true
    · simp only [u221_0, u221_1, u221_4, u221_7, u221_10, u221_11, u221_12, u221_13, u221_16, u221_19, u221_22, u221_23, u221_24, u221_25, u221_27, u221_30, u221_33, u221_34, u221_36, u221_39, u221_42, u221_43, u221_45, u221_48, u221_51, u221_52, u221_53, u221_54, u221_56, u221_59, u221_62, u221_63, u221_65, u221_68, u221_71, u221_72, u221_73, u221_74, u221_76, u221_79, u221_82, u221_83, u221_85, u221_88, u221_91, u221_92, u221_94, u221_97, u221_100, u221_102, u221_105, u221_106, eq_self, q_nl0, q_nlI, q_nlR, not_false_eq_true, q_nz0, q_nz1, q_zv0, q_zv1, q_tl1, q_tl0, q_wif, q_swc, q_swn, List.cons_append, List.nil_append, if_true, if_false, e10, e01, Bool.false_eq_true, sh_195, wa 20 6385252 (by decide) (by decide), wa 19 28530 (by decide) (by decide), sg 60 60 rfl (by decide), sg 62 62 rfl (by decide), sg 61 61 rfl (by decide), sg 43 43 rfl (by decide), sg 45 45 rfl (by decide), sg 42 42 rfl (by decide), sg 47 47 rfl (by decide), sg 37 37 rfl (by decide), Option.toList, za, zb]
      rfl
    · skip
      by_cases zc60 : isG V L s 60 = true
      · simp only [u221_0, u221_1, u221_4, u221_7, u221_10, u221_11, u221_12, u221_13, u221_16, u221_19, u221_22, u221_23, u221_24, u221_25, u221_27, u221_30, u221_33, u221_34, u221_36, u221_39, u221_42, u221_43, u221_45, u221_48, u221_51, u221_52, u221_53, u221_54, u221_56, u221_59, u221_62, u221_63, u221_65, u221_68, u221_71, u221_72, u221_73, u221_74, u221_76, u221_79, u221_82, u221_83, u221_85, u221_88, u221_91, u221_92, u221_94, u221_97, u221_100, u221_102, u221_105, u221_106, eq_self, q_nl0, q_nlI, q_nlR, not_false_eq_true, q_nz0, q_nz1, q_zv0, q_zv1, q_tl1, q_tl0, q_wif, q_swc, q_swn, List.cons_append, List.nil_append, if_true, if_false, e10, e01, Bool.false_eq_true, sh_195, wa 20 6385252 (by decide) (by decide), wa 19 28530 (by decide) (by decide), sg 60 60 rfl (by decide), sg 62 62 rfl (by decide), sg 61 61 rfl (by decide), sg 43 43 rfl (by decide), sg 45 45 rfl (by decide), sg 42 42 rfl (by decide), sg 47 47 rfl (by decide), sg 37 37 rfl (by decide), Option.toList, za, zb, zc60]
        rfl
      · skip
        by_cases zc62 : isG V L s 62 = true
        · simp only [u221_0, u221_1, u221_4, u221_7, u221_10, u221_11, u221_12, u221_13, u221_16, u221_19, u221_22, u221_23, u221_24, u221_25, u221_27, u221_30, u221_33, u221_34, u221_36, u221_39, u221_42, u221_43, u221_45, u221_48, u221_51, u221_52, u221_53, u221_54, u221_56, u221_59, u221_62, u221_63, u221_65, u221_68, u221_71, u221_72, u221_73, u221_74, u221_76, u221_79, u221_82, u221_83, u221_85, u221_88, u221_91, u221_92, u221_94, u221_97, u221_100, u221_102, u221_105, u221_106, eq_self, q_nl0, q_nlI, q_nlR, not_false_eq_true, q_nz0, q_nz1, q_zv0, q_zv1, q_tl1, q_tl0, q_wif, q_swc, q_swn, List.cons_append, List.nil_append, if_true, if_false, e10, e01, Bool.false_eq_true, sh_195, wa 20 6385252 (by decide) (by decide), wa 19 28530 (by decide) (by decide), sg 60 60 rfl (by decide), sg 62 62 rfl (by decide), sg 61 61 rfl (by decide), sg 43 43 rfl (by decide), sg 45 45 rfl (by decide), sg 42 42 rfl (by decide), sg 47 47 rfl (by decide), sg 37 37 rfl (by decide), Option.toList, za, zb, zc60, zc62]
          rfl
        · skip
          by_cases zc61 : isG V L s 61 = true
          · simp only [u221_0, u221_1, u221_4, u221_7, u221_10, u221_11, u221_12, u221_13, u221_16, u221_19, u221_22, u221_23, u221_24, u221_25, u221_27, u221_30, u221_33, u221_34, u221_36, u221_39, u221_42, u221_43, u221_45, u221_48, u221_51, u221_52, u221_53, u221_54, u221_56, u221_59, u221_62, u221_63, u221_65, u221_68, u221_71, u221_72, u221_73, u221_74, u221_76, u221_79, u221_82, u221_83, u221_85, u221_88, u221_91, u221_92, u221_94, u221_97, u221_100, u221_102, u221_105, u221_106, eq_self, q_nl0, q_nlI, q_nlR, not_false_eq_true, q_nz0, q_nz1, q_zv0, q_zv1, q_tl1, q_tl0, q_wif, q_swc, q_swn, List.cons_append, List.nil_append, if_true, if_false, e10, e01, Bool.false_eq_true, sh_195, wa 20 6385252 (by decide) (by decide), wa 19 28530 (by decide) (by decide), sg 60 60 rfl (by decide), sg 62 62 rfl (by decide), sg 61 61 rfl (by decide), sg 43 43 rfl (by decide), sg 45 45 rfl (by decide), sg 42 42 rfl (by decide), sg 47 47 rfl (by decide), sg 37 37 rfl (by decide), Option.toList, za, zb, zc60, zc62, zc61]
            rfl
          · skip
            by_cases zc43 : isG V L s 43 = true
            · simp only [u221_0, u221_1, u221_4, u221_7, u221_10, u221_11, u221_12, u221_13, u221_16, u221_19, u221_22, u221_23, u221_24, u221_25, u221_27, u221_30, u221_33, u221_34, u221_36, u221_39, u221_42, u221_43, u221_45, u221_48, u221_51, u221_52, u221_53, u221_54, u221_56, u221_59, u221_62, u221_63, u221_65, u221_68, u221_71, u221_72, u221_73, u221_74, u221_76, u221_79, u221_82, u221_83, u221_85, u221_88, u221_91, u221_92, u221_94, u221_97, u221_100, u221_102, u221_105, u221_106, eq_self, q_nl0, q_nlI, q_nlR, not_false_eq_true, q_nz0, q_nz1, q_zv0, q_zv1, q_tl1, q_tl0, q_wif, q_swc, q_swn, List.cons_append, List.nil_append, if_true, if_false, e10, e01, Bool.false_eq_true, sh_195, wa 20 6385252 (by decide) (by decide), wa 19 28530 (by decide) (by decide), sg 60 60 rfl (by decide), sg 62 62 rfl (by decide), sg 61 61 rfl (by decide), sg 43 43 rfl (by decide), sg 45 45 rfl (by decide), sg 42 42 rfl (by decide), sg 47 47 rfl (by decide), sg 37 37 rfl (by decide), Option.toList, za, zb, zc60, zc62, zc61, zc43]
              rfl
            · skip
              by_cases zc45 : isG V L s 45 = true
              · simp only [u221_0, u221_1, u221_4, u221_7, u221_10, u221_11, u221_12, u221_13, u221_16, u221_19, u221_22, u221_23, u221_24, u221_25, u221_27, u221_30, u221_33, u221_34, u221_36, u221_39, u221_42, u221_43, u221_45, u221_48, u221_51, u221_52, u221_53, u221_54, u221_56, u221_59, u221_62, u221_63, u221_65, u221_68, u221_71, u221_72, u221_73, u221_74, u221_76, u221_79, u221_82, u221_83, u221_85, u221_88, u221_91, u221_92, u221_94, u221_97, u221_100, u221_102, u221_105, u221_106, eq_self, q_nl0, q_nlI, q_nlR, not_false_eq_true, q_nz0, q_nz1, q_zv0, q_zv1, q_tl1, q_tl0, q_wif, q_swc, q_swn, List.cons_append, List.nil_append, if_true, if_false, e10, e01, Bool.false_eq_true, sh_195, wa 20 6385252 (by decide) (by decide), wa 19 28530 (by decide) (by decide), sg 60 60 rfl (by decide), sg 62 62 rfl (by decide), sg 61 61 rfl (by decide), sg 43 43 rfl (by decide), sg 45 45 rfl (by decide), sg 42 42 rfl (by decide), sg 47 47 rfl (by decide), sg 37 37 rfl (by decide), Option.toList, za, zb, zc60, zc62, zc61, zc43, zc45]
                rfl
              · skip
                by_cases zc42 : isG V L s 42 = true
                · simp only [u221_0, u221_1, u221_4, u221_7, u221_10, u221_11, u221_12, u221_13, u221_16, u221_19, u221_22, u221_23, u221_24, u221_25, u221_27, u221_30, u221_33, u221_34, u221_36, u221_39, u221_42, u221_43, u221_45, u221_48, u221_51, u221_52, u221_53, u221_54, u221_56, u221_59, u221_62, u221_63, u221_65, u221_68, u221_71, u221_72, u221_73, u221_74, u221_76, u221_79, u221_82, u221_83, u221_85, u221_88, u221_91, u221_92, u221_94, u221_97, u221_100, u221_102, u221_105, u221_106, eq_self, q_nl0, q_nlI, q_nlR, not_false_eq_true, q_nz0, q_nz1, q_zv0, q_zv1, q_tl1, q_tl0, q_wif, q_swc, q_swn, List.cons_append, List.nil_append, if_true, if_false, e10, e01, Bool.false_eq_true, sh_195, wa 20 6385252 (by decide) (by decide), wa 19 28530 (by decide) (by decide), sg 60 60 rfl (by decide), sg 62 62 rfl (by decide), sg 61 61 rfl (by decide), sg 43 43 rfl (by decide), sg 45 45 rfl (by decide), sg 42 42 rfl (by decide), sg 47 47 rfl (by decide), sg 37 37 rfl (by decide), Option.toList, za, zb, zc60, zc62, zc61, zc43, zc45, zc42]
                  rfl
                · skip
                  by_cases zc47 : isG V L s 47 = true
                  · simp only [u221_0, u221_1, u221_4, u221_7, u221_10, u221_11, u221_12, u221_13, u221_16, u221_19, u221_22, u221_23, u221_24, u221_25, u221_27, u221_30, u221_33, u221_34, u221_36, u221_39, u221_42, u221_43, u221_45, u221_48, u221_51, u221_52, u221_53, u221_54, u221_56, u221_59, u221_62, u221_63, u221_65, u221_68, u221_71, u221_72, u221_73, u221_74, u221_76, u221_79, u221_82, u221_83, u221_85, u221_88, u221_91, u221_92, u221_94, u221_97, u221_100, u221_102, u221_105, u221_106, eq_self, q_nl0, q_nlI, q_nlR, not_false_eq_true, q_nz0, q_nz1, q_zv0, q_zv1, q_tl1, q_tl0, q_wif, q_swc, q_swn, List.cons_append, List.nil_append, if_true, if_false, e10, e01, Bool.false_eq_true, sh_195, wa 20 6385252 (by decide) (by decide), wa 19 28530 (by decide) (by decide), sg 60 60 rfl (by decide), sg 62 62 rfl (by decide), sg 61 61 rfl (by decide), sg 43 43 rfl (by decide), sg 45 45 rfl (by decide), sg 42 42 rfl (by decide), sg 47 47 rfl (by decide), sg 37 37 rfl (by decide), Option.toList, za, zb, zc60, zc62, zc61, zc43, zc45, zc42, zc47]
                    rfl
                  · skip
                    by_cases zc37 : isG V L s 37 = true
                    · simp only [u221_0, u221_1, u221_4, u221_7, u221_10, u221_11, u221_12, u221_13, u221_16, u221_19, u221_22, u221_23, u221_24, u221_25, u221_27, u221_30, u221_33, u221_34, u221_36, u221_39, u221_42, u221_43, u221_45, u221_48, u221_51, u221_52, u221_53, u221_54, u221_56, u221_59, u221_62, u221_63, u221_65, u221_68, u221_71, u221_72, u221_73, u221_74, u221_76, u221_79, u221_82, u221_83, u221_85, u221_88, u221_91, u221_92, u221_94, u221_97, u221_100, u221_102, u221_105, u221_106, eq_self, q_nl0, q_nlI, q_nlR, not_false_eq_true, q_nz0, q_nz1, q_zv0, q_zv1, q_tl1, q_tl0, q_wif, q_swc, q_swn, List.cons_append, List.nil_append, if_true, if_false, e10, e01, Bool.false_eq_true, sh_195, wa 20 6385252 (by decide) (by decide), wa 19 28530 (by decide) (by decide), sg 60 60 rfl (by decide), sg 62 62 rfl (by decide), sg 61 61 rfl (by decide), sg 43 43 rfl (by decide), sg 45 45 rfl (by decide), sg 42 42 rfl (by decide), sg 47 47 rfl (by decide), sg 37 37 rfl (by decide), Option.toList, za, zb, zc60, zc62, zc61, zc43, zc45, zc42, zc47, zc37]
                      rfl
                    · simp only [u221_0, u221_1, u221_4, u221_7, u221_10, u221_11, u221_12, u221_13, u221_16, u221_19, u221_22, u221_23, u221_24, u221_25, u221_27, u221_30, u221_33, u221_34, u221_36, u221_39, u221_42, u221_43, u221_45, u221_48, u221_51, u221_52, u221_53, u221_54, u221_56, u221_59, u221_62, u221_63, u221_65, u221_68, u221_71, u221_72, u221_73, u221_74, u221_76, u221_79, u221_82, u221_83, u221_85, u221_88, u221_91, u221_92, u221_94, u221_97, u221_100, u221_102, u221_105, u221_106, eq_self, q_nl0, q_nlI, q_nlR, not_false_eq_true, q_nz0, q_nz1, q_zv0, q_zv1, q_tl1, q_tl0, q_wif, q_swc, q_swn, List.cons_append, List.nil_append, if_true, if_false, e10, e01, Bool.false_eq_true, sh_195, wa 20 6385252 (by decide) (by decide), wa 19 28530 (by decide) (by decide), sg 60 60 rfl (by decide), sg 62 62 rfl (by decide), sg 61 61 rfl (by decide), sg 43 43 rfl (by decide), sg 45 45 rfl (by decide), sg 42 42 rfl (by decide), sg 47 47 rfl (by decide), sg 37 37 rfl (by decide), Option.toList, za, zb, zc60, zc62, zc61, zc43, zc45, zc42, zc47, zc37]
                      rfl
