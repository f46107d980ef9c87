/-! A UNIT, as the model reads it -/
theorem ad_av {V : Nat → Nat} {L a b : Nat} {S : SF} : adS a b (avS V L S) = avS V L (adS a b S) := by
  unfold adS avS
  show (if S.2.2.1 < 1600 then _ else _) = _
  split <;> rfl
def bg (t : Nat) : Bool := decide (t ≤ 3 ∨ 7 ≤ t)
/-- a word 'not' that may stand here -/
def ntB (V : Nat → Nat) (L s t : Nat) : Bool := bg t && isW V L s 18
theorem b01 (b : Bool) : ((if b = true then (1 : Int32) else 0) = 0) = (b = false) := by
  cases b
  · exact propext ⟨fun _ => rfl, fun _ => rfl⟩
  · exact propext ⟨fun q => absurd q (by decide), fun q => by cases q⟩
theorem k_unit0 {X : XT} {d R L z w t : Nat} {h : HT} {V : Nat → Nat} {S : SF} {P : Nat → Nat × Nat} (H : KF h R L V S z P w) (hz : 1 ≤ z) (ht : (P (z - 1)).1 = t) (ht8 : t ≤ 8) (Q : QT) : wq X (d + 4) 216 0 [some (.ref 195), none, none, none, none, none, none] [] h Q = wq X (d + 4) 216 100 [some (.ref 195), some (.int (if bg t = true then 1 else 0)), some (.int (if ntB V L S.1 t = true then 1 else 0)), some (.int (if isG V L S.1 40 = true then 1 else 0)), some (.int (nI (kuC V L S.1))), some (.int (if S.2.1 = 30 then 1 else 0)), none] [] h Q := by
  obtain ⟨H1, ⟨H2, H2'⟩, H3, ⟨H4, H4', H4''⟩, ⟨H5, H5'⟩, H6, ⟨H7, H7'⟩, H8, H9⟩ := H
  have hp := H1.1.1
  have z1 : nI z - 1 = nI (z - 1) := by
    rw [show (1 : Int32) = nI 1 from rfl, pk_sub hz]
  have c2 : m_in (nI (z - 1)) 90 = true := q_in (by omega) (by decide)
  have c3 : (nI (z - 1)).toNatClampNeg = z - 1 := q_cl (by omega)
  have c4 : m_gI h 224 (z - 1) = nI t := by
    rw [(H8 (z - 1) (by omega)).1, ht]
  have c5 : (3 < nI t) = (3 < t) := nI_ltB (a := 3) (by decide) (by omega)
  have c6 : (nI t < 7) = (t < 7) := nI_ltB (b := 7) (by omega) (by decide)
  have r2 : m_in (nI R) 2 = true := q_in H2 (by decide)
  have r3 : (nI R).toNatClampNeg = R := q_cl (by omega)
  have u60 : (nI S.2.1 = 60) = False := eq_false (fun q => by have := (nI_eq (b := 60) (by omega) (by decide)).mp q; omega)
  have u30 : (nI S.2.1 = 30) = (S.2.1 = 30) := nI_eqB (b := 30) (by omega) (by decide)
  have kw : ∀ Q : QT, wq X (d + 3) 200 0 [some (.ref 195), some (.long 7237492), none] [] h Q = Q (some (.int (if isW V L S.1 18 = true then 1 else 0))) h := fun Q => k_isWord (X := X) (d := d + 3) (Q := Q) (i := 18) H1 (by decide) (by decide)
  have kg : ∀ Q : QT, wq X (d + 3) 217 0 [some (.ref 195), some (.int 40)] [] h Q = Q (some (.int (if isG V L S.1 40 = true then 1 else 0))) h := fun Q => k_isSignH (X := X) (d := d + 2) (Q := Q) (c := 40) H1 (by decide)
  have kh : ∀ Q : QT, wq X (d + 3) 218 0 [some (.ref 195)] [] h Q = Q (some (.int (nI (kuC V L S.1)))) h := fun Q => k_wordHere (X := X) (d := d + 2) (Q := Q) H1
  -- from 57 on
  have tl : ∀ (l1 l2 : Int32), wq X (d + 4) 216 57 [some (.ref 195), some (.int l1), some (.int l2), none, none, none, none] [] h Q = wq X (d + 4) 216 100 [some (.ref 195), some (.int l1), some (.int l2), some (.int (if isG V L S.1 40 = true then 1 else 0)), some (.int (nI (kuC V L S.1))), some (.int (if S.2.1 = 30 then 1 else 0)), none] [] h Q := fun l1 l2 => by
    by_cases y : S.2.1 = 30
    · rw [if_pos y]
      simp only [u216_57, u216_58, u216_60, u216_63, u216_64, u216_65, u216_68, u216_70, u216_71, u216_74, u216_75, u216_78, u216_79, u216_81, u216_84, u216_85, u216_88, u216_90, u216_93, u216_94, u216_97, u216_98, eq_self, q_nl0, q_nlI, q_nlR, not_false_eq_true, q_nz0, q_nz1, q_zv0, q_zv1, q_tl1, q_tl0, q_wif, q_swc, q_swn, List.cons_append, List.nil_append, if_true, if_false, e10, e01, Bool.false_eq_true, sh_195, sh_201, kg, kh, p_195_14 hp, H2', r2, r3, H4, H4', u60, u30, eq_true y, Option.toList]
    · rw [if_neg y]
      simp only [u216_57, u216_58, u216_60, u216_63, u216_64, u216_65, u216_68, u216_70, u216_71, u216_74, u216_75, u216_78, u216_79, u216_81, u216_84, u216_85, u216_88, u216_90, u216_93, u216_94, u216_97, u216_98, eq_self, q_nl0, q_nlI, q_nlR, not_false_eq_true, q_nz0, q_nz1, q_zv0, q_zv1, q_tl1, q_tl0, q_wif, q_swc, q_swn, List.cons_append, List.nil_append, if_true, if_false, e10, e01, Bool.false_eq_true, sh_195, sh_201, kg, kh, p_195_14 hp, H2', r2, r3, H4, H4', u60, u30, eq_false y, Option.toList]
  -- from 37 on
  have tm : ∀ (b : Bool), wq X (d + 4) 216 37 [some (.ref 195), some (.int (if b = true then 1 else 0)), none, none, none, none, none] [] h Q = wq X (d + 4) 216 57 [some (.ref 195), some (.int (if b = true then 1 else 0)), some (.int (if (b && isW V L S.1 18) = true then 1 else 0)), none, none, none, none] [] h Q := fun b => by
    cases b with
    | false => simp only [u216_37, u216_38, u216_41, u216_42, u216_45, u216_48, u216_51, u216_52, u216_55, u216_56, eq_self, q_nl0, q_nlI, q_nlR, not_false_eq_true, q_nz0, q_nz1, q_zv0, q_zv1, q_tl1, q_tl0, q_wif, q_swc, q_swn, List.cons_append, List.nil_append, if_true, if_false, e10, e01, Bool.false_eq_true, Bool.false_and]
    | true =>
      by_cases y : isW V L S.1 18 = true
      · simp only [u216_37, u216_38, u216_41, u216_42, u216_45, u216_48, u216_51, u216_52, u216_55, u216_56, eq_self, q_nl0, q_nlI, q_nlR, not_false_eq_true, q_nz0, q_nz1, q_zv0, q_zv1, q_tl1, q_tl0, q_wif, q_swc, q_swn, List.cons_append, List.nil_append, if_true, if_false, e10, e01, Bool.false_eq_true, sh_195, kw, y, Bool.true_and, Option.toList]
      · have y' : isW V L S.1 18 = false := by simpa using y
        simp only [u216_37, u216_38, u216_41, u216_42, u216_45, u216_48, u216_51, u216_52, u216_55, u216_56, eq_self, q_nl0, q_nlI, q_nlR, not_false_eq_true, q_nz0, q_nz1, q_zv0, q_zv1, q_tl1, q_tl0, q_wif, q_swc, q_swn, List.cons_append, List.nil_append, if_true, if_false, e10, e01, Bool.false_eq_true, sh_195, kw, y', Bool.true_and, Option.toList]
  rw [← tl]
  unfold ntB
  rw [← tm]
  by_cases y1 : 3 < t
  · by_cases y2 : t < 7
    · rw [if_neg (show ¬ bg t = true from fun q => by have := of_decide_eq_true q; omega)]
      simp only [u216_0, u216_1, u216_4, u216_5, u216_8, u216_9, u216_10, u216_11, u216_12, u216_15, u216_16, u216_19, u216_20, u216_23, u216_24, u216_25, u216_26, u216_28, u216_31, u216_32, u216_35, u216_36, eq_self, q_nl0, q_nlI, q_nlR, not_false_eq_true, q_nz0, q_nz1, q_zv0, q_zv1, q_tl1, q_tl0, q_wif, q_swc, q_swn, List.cons_append, List.nil_append, if_true, if_false, e10, e01, Bool.false_eq_true, sh_195, sh_224, p_195_37 hp, H7, z1, c2, c3, c4, c5, c6, eq_true y1, eq_true y2]
    · rw [if_pos (show bg t = true from decide_eq_true (by omega))]
      simp only [u216_0, u216_1, u216_4, u216_5, u216_8, u216_9, u216_10, u216_11, u216_12, u216_15, u216_16, u216_19, u216_20, u216_23, u216_24, u216_25, u216_26, u216_28, u216_31, u216_32, u216_35, u216_36, eq_self, q_nl0, q_nlI, q_nlR, not_false_eq_true, q_nz0, q_nz1, q_zv0, q_zv1, q_tl1, q_tl0, q_wif, q_swc, q_swn, List.cons_append, List.nil_append, if_true, if_false, e10, e01, Bool.false_eq_true, sh_195, sh_224, p_195_37 hp, H7, z1, c2, c3, c4, c5, c6, eq_true y1, eq_false y2]
  · rw [if_pos (show bg t = true from decide_eq_true (by omega))]
    simp only [u216_0, u216_1, u216_4, u216_5, u216_8, u216_9, u216_10, u216_11, u216_12, u216_15, u216_16, u216_19, u216_20, u216_23, u216_24, u216_25, u216_26, u216_28, u216_31, u216_32, u216_35, u216_36, eq_self, q_nl0, q_nlI, q_nlR, not_false_eq_true, q_nz0, q_nz1, q_zv0, q_zv1, q_tl1, q_tl0, q_wif, q_swc, q_swn, List.cons_append, List.nil_append, if_true, if_false, e10, e01, Bool.false_eq_true, sh_195, sh_224, p_195_37 hp, H7, z1, c2, c3, c4, c5, eq_false y1]
theorem k_good {X : XT} {d : Nat} {h : HT} {Q : QT} (h4 : m_gI h 195 4 = 0 ∧ m_gI h 195 5 = -1) : wq X d 197 0 [some (.ref 195)] [] h Q = Q (some (.int 1)) h := by
  have nb1 : q_nb .boolean 1 = true := by decide
  simp only [u197_0, u197_1, u197_4, u197_7, u197_8, u197_11, u197_12, eq_self, q_nl0, q_nlI, q_nlR, not_false_eq_true, q_nz0, q_nz1, q_zv0, q_zv1, q_tl1, q_tl0, q_wif, q_swc, q_swn, List.cons_append, List.nil_append, if_true, if_false, e10, e01, Bool.false_eq_true, sh_195, h4, nb1]
theorem k_ngood {X : XT} {d : Nat} {h : HT} {Q : QT} {e : Nat × Nat} (H : KBd h e) : wq X d 197 0 [some (.ref 195)] [] h Q = Q (some (.int 0)) h := by
  have nb0 : q_nb .boolean 0 = true := by decide
  have n0 : (nI e.1 = 0) = False := eq_false (fun q => by have := (nI_eq (a := e.1) (b := 0) (by have := H.2.1.2; omega) (by decide)).mp q; have := H.2.1.1; omega)
  simp only [u197_0, u197_1, u197_4, u197_7, u197_8, u197_11, u197_12, eq_self, q_nl0, q_nlI, q_nlR, not_false_eq_true, q_nz0, q_nz1, q_zv0, q_zv1, q_tl1, q_tl0, q_wif, q_swc, q_swn, List.cons_append, List.nil_append, if_true, if_false, e10, e01, Bool.false_eq_true, sh_195, H.1, n0, nb0]
/-- what can't stand here, by the model -/
def ubM (V : Nat → Nat) (L w t : Nat) (S : SF) : Bool := if ntB V L S.1 t = true then decide (w = 7) else unB V L w S
theorem k_unit1 {X : XT} {d R L z w t : Nat} {h : HT} {V : Nat → Nat} {S : SF} {P : Nat → Nat × Nat} (H : KF h R L V S z P w) (hw : w ≤ 7) (l1 : Int32) (Q : QT) : wq X (d + 4) 216 100 [some (.ref 195), some (.int l1), some (.int (if ntB V L S.1 t = true then 1 else 0)), some (.int (if isG V L S.1 40 = true then 1 else 0)), some (.int (nI (kuC V L S.1))), some (.int (if S.2.1 = 30 then 1 else 0)), none] [] h Q = wq X (d + 4) 216 (if ubM V L w t S = true then 143 else 147) [some (.ref 195), some (.int l1), some (.int (if ntB V L S.1 t = true then 1 else 0)), some (.int (if isG V L S.1 40 = true then 1 else 0)), some (.int (nI (kuC V L S.1))), some (.int (if S.2.1 = 30 then 1 else 0)), none] [] h Q := by
  obtain ⟨H1, ⟨H2, H2'⟩, H3, ⟨H4, H4', H4''⟩, ⟨H5, H5'⟩, H6, ⟨H7, H7'⟩, H8, H9⟩ := H
  have w7 : (nI w = 7) = (w = 7) := nI_eqB (b := 7) (by omega) (by decide)
  have m4 : (nI (mK V L S.1) = 4) = (tK V L S.1 = 2) := by
    rw [← mK_n]
    exact nI_eqB (b := 4) (by have := mK_5 (V := V) (L := L) (s := S.1); omega) (by decide)
  have k0 : (nI (kuC V L S.1) = 0) = (kuC V L S.1 = 0) := nI_eqB (b := 0) (by
    rcases ku_ok (V := V) (L := L) (s := S.1) with q | q
    · omega
    · have q1 := q.1
      simp only [fOps, List.mem_cons, List.not_mem_nil, or_false] at q1
      omega) (by decide)
  unfold ubM
  by_cases zn : ntB V L S.1 t = true
  · rw [if_pos zn, if_pos zn]
    by_cases y : w = 7
    · rw [if_pos (show decide (w = 7) = true from decide_eq_true y)]
      simp only [u216_100, u216_101, u216_104, u216_106, u216_109, u216_110, u216_113, u216_114, u216_117, u216_118, u216_121, u216_123, u216_126, u216_127, u216_130, u216_131, u216_134, u216_135, u216_138, u216_140, eq_self, q_nl0, q_nlI, q_nlR, not_false_eq_true, q_nz0, q_nz1, q_zv0, q_zv1, q_tl1, q_tl0, q_wif, q_swc, q_swn, List.cons_append, List.nil_append, if_true, if_false, e10, e01, Bool.false_eq_true, sh_195, H9, w7, eq_true y]
    · rw [if_neg (show ¬ decide (w = 7) = true from fun q => y (of_decide_eq_true q))]
      simp only [u216_100, u216_101, u216_104, u216_106, u216_109, u216_110, u216_113, u216_114, u216_117, u216_118, u216_121, u216_123, u216_126, u216_127, u216_130, u216_131, u216_134, u216_135, u216_138, u216_140, eq_self, q_nl0, q_nlI, q_nlR, not_false_eq_true, q_nz0, q_nz1, q_zv0, q_zv1, q_tl1, q_tl0, q_wif, q_swc, q_swn, List.cons_append, List.nil_append, if_true, if_false, e10, e01, Bool.false_eq_true, sh_195, H9, w7, eq_false y]
  · rw [if_neg zn, if_neg zn]
    have on : unB V L w S = decide ((isG V L S.1 40 = false ∧ kuC V L S.1 = 0 ∧ tK V L S.1 ≠ 2) ∨ (isG V L S.1 40 = true ∧ 6 < w) ∨ 30 ≤ S.2.1) := rfl
    rw [on]
    by_cases yu : S.2.1 = 30
    · rw [if_pos (show decide _ = true from decide_eq_true (Or.inr (Or.inr (by omega)))), if_pos yu]
      by_cases yk : kuC V L S.1 = 0
      · by_cases y2 : tK V L S.1 = 2
        · simp only [u216_100, u216_101, u216_104, u216_106, u216_109, u216_110, u216_113, u216_114, u216_117, u216_118, u216_121, u216_123, eq_self, q_nl0, q_nlI, q_nlR, not_false_eq_true, q_nz0, q_nz1, q_zv0, q_zv1, q_tl1, q_tl0, q_wif, q_swc, q_swn, List.cons_append, List.nil_append, if_true, if_false, e10, e01, Bool.false_eq_true, sh_195, k0, eq_true yk, H1.2.2.2.2.1, m4, eq_true y2]
        · by_cases yb : isG V L S.1 40 = true
          · simp only [u216_100, u216_101, u216_104, u216_106, u216_109, u216_110, u216_113, u216_114, u216_117, u216_118, u216_121, u216_123, eq_self, q_nl0, q_nlI, q_nlR, not_false_eq_true, q_nz0, q_nz1, q_zv0, q_zv1, q_tl1, q_tl0, q_wif, q_swc, q_swn, List.cons_append, List.nil_append, if_true, if_false, e10, e01, Bool.false_eq_true, sh_195, k0, eq_true yk, H1.2.2.2.2.1, m4, eq_false y2, yb]
          · simp only [u216_100, u216_101, u216_104, u216_106, u216_109, u216_110, u216_113, u216_114, u216_117, u216_118, u216_121, u216_123, eq_self, q_nl0, q_nlI, q_nlR, not_false_eq_true, q_nz0, q_nz1, q_zv0, q_zv1, q_tl1, q_tl0, q_wif, q_swc, q_swn, List.cons_append, List.nil_append, if_true, if_false, e10, e01, Bool.false_eq_true, sh_195, k0, eq_true yk, H1.2.2.2.2.1, m4, eq_false y2, yb]
      · simp only [u216_100, u216_101, u216_104, u216_106, u216_109, u216_110, u216_113, u216_114, u216_117, u216_118, u216_121, u216_123, eq_self, q_nl0, q_nlI, q_nlR, not_false_eq_true, q_nz0, q_nz1, q_zv0, q_zv1, q_tl1, q_tl0, q_wif, q_swc, q_swn, List.cons_append, List.nil_append, if_true, if_false, e10, e01, Bool.false_eq_true, sh_195, k0, eq_false yk]
    · rw [if_neg yu]
      by_cases yb : isG V L S.1 40 = true
      · by_cases y7 : w = 7
        · rw [if_pos (show decide _ = true from decide_eq_true (Or.inr (Or.inl ⟨yb, by omega⟩)))]
          by_cases yk : kuC V L S.1 = 0
          · by_cases y2 : tK V L S.1 = 2
            · simp only [u216_100, u216_101, u216_104, u216_106, u216_109, u216_110, u216_113, u216_114, u216_117, u216_118, u216_121, u216_123, u216_126, u216_127, u216_130, u216_131, u216_134, u216_135, u216_138, u216_140, eq_self, q_nl0, q_nlI, q_nlR, not_false_eq_true, q_nz0, q_nz1, q_zv0, q_zv1, q_tl1, q_tl0, q_wif, q_swc, q_swn, List.cons_append, List.nil_append, if_true, if_false, e10, e01, Bool.false_eq_true, sh_195, k0, eq_true yk, H1.2.2.2.2.1, m4, eq_true y2, yb, H9, w7, eq_true y7]
            · simp only [u216_100, u216_101, u216_104, u216_106, u216_109, u216_110, u216_113, u216_114, u216_117, u216_118, u216_121, u216_123, u216_126, u216_127, u216_130, u216_131, u216_134, u216_135, u216_138, u216_140, eq_self, q_nl0, q_nlI, q_nlR, not_false_eq_true, q_nz0, q_nz1, q_zv0, q_zv1, q_tl1, q_tl0, q_wif, q_swc, q_swn, List.cons_append, List.nil_append, if_true, if_false, e10, e01, Bool.false_eq_true, sh_195, k0, eq_true yk, H1.2.2.2.2.1, m4, eq_false y2, yb, H9, w7, eq_true y7]
          · simp only [u216_100, u216_101, u216_104, u216_106, u216_109, u216_110, u216_113, u216_114, u216_117, u216_118, u216_121, u216_123, u216_126, u216_127, u216_130, u216_131, u216_134, u216_135, u216_138, u216_140, eq_self, q_nl0, q_nlI, q_nlR, not_false_eq_true, q_nz0, q_nz1, q_zv0, q_zv1, q_tl1, q_tl0, q_wif, q_swc, q_swn, List.cons_append, List.nil_append, if_true, if_false, e10, e01, Bool.false_eq_true, sh_195, k0, eq_false yk, yb, H9, w7, eq_true y7]
        · rw [if_neg (show ¬ decide _ = true from fun q => by
            rcases of_decide_eq_true q with q | q | q
            · rw [yb] at q
              cases q.1
            · omega
            · omega)]
          by_cases yk : kuC V L S.1 = 0
          · by_cases y2 : tK V L S.1 = 2
            · simp only [u216_100, u216_101, u216_104, u216_106, u216_109, u216_110, u216_113, u216_114, u216_117, u216_118, u216_121, u216_123, u216_126, u216_127, u216_130, u216_131, u216_134, u216_135, u216_138, u216_140, eq_self, q_nl0, q_nlI, q_nlR, not_false_eq_true, q_nz0, q_nz1, q_zv0, q_zv1, q_tl1, q_tl0, q_wif, q_swc, q_swn, List.cons_append, List.nil_append, if_true, if_false, e10, e01, Bool.false_eq_true, sh_195, k0, eq_true yk, H1.2.2.2.2.1, m4, eq_true y2, yb, H9, w7, eq_false y7]
            · simp only [u216_100, u216_101, u216_104, u216_106, u216_109, u216_110, u216_113, u216_114, u216_117, u216_118, u216_121, u216_123, u216_126, u216_127, u216_130, u216_131, u216_134, u216_135, u216_138, u216_140, eq_self, q_nl0, q_nlI, q_nlR, not_false_eq_true, q_nz0, q_nz1, q_zv0, q_zv1, q_tl1, q_tl0, q_wif, q_swc, q_swn, List.cons_append, List.nil_append, if_true, if_false, e10, e01, Bool.false_eq_true, sh_195, k0, eq_true yk, H1.2.2.2.2.1, m4, eq_false y2, yb, H9, w7, eq_false y7]
          · simp only [u216_100, u216_101, u216_104, u216_106, u216_109, u216_110, u216_113, u216_114, u216_117, u216_118, u216_121, u216_123, u216_126, u216_127, u216_130, u216_131, u216_134, u216_135, u216_138, u216_140, eq_self, q_nl0, q_nlI, q_nlR, not_false_eq_true, q_nz0, q_nz1, q_zv0, q_zv1, q_tl1, q_tl0, q_wif, q_swc, q_swn, List.cons_append, List.nil_append, if_true, if_false, e10, e01, Bool.false_eq_true, sh_195, k0, eq_false yk, yb, H9, w7, eq_false y7]
      · have yb' : isG V L S.1 40 = false := by simpa using yb
        by_cases yk : kuC V L S.1 = 0
        · by_cases y2 : tK V L S.1 = 2
          · rw [if_neg (show ¬ decide _ = true from fun q => by
              rcases of_decide_eq_true q with q | q | q
              · exact q.2.2 y2
              · exact yb q.1
              · omega)]
            simp only [u216_100, u216_101, u216_104, u216_106, u216_109, u216_110, u216_113, u216_114, u216_117, u216_118, u216_121, u216_123, u216_126, u216_127, u216_130, u216_131, u216_134, u216_135, u216_138, u216_140, eq_self, q_nl0, q_nlI, q_nlR, not_false_eq_true, q_nz0, q_nz1, q_zv0, q_zv1, q_tl1, q_tl0, q_wif, q_swc, q_swn, List.cons_append, List.nil_append, if_true, if_false, e10, e01, Bool.false_eq_true, sh_195, k0, eq_true yk, H1.2.2.2.2.1, m4, eq_true y2, yb']
          · rw [if_pos (show decide _ = true from decide_eq_true (Or.inl ⟨yb', yk, y2⟩))]
            simp only [u216_100, u216_101, u216_104, u216_106, u216_109, u216_110, u216_113, u216_114, u216_117, u216_118, u216_121, u216_123, u216_126, u216_127, u216_130, u216_131, u216_134, u216_135, u216_138, u216_140, eq_self, q_nl0, q_nlI, q_nlR, not_false_eq_true, q_nz0, q_nz1, q_zv0, q_zv1, q_tl1, q_tl0, q_wif, q_swc, q_swn, List.cons_append, List.nil_append, if_true, if_false, e10, e01, Bool.false_eq_true, sh_195, k0, eq_true yk, H1.2.2.2.2.1, m4, eq_false y2, yb']
        · rw [if_neg (show ¬ decide _ = true from fun q => by
            rcases of_decide_eq_true q with q | q | q
            · exact yk q.2.1
            · exact yb q.1
            · omega)]
          simp only [u216_100, u216_101, u216_104, u216_106, u216_109, u216_110, u216_113, u216_114, u216_117, u216_118, u216_121, u216_123, u216_126, u216_127, u216_130, u216_131, u216_134, u216_135, u216_138, u216_140, eq_self, q_nl0, q_nlI, q_nlR, not_false_eq_true, q_nz0, q_nz1, q_zv0, q_zv1, q_tl1, q_tl0, q_wif, q_swc, q_swn, List.cons_append, List.nil_append, if_true, if_false, e10, e01, Bool.false_eq_true, sh_195, k0, eq_false yk, yb']
theorem sI_id {h : HT} {c k : Nat} {v : Int32} (e : m_gI h c k = v) : m_sI h c k v = h := by
  subst e
  apply hx
  · intro x j
    show (if x = c ∧ j = k then h.1 c k else h.1 x j) = h.1 x j
    by_cases y : x = c ∧ j = k
    · rw [if_pos y, y.1, y.2]
    · rw [if_neg y]
  · rfl
theorem k_uBad {X : XT} {d R L z w t : Nat} {h : HT} {V : Nat → Nat} {S : SF} {P : Nat → Nat × Nat} (H : KF h R L V S z P w) (hz : 1 ≤ z) (ht : (P (z - 1)).1 = t) (ht8 : t ≤ 8) (hw : w ≤ 7) (hb : ubM V L w t S = true) : ∃ g, FrE R h g ∧ KBd g (kdO V L S.1 2, S.1) ∧ ∀ Q : QT, wq X (d + 4) 216 0 [some (.ref 195), none, none, none, none, none, none] [] h Q = Q (some (.int 1)) g := by
  obtain ⟨b1, b2⟩ := KBd_misp (R := R) (L := L) (s := S.1) (h := h) (V := V) H.1
  have nb1 : q_nb .boolean 1 = true := by decide
  refine ⟨_, b1, b2, fun Q => ?_⟩
  rw [k_unit0 (d := d) H hz ht ht8, k_unit1 (d := d) H hw, if_pos hb]
  simp only [u216_143, u216_144, u216_147, u216_148, u216_151, u216_154, u216_155, eq_self, q_nl0, q_nlI, q_nlR, not_false_eq_true, q_nz0, q_nz1, q_zv0, q_zv1, q_tl1, q_tl0, q_wif, q_swc, q_swn, List.cons_append, List.nil_append, if_true, if_false, e10, e01, Bool.false_eq_true, sh_195, k_misp (d := d + 2) H.1 H.2.2.1, k_ngood b2, nb1, Option.toList]
theorem k_uNot {X : XT} {d R L z w t : Nat} {h : HT} {V : Nat → Nat} {S : SF} {P : Nat → Nat × Nat} (H : KF h R L V S z P w) (hz : 1 ≤ z) (hz9 : z < 90) (ht : (P (z - 1)).1 = t) (ht8 : t ≤ 8) (hw : w < 7) (hn : ntB V L S.1 t = true) : ∃ g, FrE R h g ∧ KF g R L V (avS V L S) (z + 1) (pu P z 3 126) (w + 1) ∧ ∀ Q : QT, wq X (d + 4) 216 0 [some (.ref 195), none, none, none, none, none, none] [] h Q = Q (some (.int 1)) g := by
  have nb1 : q_nb .boolean 1 = true := by decide
  have hp := H.1.1.1
  obtain ⟨g1, a1, a2, a3⟩ := KF_av (X := X) (d := d + 1) H
  obtain ⟨g2, b1, b2, b3⟩ := KF_push (X := X) (d := d + 3) (a := 3) (b := 126) a2 hz9
  obtain ⟨c1, c2⟩ := KF_w (w' := w + 1) b2
  have r2 : m_in (nI R) 2 = true := q_in H.2.1.1 (by decide)
  have r3 : (nI R).toNatClampNeg = R := q_cl (by have := H.2.1.1; omega)
  have nb : ubM V L w t S = false := by
    unfold ubM
    rw [if_pos hn]
    exact decide_eq_false (by omega)
  have i1 : m_sI h 201 R (nI S.2.1) = h := sI_id H.2.2.2.1.1
  have i2 : m_sI h 195 45 (nI S.2.1) = h := sI_id H.2.2.2.1.2.1
  refine ⟨_, FrE_tr a1 (FrE_tr b1 c1), c2, fun Q => ?_⟩
  rw [k_unit0 (d := d) H hz ht ht8, k_unit1 (d := d) H (by omega), if_neg (by rw [nb]; decide), if_pos hn]
  -- the number that nobody wants
  have tl : ∀ (l3 l4 l5 l6 : Option Value) (Q : QT), wq X (d + 4) 216 210 [some (.ref 195), some (.int (if bg t = true then 1 else 0)), some (.int 1), l3, l4, l5, l6] [] h Q = Q (some (.int 1)) (m_sI g2 195 43 (nI (w + 1))) := fun l3 l4 l5 l6 Q => by
    simp only [u216_210, u216_211, eq_self, q_nl0, q_nlI, q_nlR, not_false_eq_true, q_nz0, q_nz1, q_zv0, q_zv1, q_tl1, q_tl0, q_wif, q_swc, q_swn, List.cons_append, List.nil_append, if_true, if_false, e10, e01, Bool.false_eq_true, sh_195]
    refine (a3 _).trans ?_
    simp only [u216_214, u216_215, u216_218, u216_219, u216_222, u216_223, u216_224, u216_227, u216_228, u216_231, u216_233, u216_235, eq_self, q_nl0, q_nlI, q_nlR, not_false_eq_true, q_nz0, q_nz1, q_zv0, q_zv1, q_tl1, q_tl0, q_wif, q_swc, q_swn, List.cons_append, List.nil_append, if_true, if_false, e10, e01, Bool.false_eq_true, sh_195]
    refine (b3 _).trans ?_
    simp only [u216_238, u216_239, u216_240, u216_243, u216_244, u216_245, u216_248, u216_249, eq_self, q_nl0, q_nlI, q_nlR, not_false_eq_true, q_nz0, q_nz1, q_zv0, q_zv1, q_tl1, q_tl0, q_wif, q_swc, q_swn, List.cons_append, List.nil_append, if_true, if_false, e10, e01, Bool.false_eq_true, sh_195, b2.2.2.2.2.2.2.2.2, nI_1, nb1]
  by_cases yk : nI (kuC V L S.1) = 0
  · simp only [u216_147, u216_148, u216_151, u216_154, u216_155, u216_156, u216_157, u216_160, u216_161, u216_164, u216_165, u216_166, u216_167, u216_170, u216_171, u216_174, u216_175, u216_176, u216_177, u216_178, u216_179, u216_182, u216_183, u216_186, u216_187, u216_190, u216_191, u216_192, u216_195, u216_197, u216_200, u216_201, u216_204, u216_207, u216_208, eq_self, q_nl0, q_nlI, q_nlR, not_false_eq_true, q_nz0, q_nz1, q_zv0, q_zv1, q_tl1, q_tl0, q_wif, q_swc, q_swn, List.cons_append, List.nil_append, if_true, if_false, e10, e01, Bool.false_eq_true, sh_195, sh_201, k_good H.2.2.1, p_195_14 hp, H.2.1.2, r2, r3, H.2.2.2.1.1, H.2.2.2.1.2.1, Int32.add_zero, i1, i2, yk, Option.toList]
    exact tl _ _ _ _ Q
  · simp only [u216_147, u216_148, u216_151, u216_154, u216_155, u216_156, u216_157, u216_160, u216_161, u216_164, u216_165, u216_166, u216_167, u216_170, u216_171, u216_174, u216_175, u216_176, u216_177, u216_178, u216_179, u216_182, u216_183, u216_186, u216_187, u216_190, u216_191, u216_192, u216_195, u216_197, u216_200, u216_201, u216_204, u216_207, u216_208, eq_self, q_nl0, q_nlI, q_nlR, not_false_eq_true, q_nz0, q_nz1, q_zv0, q_zv1, q_tl1, q_tl0, q_wif, q_swc, q_swn, List.cons_append, List.nil_append, if_true, if_false, e10, e01, Bool.false_eq_true, sh_195, sh_201, k_good H.2.2.1, p_195_14 hp, H.2.1.2, r2, r3, H.2.2.2.1.1, H.2.2.2.1.2.1, Int32.add_zero, i1, i2, eq_false yk, Option.toList]
    exact tl _ _ _ _ Q
theorem k_uBr {X : XT} {d R L z w t : Nat} {h : HT} {V : Nat → Nat} {S : SF} {P : Nat → Nat × Nat} (H : KF h R L V S z P w) (hz : 1 ≤ z) (hz9 : z < 90) (ht : (P (z - 1)).1 = t) (ht8 : t ≤ 8) (hw : w ≤ 7) (hn : ntB V L S.1 t = false) (hb : unB V L w S = false) (ho : isG V L S.1 40 = true) : ∃ g, FrE R h g ∧ KF g R L V (avS V L (upU S)) (z + 1) (pu P z 7 126) (w + 1) ∧ ∀ Q : QT, wq X (d + 4) 216 0 [some (.ref 195), none, none, none, none, none, none] [] h Q = Q (some (.int 1)) g := by
  have nb1 : q_nb .boolean 1 = true := by decide
  have hp := H.1.1.1
  have hu : S.2.1 < 30 := Nat.lt_of_not_le (fun q => by
    have := of_decide_eq_false hb
    exact this (Or.inr (Or.inr q)))
  obtain ⟨u1, u2⟩ := KF_up H hu
  obtain ⟨g1, a1, a2, a3⟩ := KF_av (X := X) (d := d + 1) u2
  obtain ⟨g2, b1, b2, b3⟩ := KF_push (X := X) (d := d + 3) (a := 7) (b := 126) a2 hz9
  obtain ⟨c1, c2⟩ := KF_w (w' := w + 1) b2
  have r2 : m_in (nI R) 2 = true := q_in H.2.1.1 (by decide)
  have r3 : (nI R).toNatClampNeg = R := q_cl (by have := H.2.1.1; omega)
  have nb : ubM V L w t S = false := by
    unfold ubM
    rw [if_neg (by rw [hn]; decide)]
    exact hb
  have nb' : ¬ ubM V L w t S = true := by rw [nb]; decide
  have hn' : ¬ ntB V L S.1 t = true := by rw [hn]; decide
  have i1 : m_gI (m_sI h 201 R (nI (S.2.1 + 1))) 195 45 = nI S.2.1 := by
    rw [gI_sI, if_neg (by omega), H.2.2.2.1.2.1]
  refine ⟨_, FrE_tr u1 (FrE_tr a1 (FrE_tr b1 c1)), c2, fun Q => ?_⟩
  rw [k_unit0 (d := d) H hz ht ht8, k_unit1 (d := d) H hw, if_neg nb', if_neg hn', if_pos ho]
  have tl : ∀ (l4 l5 l6 : Option Value) (Q : QT), wq X (d + 4) 216 210 [some (.ref 195), some (.int (if bg t = true then 1 else 0)), some (.int 0), some (.int 1), l4, l5, l6] [] (m_sI (m_sI h 201 R (nI (S.2.1 + 1))) 195 45 (nI (S.2.1 + 1))) Q = Q (some (.int 1)) (m_sI g2 195 43 (nI (w + 1))) := fun l4 l5 l6 Q => by
    simp only [u216_210, u216_211, eq_self, q_nl0, q_nlI, q_nlR, not_false_eq_true, q_nz0, q_nz1, q_zv0, q_zv1, q_tl1, q_tl0, q_wif, q_swc, q_swn, List.cons_append, List.nil_append, if_true, if_false, e10, e01, Bool.false_eq_true, sh_195]
    refine (a3 _).trans ?_
    simp only [u216_214, u216_215, u216_218, u216_219, u216_222, u216_223, u216_224, u216_227, u216_228, u216_231, u216_233, u216_235, eq_self, q_nl0, q_nlI, q_nlR, not_false_eq_true, q_nz0, q_nz1, q_zv0, q_zv1, q_tl1, q_tl0, q_wif, q_swc, q_swn, List.cons_append, List.nil_append, if_true, if_false, e10, e01, Bool.false_eq_true, sh_195]
    refine (b3 _).trans ?_
    simp only [u216_238, u216_239, u216_240, u216_243, u216_244, u216_245, u216_248, u216_249, eq_self, q_nl0, q_nlI, q_nlR, not_false_eq_true, q_nz0, q_nz1, q_zv0, q_zv1, q_tl1, q_tl0, q_wif, q_swc, q_swn, List.cons_append, List.nil_append, if_true, if_false, e10, e01, Bool.false_eq_true, sh_195, b2.2.2.2.2.2.2.2.2, nI_1, nb1]
  by_cases yk : nI (kuC V L S.1) = 0
  · simp only [u216_147, u216_148, u216_151, u216_154, u216_155, u216_156, u216_157, u216_160, u216_161, u216_164, u216_165, u216_166, u216_167, u216_170, u216_171, u216_174, u216_175, u216_176, u216_177, u216_178, u216_179, u216_182, u216_183, u216_186, u216_187, u216_190, u216_191, u216_192, u216_195, u216_197, u216_200, u216_201, u216_204, u216_207, u216_208, eq_self, q_nl0, q_nlI, q_nlR, not_false_eq_true, q_nz0, q_nz1, q_zv0, q_zv1, q_tl1, q_tl0, q_wif, q_swc, q_swn, List.cons_append, List.nil_append, if_true, if_false, e10, e01, Bool.false_eq_true, sh_195, sh_201, k_good H.2.2.1, p_195_14 hp, H.2.1.2, r2, r3, H.2.2.2.1.1, i1, nI_1, yk, Option.toList]
    exact tl _ _ _ Q
  · simp only [u216_147, u216_148, u216_151, u216_154, u216_155, u216_156, u216_157, u216_160, u216_161, u216_164, u216_165, u216_166, u216_167, u216_170, u216_171, u216_174, u216_175, u216_176, u216_177, u216_178, u216_179, u216_182, u216_183, u216_186, u216_187, u216_190, u216_191, u216_192, u216_195, u216_197, u216_200, u216_201, u216_204, u216_207, u216_208, eq_self, q_nl0, q_nlI, q_nlR, not_false_eq_true, q_nz0, q_nz1, q_zv0, q_zv1, q_tl1, q_tl0, q_wif, q_swc, q_swn, List.cons_append, List.nil_append, if_true, if_false, e10, e01, Bool.false_eq_true, sh_195, sh_201, k_good H.2.2.1, p_195_14 hp, H.2.1.2, r2, r3, H.2.2.2.1.1, i1, nI_1, eq_false yk, Option.toList]
    exact tl _ _ _ Q
theorem k_uLeaf {X : XT} {d R L z w t : Nat} {h : HT} {V : Nat → Nat} {S : SF} {P : Nat → Nat × Nat} (H : KF h R L V S z P w) (hz : 1 ≤ z) (ht : (P (z - 1)).1 = t) (ht8 : t ≤ 8) (hw : w ≤ 7) (hc : S.2.2.1 < 560) (hn : ntB V L S.1 t = false) (hb : unB V L w S = false) (ho : isG V L S.1 40 = false) : ∃ g, FrE R h g ∧ KF g R L V (unS V L S) z P w ∧ ∀ Q : QT, wq X (d + 4) 216 0 [some (.ref 195), none, none, none, none, none, none] [] h Q = Q (some (.int 0)) g := by
  have nb0 : q_nb .boolean 0 = true := by decide
  have hp := H.1.1.1
  have hb' := of_decide_eq_false hb
  have hu : S.2.1 < 30 := Nat.lt_of_not_le (fun q => hb' (Or.inr (Or.inr q)))
  obtain ⟨u1, u2⟩ := KF_up H hu
  obtain ⟨g1, a1, a2, a3⟩ := KF_av (X := X) (d := d + 1) u2
  have r2 : m_in (nI R) 2 = true := q_in H.2.1.1 (by decide)
  have r3 : (nI R).toNatClampNeg = R := q_cl (by have := H.2.1.1; omega)
  have nb : ubM V L w t S = false := by
    unfold ubM
    rw [if_neg (by rw [hn]; decide)]
    exact hb
  have nb' : ¬ ubM V L w t S = true := by rw [nb]; decide
  have hn' : ¬ ntB V L S.1 t = true := by rw [hn]; decide
  have ho' : ¬ isG V L S.1 40 = true := by rw [ho]; decide
  have i1 : m_gI (m_sI h 201 R (nI (S.2.1 + 1))) 195 45 = nI S.2.1 := by
    rw [gI_sI, if_neg (by omega), H.2.2.2.1.2.1]
  have i2 : m_gI (m_sI (m_sI h 201 R (nI (S.2.1 + 1))) 195 45 (nI (S.2.1 + 1))) 195 9 = m_gI h 195 9 := by
    rw [gI_sI, if_neg (by omega), gI_sI, if_neg (by omega)]
  have k0 : (nI (kuC V L S.1) = 0) = (kuC V L S.1 = 0) := nI_eqB (b := 0) (by
    rcases ku_ok (V := V) (L := L) (s := S.1) with q | q
    · omega
    · have q1 := q.1
      simp only [fOps, List.mem_cons, List.not_mem_nil, or_false] at q1
      omega) (by decide)
  by_cases yk : kuC V L S.1 = 0
  · have y2 : tK V L S.1 = 2 := Classical.byContradiction (fun q => hb' (Or.inl ⟨ho, yk, q⟩))
    obtain ⟨g2, b1, b2, b3⟩ := KF_emit (X := X) (d := d + 3) (a := 110) (b := dN V S.1 (nDg V L S.1)) a2 hc
    refine ⟨g2, FrE_tr u1 (FrE_tr a1 b1), ?_, fun Q => ?_⟩
    · unfold unS
      rw [if_pos yk, if_pos yk, ← ad_av]
      exact b2
    · rw [k_unit0 (d := d) H hz ht ht8, k_unit1 (d := d) H hw, if_neg nb', if_neg hn', if_neg ho']
      simp only [u216_147, u216_148, u216_151, u216_154, u216_155, u216_156, u216_157, u216_160, u216_161, u216_164, u216_165, u216_166, u216_167, u216_170, u216_171, u216_174, u216_175, u216_176, u216_177, u216_178, u216_179, u216_182, u216_183, u216_186, u216_187, u216_190, u216_191, u216_192, u216_195, u216_197, u216_200, u216_201, u216_204, u216_207, u216_208, u216_210, u216_211, eq_self, q_nl0, q_nlI, q_nlR, not_false_eq_true, q_nz0, q_nz1, q_zv0, q_zv1, q_tl1, q_tl0, q_wif, q_swc, q_swn, List.cons_append, List.nil_append, if_true, if_false, e10, e01, Bool.false_eq_true, sh_195, sh_201, k_good H.2.2.1, p_195_14 hp, H.2.1.2, r2, r3, H.2.2.2.1.1, i1, nI_1, k0, eq_true yk, i2, H.1.2.2.2.2.2.2 y2, Option.toList]
      refine (a3 _).trans ?_
      simp only [u216_214, u216_215, u216_218, u216_219, u216_250, u216_251, u216_253, u216_256, u216_258, u216_261, u216_263, u216_265, eq_self, q_nl0, q_nlI, q_nlR, not_false_eq_true, q_nz0, q_nz1, q_zv0, q_zv1, q_tl1, q_tl0, q_wif, q_swc, q_swn, List.cons_append, List.nil_append, if_true, if_false, e10, e01, Bool.false_eq_true, sh_195, k0, eq_true yk]
      refine (b3 _).trans ?_
      simp only [u216_268, u216_269, eq_self, q_nl0, q_nlI, q_nlR, not_false_eq_true, q_nz0, q_nz1, q_zv0, q_zv1, q_tl1, q_tl0, q_wif, q_swc, q_swn, List.cons_append, List.nil_append, if_true, if_false, e10, e01, Bool.false_eq_true, nb0]
  · obtain ⟨g2, b1, b2, b3⟩ := KF_emit (X := X) (d := d + 3) (a := kuC V L S.1) (b := 0) a2 hc
    refine ⟨g2, FrE_tr u1 (FrE_tr a1 b1), ?_, fun Q => ?_⟩
    · unfold unS
      rw [if_neg yk, if_neg yk, ← ad_av]
      exact b2
    · rw [k_unit0 (d := d) H hz ht ht8, k_unit1 (d := d) H hw, if_neg nb', if_neg hn', if_neg ho']
      simp only [u216_147, u216_148, u216_151, u216_154, u216_155, u216_156, u216_157, u216_160, u216_161, u216_164, u216_165, u216_166, u216_167, u216_170, u216_171, u216_174, u216_175, u216_176, u216_177, u216_178, u216_179, u216_182, u216_183, u216_186, u216_187, u216_190, u216_191, u216_192, u216_195, u216_197, u216_200, u216_201, u216_204, u216_207, u216_208, u216_210, u216_211, eq_self, q_nl0, q_nlI, q_nlR, not_false_eq_true, q_nz0, q_nz1, q_zv0, q_zv1, q_tl1, q_tl0, q_wif, q_swc, q_swn, List.cons_append, List.nil_append, if_true, if_false, e10, e01, Bool.false_eq_true, sh_195, sh_201, k_good H.2.2.1, p_195_14 hp, H.2.1.2, r2, r3, H.2.2.2.1.1, i1, nI_1, k0, eq_false yk, Option.toList]
      refine (a3 _).trans ?_
      simp only [u216_214, u216_215, u216_218, u216_219, u216_250, u216_251, u216_253, u216_256, u216_258, u216_261, u216_263, u216_265, eq_self, q_nl0, q_nlI, q_nlR, not_false_eq_true, q_nz0, q_nz1, q_zv0, q_zv1, q_tl1, q_tl0, q_wif, q_swc, q_swn, List.cons_append, List.nil_append, if_true, if_false, e10, e01, Bool.false_eq_true, sh_195, k0, eq_false yk]
      refine (b3 _).trans ?_
      simp only [u216_268, u216_269, eq_self, q_nl0, q_nlI, q_nlR, not_false_eq_true, q_nz0, q_nz1, q_zv0, q_zv1, q_tl1, q_tl0, q_wif, q_swc, q_swn, List.cons_append, List.nil_append, if_true, if_false, e10, e01, Bool.false_eq_true, nb0]
