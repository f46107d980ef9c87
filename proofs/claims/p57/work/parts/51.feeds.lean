/-! feeds -/
def upL (A : Nat → Int32) (m : Nat) (v : Int32) : Nat → Int32 := up A m (if 99 < A m + v then 99 else A m + v)
theorem upL_o {A : Nat → Int32} {m k : Nat} {v : Int32} (h : k ≠ m) : upL A m v k = A k := if_neg h
theorem upL_n {A : Nat → Int32} {m : Nat} {v : Int32} (h : m < 7) : aN (upL A m v) = aN A := by
  unfold aN
  rw [upL_o (by omega)]
theorem upL_ok {τ : CT} {N m : Nat} {A : Nat → Int32} {v : Int32} (H : cOk τ) (hm : m < τ 0 1) (K : aOk τ N A) : aOk τ N (upL A m v) := by
  have h7 := o_mn H
  have hn := upL_n (A := A) (v := v) (show m < 7 by omega)
  refine ⟨by rw [hn, upL_o (by omega)]; exact K.1, ?_, ?_, ?_⟩
  · rw [upL_o (by omega)]
    exact K.2.1
  · rw [upL_o (by omega)]
    exact K.2.2.1
  · obtain ⟨y, y1, y2, hd⟩ := K.2.2.2
    refine ⟨y, y1, by rw [upL_o (by omega)]; exact y2, fun k hk => ?_⟩
    rw [upL_o (by omega), hn]
    exact hd k hk
theorem upL_rep {τ : CT} {m : Nat} {r : RS} {A : Nat → Int32} {v : Int32} (H : cOk τ) (hm : m < τ 0 1) (R : Rep τ r A) : Rep τ (rLoaves r m v) (upL A m v) := by
  have h7 := o_mn H
  have hn := upL_n (A := A) (v := v) (show m < 7 by omega)
  refine ⟨?_, fun k hk => ?_, fun k hk hb => ?_⟩
  · rw [upL_o (by omega), upL_o (by omega), upL_o (by omega), upL_o (by omega), upL_o (by omega), upL_o (by omega)]
    exact R.1
  · show (if k = m then (if 99 < r.2.2 m + v then 99 else r.2.2 m + v) else r.2.2 k) = if k = m then (if 99 < A m + v then 99 else A m + v) else A k
    rw [R.2.1 m hm, R.2.1 k hk]
  · rw [hn] at hb
    rw [upL_o (by omega)]
    exact R.2.2 k hk hb
theorem min99 {x : Int32} : (if x < 99 then x else 99) = if 99 < x then 99 else x := by
  by_cases a : x < 99
  · have : ¬ 99 < x := fun b => by
      have h1 := Int32.lt_iff_toInt_lt.mp a
      have h2 := Int32.lt_iff_toInt_lt.mp b
      omega
    rw [if_pos a, if_neg this]
  · by_cases b : 99 < x
    · rw [if_neg a, if_pos b]
    · rw [if_neg a, if_neg b]
      apply Int32.toInt_inj.mp
      have h1 : ¬ x.toInt < (99 : Int32).toInt := fun z => a (Int32.lt_iff_toInt_lt.mpr z)
      have h2 : ¬ (99 : Int32).toInt < x.toInt := fun z => b (Int32.lt_iff_toInt_lt.mpr z)
      omega
theorem c_getLoaves {X : XT} {d a m : Nat} {h : HT} {Q : QT} {v : Int32} (ha : isS a) (hp : Ptr h) (hm : m < 7) : wq X d 122 0 [some (.ref a), some (.int (nI m)), some (.int v)] [] h Q = Q none (pS h a (rLoaves (gS h a) m v)) := by
  have e1 : (nI m < 0) = False := oI_lt0 (by omega)
  have e2 : (nI m < 7) = True := eq_true (nI_lt (b := 7) hm (by omega))
  have e3 : m_in (nI m) 7 = true := q_in hm (by decide)
  have e4 : (nI m).toNatClampNeg = m := q_cl (by omega)
  have e5 : m_sI h (a + 2) m (if 99 < m_gI h (a + 2) m + v then 99 else m_gI h (a + 2) m + v) = pS h a (rLoaves (gS h a) m v) := by
    have := sI_pS2 (h := h) (a := a) (r := gS h a) (k := m) (v := if 99 < m_gI h (a + 2) m + v then 99 else m_gI h (a + 2) m + v)
    rw [pS_gS] at this
    exact this
  simp only [u122_0, u122_1, u122_4, u122_5, u122_7, u122_10, u122_11, u122_14, u122_15, u122_17, u122_18, u122_21, u122_22, u122_23, u122_24, u122_25, u122_28, u122_29, eq_self, q_nl0, q_nlI, q_nlR, not_false_eq_true, q_nz0, q_nz1, q_zv0, q_zv1, q_tl1, q_tl0, q_wif, q_swc, q_swn, List.cons_append, List.nil_append, if_true, if_false, e10, e01, Bool.false_eq_true, shS_0 ha, shS_2 ha, pS_2 ha hp, e1, e2, e3, e4, min99, e5]
/-- is he out behind each of n days -/
def stB (o : Option Nat) (n : Nat) : Bool := match o with
  | none => true
  | some v => decide (n < v)
theorem c_stays {X : XT} {d T N m n : Nat} {h : HT} {τ : CT} {A : Nat → Int32} {v : Int32} (H : CQ h T τ N A) (hm : m < τ 0 1) (hb0 : (aN A).testBit m = true) (hn : n ≤ 60) : ∃ g, Same h g ∧ ∀ Q : QT, wq X (d + 5) 153 0 [some (.ref 1), some (.int (nI m)), some (.int v), some (.int (nI n)), none] [] h Q = Q (some (.int (if stB (reO τ (upL A m v) m) n = true then 1 else 0))) g := by
  have hp := cq_p H
  have hk := cq_k H
  have h7 := o_mn hk
  have hT := ct_T (cq_t H)
  have s41 : (m_sh (KS X) 41).1 = 7 := by rw [sh_41]
  have s1 : Same h (pS h 41 (rCopy (gS h 41) (gS h 38))) := Same_pS (Or.inl rfl)
  have r1 : Rep τ (gS (pS h 41 (rCopy (gS h 41) (gS h 38))) 41) A := by
    rw [gS_pS]
    exact Rep_copy hk (cq_r H)
  have cc := fun (Q : QT) => c_copy (X := X) (d := d + 4) (Q := Q) is41 is38 (by decide) hp
  generalize pS h 41 (rCopy (gS h 41) (gS h 38)) = h1 at s1 r1 cc
  have C1 := CQ_same s1 H
  have cl := fun (Q : QT) => c_getLoaves (X := X) (d := d + 4) (h := h1) (m := m) (v := v) (Q := Q) is41 (cq_p C1) (show m < 7 by omega)
  have s2 : Same h (pS h1 41 (rLoaves (gS h1 41) m v)) := Same_tr s1 (Same_pS (Or.inl rfl))
  have r2 : Rep τ (gS (pS h1 41 (rLoaves (gS h1 41) m v)) 41) (upL A m v) := by
    rw [gS_pS]
    exact upL_rep hk hm r1
  generalize pS h1 41 (rLoaves (gS h1 41) m v) = h2 at s2 r2 cl
  have K2 := upL_ok (v := v) hk hm (cq_a H)
  have hb2 : (aN (upL A m v)).testBit m = true := by rw [upL_n (by omega)]; exact hb0
  generalize upL A m v = B at r2 K2 hb2
  have step : ∀ i g, i < n → Same h g ∧ Rep τ (gS g 41) (aIt τ B i) → ∃ g', (Same h g' ∧ Rep τ (gS g' 41) (aIt τ B (i + 1))) ∧ ∀ Q : QT, wq X (d + 5) 153 23 [some (.ref 1), some (.int (nI m)), some (.int v), some (.int (nI n)), some (.int (nI i))] [] g Q = if (aN (aIt τ B (i + 1))).testBit m = true then wq X (d + 5) 153 23 [some (.ref 1), some (.int (nI m)), some (.int v), some (.int (nI n)), some (.int (nI (i + 1)))] [] g' Q else Q (some (.int 0)) g' := by
    intro i g hi hg
    have C := CQ_same hg.1 H
    obtain ⟨g1, f1, f2, f3⟩ := c_passF (X := X) (d := d) (a := 41) (cq_t C) (cq_f C) (it_ok hk K2 i) is41 hg.2
    have b1 := Same_tr hg.1 (Fr_Same (Or.inl rfl) f1)
    have C2 := CQ_same b1 H
    refine ⟨g1, ⟨b1, f2⟩, fun Q => ?_⟩
    have e1 : (nI i < nI n) = True := eq_true (nI_lt hi (by omega))
    have K3 := it_ok hk K2 (i + 1)
    have hb := bit01 (aN_lt hk K3) (show m < 8 by omega)
    have e0 : m_gI g1 41 0 = nI (aN (aIt τ B (i + 1))) := f2.1.1.trans K3.1.1
    rw [u153_23]
    simp only [u153_25, u153_26, u153_29, u153_30, u153_33, u153_34, u153_37, u153_40, u153_41, u153_42, u153_45, u153_46, u153_49, u153_52, u153_53, u153_54, u153_57, eq_self, q_nl0, q_nlI, q_nlR, not_false_eq_true, q_nz0, q_nz1, q_zv0, q_zv1, q_tl1, q_tl0, q_wif, q_swc, q_swn, List.cons_append, List.nil_append, if_true, if_false, e10, e01, Bool.false_eq_true, sh_1, sh_41, shT_0 hT, e1, cq_T C, p_1_4 (cq_p C), f3]
    simp only [u153_40, u153_41, u153_42, u153_45, u153_46, u153_49, u153_52, u153_53, u153_54, u153_57, eq_self, q_nl0, q_nlI, q_nlR, not_false_eq_true, q_nz0, q_nz1, q_zv0, q_zv1, q_tl1, q_tl0, q_wif, q_swc, q_swn, List.cons_append, List.nil_append, if_true, if_false, e10, e01, Bool.false_eq_true, sh_1, sh_41, p_1_4 (cq_p C2), c_isOut s41, e0, hb, if_b1, if_b0, nI_1]
    by_cases y : (aN (aIt τ B (i + 1))).testBit m = true
    · simp only [y, not_true_eq_false, if_false, if_true]
    · simp only [y, not_false_eq_true, if_true, if_false, Bool.false_eq_true]
  have start : ∀ Q : QT, wq X (d + 5) 153 0 [some (.ref 1), some (.int (nI m)), some (.int v), some (.int (nI n)), none] [] h Q = wq X (d + 5) 153 23 [some (.ref 1), some (.int (nI m)), some (.int v), some (.int (nI n)), some (.int (nI 0))] [] h2 Q := by
    intro Q
    simp only [u153_0, u153_1, u153_4, u153_5, u153_8, eq_self, q_nl0, q_nlI, q_nlR, not_false_eq_true, q_nz0, q_nz1, q_zv0, q_zv1, q_tl1, q_tl0, q_wif, q_swc, q_swn, List.cons_append, List.nil_append, if_true, if_false, e10, e01, Bool.false_eq_true, sh_1, sh_41, p_1_4 hp, p_1_3 hp, cc]
    simp only [u153_11, u153_12, u153_15, u153_16, u153_17, u153_20, u153_21, eq_self, q_nl0, q_nlI, q_nlR, not_false_eq_true, q_nz0, q_nz1, q_zv0, q_zv1, q_tl1, q_tl0, q_wif, q_swc, q_swn, List.cons_append, List.nil_append, if_true, if_false, e10, e01, Bool.false_eq_true, sh_1, sh_41, p_1_4 (cq_p C1), cl]
    rfl
  have lp : ∀ k, k ≤ n → (∀ j, 1 ≤ j → j ≤ k → (aN (aIt τ B j)).testBit m = true) → ∃ g, (Same h g ∧ Rep τ (gS g 41) (aIt τ B k)) ∧ (fun Q : QT => wq X (d + 5) 153 23 [some (.ref 1), some (.int (nI m)), some (.int v), some (.int (nI n)), some (.int (nI 0))] [] h2 Q) = fun Q => wq X (d + 5) 153 23 [some (.ref 1), some (.int (nI m)), some (.int v), some (.int (nI n)), some (.int (nI k))] [] g Q := by
    intro k hk2 hz
    refine q_loopI (fun i (g : HT) (Q : QT) => wq X (d + 5) 153 23 [some (.ref 1), some (.int (nI m)), some (.int v), some (.int (nI n)), some (.int (nI i))] [] g Q) (fun i g => Same h g ∧ Rep τ (gS g 41) (aIt τ B i)) k (fun i hi g hg => ?_) h2 ⟨s2, r2⟩
    obtain ⟨g', q1, q2⟩ := step i g (by omega) hg
    refine ⟨g', q1, funext fun Q => ?_⟩
    rw [q2 Q, if_pos (hz (i + 1) (by omega) (by omega))]
  have fin : ∀ g (Q : QT), wq X (d + 5) 153 23 [some (.ref 1), some (.int (nI m)), some (.int v), some (.int (nI n)), some (.int (nI n))] [] g Q = Q (some (.int 1)) g := by
    intro g Q
    rw [u153_23]
    simp only [u153_25, u153_26, u153_60, u153_61, eq_self, q_nl0, q_nlI, q_nlR, not_false_eq_true, q_nz0, q_nz1, q_zv0, q_zv1, q_tl1, q_tl0, q_wif, q_swc, q_swn, List.cons_append, List.nil_append, if_true, if_false, e10, e01, Bool.false_eq_true, eq_false (nI_nlt (Nat.le_refl n) (by omega))]
  unfold reO
  cases e : fstN (reP τ B m) 60 with
  | none =>
    have hz := fst_none 60 e
    obtain ⟨g, q1, q2⟩ := lp n (Nat.le_refl _) (fun j h1 h2 => reP_f (hz j (by omega)))
    refine ⟨g, q1.1, fun Q => ?_⟩
    rw [start, congrFun q2 Q, fin]
    rfl
  | some w =>
    have hz := fst_some 60 e
    by_cases y : n < w
    · obtain ⟨g, q1, q2⟩ := lp n (Nat.le_refl _) (fun j h1 h2 => reP_f (hz.2.2 j (by omega)))
      refine ⟨g, q1.1, fun Q => ?_⟩
      rw [start, congrFun q2 Q, fin]
      unfold stB
      rw [if_pos (decide_eq_true y)]
    · have hw : 1 ≤ w := by
        rcases Nat.eq_zero_or_pos w with q | q
        · subst q
          have := reP_t hz.2.1
          rw [show aIt τ B 0 = B from rfl, hb2] at this
          cases this
        · exact q
      obtain ⟨u, rfl⟩ : ∃ u, w = u + 1 := ⟨w - 1, by omega⟩
      obtain ⟨g, q1, q2⟩ := lp u (by omega) (fun j h1 h2 => reP_f (hz.2.2 j (by omega)))
      obtain ⟨g', q3, q4⟩ := step u g (by omega) q1
      refine ⟨g', q3.1, fun Q => ?_⟩
      rw [start, congrFun q2 Q, q4 Q, if_neg (by rw [reP_t hz.2.1]; decide)]
      unfold stB
      rw [if_neg (by simpa using y)]
/-- the fewest loaves -/
def feF (τ : CT) (A : Nat → Int32) (m n : Nat) (v : Nat) : Bool := stB (reO τ (upL A m (nI v)) m) n
theorem up_id {A : Nat → Int32} {m : Nat} {v : Int32} : up (up A m v) m (A m) = A := by
  funext k
  show (if k = m then A m else if k = m then v else A k) = A k
  by_cases z : k = m
  · rw [if_pos z, z]
  · rw [if_neg z, if_neg z]
