/-! NAMES, as the model reads them -/
theorem pI_neg {n f : Nat} (hn : n < 100) : (pI n f < 0) = ¬ f < n := by
  unfold pI
  by_cases z : f < n
  · rw [if_pos z]
    exact propext ⟨fun q => absurd q (nI_nlt (b := 0) (Nat.zero_le _) (by omega)), fun q => absurd z q⟩
  · rw [if_neg z]
    exact propext ⟨fun _ => z, fun _ => by decide⟩
/-- where the name that stands here is among n; below 0: nowhere -/
def hrI (V : Nat → Nat) (L : Nat) (ν : Nat → Nat) (n s : Nat) : Int32 := if isN V L s = true then pI n (fp (wP ν (wd V L s)) n 0) else -1
theorem k_here {X : XT} {d L s R K f n : Nat} {h : HT} {V ν : Nat → Nat} (H : TkK h L V s) (hR : m_sh KS R = (21, K)) (hK : K < 100) (hn : f + n ≤ K) (hν : nmK ν n) (hm : ∀ i, i < n → m_gL h R (f + i) = nL (cv (ν i))) (Q : QT) : wq X d 205 0 [some (.ref 195), some (.ref R), some (.int (nI f)), some (.int (nI n)), none] [] h Q = Q (some (.int (hrI V L ν n s))) h := by
  have e2 : (nI (mK V L s) = 2) = (isN V L s = true) := by
    rw [← mK_m]
    exact nI_eqB (b := 2) (by have := mK_5 (V := V) (L := L) (s := s); omega) (by decide)
  have ht : m_gI h 195 8 = nI (mK V L s) := H.2.2.2.2.1
  have e0 : wq X d 205 0 [some (.ref 195), some (.ref R), some (.int (nI f)), some (.int (nI n)), none] [] h Q = wq X d 205 3 [some (.ref 195), some (.ref R), some (.int (nI f)), some (.int (nI n)), some (.int (nI 0))] [] h Q := by
    rw [u205_0, u205_1]
    rfl
  rw [e0]
  unfold hrI
  have a1 : ∀ i, nI f + nI i = nI (f + i) := fun i => nI_add f i
  by_cases z : isN V L s = true
  · rw [if_pos z]
    have hw : m_gL h 195 10 = nL (cv (wd V L s)) := H.2.2.2.2.2.1 (isN_1 z)
    rw [← wP_k hν (wd_40 (isN_1 z))]
    have key : ∀ k i, i + k = n → wq X d 205 3 [some (.ref 195), some (.ref R), some (.int (nI f)), some (.int (nI n)), some (.int (nI i))] [] h Q = Q (some (.int (pI n (fp (fun i => decide (nL (cv (ν i)) = nL (cv (wd V L s)))) k i)))) h := by
      intro k
      induction k with
      | zero =>
        intro i e
        have : i = n := by omega
        subst this
        have c1 : (nI i < nI i) = False := eq_false (nI_nlt (Nat.le_refl _) (by omega))
        simp only [u205_0, u205_1, u205_3, u205_5, u205_6, u205_9, u205_10, u205_13, u205_14, u205_17, u205_18, u205_19, u205_21, u205_22, u205_23, u205_24, u205_27, u205_28, u205_31, u205_33, u205_34, u205_37, u205_40, u205_41, eq_self, q_nl0, q_nlI, q_nlR, not_false_eq_true, q_nz0, q_nz1, q_zv0, q_zv1, q_tl1, q_tl0, q_wif, q_swc, q_swn, List.cons_append, List.nil_append, if_true, if_false, e10, e01, Bool.false_eq_true, c1]
        show _ = Q (some (.int (pI i i))) h
        rw [show pI i i = -1 from if_neg (Nat.lt_irrefl _)]
      | succ k ih =>
        intro i e
        have c1 : (nI i < nI n) = True := eq_true (nI_lt (by omega) (by omega))
        have c3 : m_in (nI (f + i)) K = true := q_in (by omega) (by omega)
        have c4 : (nI (f + i)).toNatClampNeg = f + i := q_cl (by omega)
        refine Eq.trans ?_ (?_ : (if nL (cv (ν i)) = nL (cv (wd V L s)) then Q (some (.int (nI i))) h else wq X d 205 3 [some (.ref 195), some (.ref R), some (.int (nI f)), some (.int (nI n)), some (.int (nI (i + 1)))] [] h Q) = _)
        · rw [u205_3]
          simp only [u205_0, u205_1, u205_5, u205_6, u205_9, u205_10, u205_13, u205_14, u205_17, u205_18, u205_19, u205_21, u205_22, u205_23, u205_24, u205_27, u205_28, u205_31, u205_33, u205_34, u205_37, u205_40, u205_41, eq_self, q_nl0, q_nlI, q_nlR, not_false_eq_true, q_nz0, q_nz1, q_zv0, q_zv1, q_tl1, q_tl0, q_wif, q_swc, q_swn, List.cons_append, List.nil_append, if_true, if_false, e10, e01, Bool.false_eq_true, c1, sh_195, ht, e2, z, a1, hR, c3, c4, hm i (by omega), hw, lg_z, nI_1]
        · show _ = Q (some (.int (pI n (if decide (nL (cv (ν i)) = nL (cv (wd V L s))) = true then i else fp (fun i => decide (nL (cv (ν i)) = nL (cv (wd V L s)))) k (i + 1))))) h
          by_cases y : nL (cv (ν i)) = nL (cv (wd V L s))
          · rw [if_pos y, if_pos (decide_eq_true y), show pI n i = nI i from if_pos (by omega)]
          · rw [if_neg y, if_neg (fun q => y (of_decide_eq_true q))]
            exact ih (i + 1) (by omega)
    exact key n 0 (by omega)
  · rw [if_neg z]
    have key : ∀ k i, i + k = n → wq X d 205 3 [some (.ref 195), some (.ref R), some (.int (nI f)), some (.int (nI n)), some (.int (nI i))] [] h Q = Q (some (.int (-1))) h := by
      intro k
      induction k with
      | zero =>
        intro i e
        have : i = n := by omega
        subst this
        have c1 : (nI i < nI i) = False := eq_false (nI_nlt (Nat.le_refl _) (by omega))
        simp only [u205_0, u205_1, u205_3, u205_5, u205_6, u205_9, u205_10, u205_13, u205_14, u205_17, u205_18, u205_19, u205_21, u205_22, u205_23, u205_24, u205_27, u205_28, u205_31, u205_33, u205_34, u205_37, u205_40, u205_41, eq_self, q_nl0, q_nlI, q_nlR, not_false_eq_true, q_nz0, q_nz1, q_zv0, q_zv1, q_tl1, q_tl0, q_wif, q_swc, q_swn, List.cons_append, List.nil_append, if_true, if_false, e10, e01, Bool.false_eq_true, c1]
      | succ k ih =>
        intro i e
        have c1 : (nI i < nI n) = True := eq_true (nI_lt (by omega) (by omega))
        rw [← ih (i + 1) (by omega), u205_3]
        simp only [u205_0, u205_1, u205_5, u205_6, u205_9, u205_10, u205_13, u205_14, u205_17, u205_18, u205_19, u205_21, u205_22, u205_23, u205_24, u205_27, u205_28, u205_31, u205_33, u205_34, u205_37, u205_40, u205_41, eq_self, q_nl0, q_nlI, q_nlR, not_false_eq_true, q_nz0, q_nz1, q_zv0, q_zv1, q_tl1, q_tl0, q_wif, q_swc, q_swn, List.cons_append, List.nil_append, if_true, if_false, e10, e01, Bool.false_eq_true, c1, sh_195, ht, e2, z, nI_1]
    exact key n 0 (by omega)
theorem k_craftHere {X : XT} {d L s R n : Nat} {h : HT} {V ν : Nat → Nat} (H : TkK h L V s) (hR : R < 2) (h1 : m_gI h 195 41 = nI R) (h2 : m_gI h 198 R = nI n) (hn : n ≤ 4) (hν : nmK ν n) (hm : ∀ i, i < n → m_gL h 219 (4 * R + i) = nL (cv (ν i))) (Q : QT) : wq X (d + 1) 204 0 [some (.ref 195)] [] h Q = Q (some (.int (hrI V L ν n s))) h := by
  have hp := H.1.1
  have a1 : (4 : Int32) * nI R = nI (4 * R) := (Int32.ofNat_mul 4 R).symm
  have c3 : m_in (nI R) 2 = true := q_in hR (by decide)
  have c4 : (nI R).toNatClampNeg = R := q_cl (by omega)
  simp only [u204_0, u204_1, u204_2, u204_5, u204_6, u204_7, u204_10, u204_11, u204_12, u204_15, u204_16, u204_19, u204_20, u204_23, eq_self, q_nl0, q_nlI, q_nlR, not_false_eq_true, q_nz0, q_nz1, q_zv0, q_zv1, q_tl1, q_tl0, q_wif, q_swc, q_swn, List.cons_append, List.nil_append, if_true, if_false, e10, e01, Bool.false_eq_true, sh_195, sh_198, p_195_32 hp, p_195_11 hp, h1, a1, c3, c4, h2, k_here (d := d) H sh_219 (by decide) (show 4 * R + n ≤ 8 by omega) hν hm, Option.toList]
theorem k_fail {X : XT} {d s : Nat} {h : HT} {v : Int32} (h4 : m_gI h 195 4 = 0 ∧ m_gI h 195 5 = -1) (Q : QT) : wq X d 202 0 [some (.ref 195), some (.int v), some (.int (nI s))] [] h Q = Q none (m_sI (m_sI h 195 4 v) 195 5 (nI s)) := by
  simp only [u202_0, u202_1, u202_4, u202_7, u202_8, u202_9, u202_10, u202_13, u202_14, u202_15, u202_18, eq_self, q_nl0, q_nlI, q_nlR, not_false_eq_true, q_nz0, q_nz1, q_zv0, q_zv1, q_tl1, q_tl0, q_wif, q_swc, q_swn, List.cons_append, List.nil_append, if_true, if_false, e10, e01, Bool.false_eq_true, sh_195, h4, show ((0 : Int32) < 0) = False from eq_false (by decide)]
theorem k_fresh {X : XT} {d L s n : Nat} {h : HT} {V ν : Nat → Nat} (H : KP h L V (.inr s)) (hn : n ≤ 7) : ∃ g, FrM h g ∧ KP g L V (nmP V L ν n (.inr s)) ∧ ∀ Q : QT, wq X (d + 3) 206 0 [some (.ref 195), some (.int (hrI V L ν n s)), none, none] [] h Q = Q (some (.long (m_gL h 195 10))) g := by
  have kt : TkK h L V s := H.1
  have e2 : (nI (mK V L s) = 2) = (isN V L s = true) := by
    rw [← mK_m]
    exact nI_eqB (b := 2) (by have := mK_5 (V := V) (L := L) (s := s); omega) (by decide)
  have ht : m_gI h 195 8 = nI (mK V L s) := kt.2.2.2.2.1
  by_cases z : isN V L s = true
  · have eh : hrI V L ν n s = pI n (fp (wP ν (wd V L s)) n 0) := if_pos z
    by_cases y : fp (wP ν (wd V L s)) n 0 < n
    · obtain ⟨b1, b2⟩ := KP_mis (L := L) (s := s) (h := h) (V := V) (k := 3) (by decide) H.1
      rw [show nmP V L ν n (.inr s) = .inl (kdO V L s 3, s) from (if_pos z).trans (if_pos y)]
      rw [kdO_N z] at b1 b2 ⊢
      have kf : ∀ Q : QT, wq X (d + 2) 202 0 [some (.ref 195), some (.int 3), some (.int (nI s))] [] h Q = Q none (m_sI (m_sI h 195 4 (nI 3)) 195 5 (nI s)) := fun Q => k_fail H.2 Q
      refine ⟨_, b1, b2, fun Q => ?_⟩
      simp only [u206_0, u206_1, u206_4, u206_7, u206_8, u206_9, u206_10, u206_13, u206_14, u206_17, u206_18, u206_21, u206_24, u206_25, u206_28, u206_29, u206_30, u206_31, u206_34, u206_37, u206_38, u206_41, u206_42, u206_43, u206_46, u206_49, u206_50, u206_53, u206_54, eq_self, q_nl0, q_nlI, q_nlR, not_false_eq_true, q_nz0, q_nz1, q_zv0, q_zv1, q_tl1, q_tl0, q_wif, q_swc, q_swn, List.cons_append, List.nil_append, if_true, if_false, e10, e01, Bool.false_eq_true, sh_195, k_good H.2, ht, e2, z, eh, pI_neg (show n < 100 by omega), y, not_true_eq_false, kt.2.2.1, kf, k_ngood b2, Option.toList]
      rfl
    · obtain ⟨g, a1, a2, a3⟩ := k_avP (X := X) (d := d) H
      rw [show nmP V L ν n (.inr s) = .inr (nx V L s) from (if_pos z).trans (if_neg y)]
      refine ⟨g, a1, a2, fun Q => ?_⟩
      simp only [u206_0, u206_1, u206_4, u206_7, u206_8, u206_9, u206_10, u206_13, u206_14, u206_17, u206_18, u206_21, u206_24, u206_25, u206_28, u206_29, u206_30, u206_31, u206_34, u206_37, u206_38, u206_41, u206_42, u206_43, u206_46, u206_49, u206_50, u206_53, u206_54, eq_self, q_nl0, q_nlI, q_nlR, not_false_eq_true, q_nz0, q_nz1, q_zv0, q_zv1, q_tl1, q_tl0, q_wif, q_swc, q_swn, List.cons_append, List.nil_append, if_true, if_false, e10, e01, Bool.false_eq_true, sh_195, k_good H.2, ht, e2, z, eh, pI_neg (show n < 100 by omega), y, Option.toList]
      refine (a3 _).trans ?_
      simp only [u206_53, u206_54, eq_self, q_nl0, q_nlI, q_nlR, not_false_eq_true, q_nz0, q_nz1, q_zv0, q_zv1, q_tl1, q_tl0, q_wif, q_swc, q_swn, List.cons_append, List.nil_append, if_true, if_false, e10, e01, Bool.false_eq_true]
  · obtain ⟨b1, b2⟩ := KP_mis (L := L) (s := s) (h := h) (V := V) (k := 2) (by decide) H.1
    rw [show nmP V L ν n (.inr s) = .inl (kdO V L s 2, s) from if_neg z]
    refine ⟨_, b1, b2, fun Q => ?_⟩
    simp only [u206_0, u206_1, u206_4, u206_7, u206_8, u206_9, u206_10, u206_13, u206_14, u206_17, u206_18, u206_21, u206_24, u206_25, u206_28, u206_29, u206_30, u206_31, u206_34, u206_37, u206_38, u206_41, u206_42, u206_43, u206_46, u206_49, u206_50, u206_53, u206_54, eq_self, q_nl0, q_nlI, q_nlR, not_false_eq_true, q_nz0, q_nz1, q_zv0, q_zv1, q_tl1, q_tl0, q_wif, q_swc, q_swn, List.cons_append, List.nil_append, if_true, if_false, e10, e01, Bool.false_eq_true, sh_195, k_good H.2, ht, e2, z, k_misp (d := d + 1) kt H.2, k_ngood b2, Option.toList]
    rfl
/-- a craft's name: found or not, its place here -/
def knP (V : Nat → Nat) (L : Nat) (ν : Nat → Nat) (n s : Nat) : RP := if isN V L s = true then (if fp (wP ν (wd V L s)) n 0 < n then .inr (nx V L s) else .inl (kdO V L s 5, s)) else .inl (kdO V L s 2, s)
theorem k_knownB {X : XT} {d : Nat} {h : HT} {e : Nat × Nat} {v : Int32} (H : KBd h e) (Q : QT) : wq X (d + 3) 211 0 [some (.ref 195), some (.int v)] [] h Q = Q (some (.int 0)) h := by
  simp only [u211_0, u211_1, u211_4, u211_7, u211_8, u211_9, u211_10, u211_13, u211_14, u211_17, u211_18, u211_21, u211_24, u211_25, u211_28, u211_29, u211_30, u211_31, u211_34, u211_37, u211_40, u211_41, u211_44, u211_45, u211_48, u211_49, u211_52, u211_53, eq_self, q_nl0, q_nlI, q_nlR, not_false_eq_true, q_nz0, q_nz1, q_zv0, q_zv1, q_tl1, q_tl0, q_wif, q_swc, q_swn, List.cons_append, List.nil_append, if_true, if_false, e10, e01, Bool.false_eq_true, sh_195, k_ngood H, Option.toList]
theorem k_known {X : XT} {d L s n : Nat} {h : HT} {V ν : Nat → Nat} (H : KP h L V (.inr s)) (hn : n ≤ 7) : ∃ g v, FrM h g ∧ KP g L V (knP V L ν n s) ∧ (fp (wP ν (wd V L s)) n 0 < n → isN V L s = true → v = nI (fp (wP ν (wd V L s)) n 0)) ∧ ∀ Q : QT, wq X (d + 3) 211 0 [some (.ref 195), some (.int (hrI V L ν n s))] [] h Q = Q (some (.int v)) g := by
  have kt : TkK h L V s := H.1
  have e2 : (nI (mK V L s) = 2) = (isN V L s = true) := by
    rw [← mK_m]
    exact nI_eqB (b := 2) (by have := mK_5 (V := V) (L := L) (s := s); omega) (by decide)
  have ht : m_gI h 195 8 = nI (mK V L s) := kt.2.2.2.2.1
  by_cases z : isN V L s = true
  · have eh : hrI V L ν n s = pI n (fp (wP ν (wd V L s)) n 0) := if_pos z
    by_cases y : fp (wP ν (wd V L s)) n 0 < n
    · obtain ⟨g, a1, a2, a3⟩ := k_avP (X := X) (d := d) H
      rw [show knP V L ν n s = .inr (nx V L s) from (if_pos z).trans (if_pos y)]
      refine ⟨g, nI (fp (wP ν (wd V L s)) n 0), a1, a2, fun _ _ => rfl, fun Q => ?_⟩
      simp only [u211_0, u211_1, u211_4, u211_7, u211_8, u211_9, u211_10, u211_13, u211_14, u211_17, u211_18, u211_21, u211_24, u211_25, u211_28, u211_29, u211_30, u211_31, u211_34, u211_37, u211_40, u211_41, u211_44, u211_45, u211_48, u211_49, u211_52, u211_53, eq_self, q_nl0, q_nlI, q_nlR, not_false_eq_true, q_nz0, q_nz1, q_zv0, q_zv1, q_tl1, q_tl0, q_wif, q_swc, q_swn, List.cons_append, List.nil_append, if_true, if_false, e10, e01, Bool.false_eq_true, sh_195, k_good H.2, ht, e2, z, eh, pI_neg (show n < 100 by omega), y, not_true_eq_false, Option.toList]
      refine (a3 _).trans ?_
      simp only [u211_44, u211_45, u211_48, u211_49, u211_52, u211_53, eq_self, q_nl0, q_nlI, q_nlR, not_false_eq_true, q_nz0, q_nz1, q_zv0, q_zv1, q_tl1, q_tl0, q_wif, q_swc, q_swn, List.cons_append, List.nil_append, if_true, if_false, e10, e01, Bool.false_eq_true, pI_neg (show n < 100 by omega), y, not_true_eq_false]
      rw [show pI n (fp (wP ν (wd V L s)) n 0) = nI (fp (wP ν (wd V L s)) n 0) from if_pos y]
    · obtain ⟨b1, b2⟩ := KP_mis (L := L) (s := s) (h := h) (V := V) (k := 5) (by decide) H.1
      rw [show knP V L ν n s = .inl (kdO V L s 5, s) from (if_pos z).trans (if_neg y)]
      rw [kdO_N z] at b1 b2 ⊢
      have kf : ∀ Q : QT, wq X (d + 2) 202 0 [some (.ref 195), some (.int 5), some (.int (nI s))] [] h Q = Q none (m_sI (m_sI h 195 4 (nI 5)) 195 5 (nI s)) := fun Q => k_fail H.2 Q
      refine ⟨_, 0, b1, b2, fun q => absurd q y, fun Q => ?_⟩
      simp only [u211_0, u211_1, u211_4, u211_7, u211_8, u211_9, u211_10, u211_13, u211_14, u211_17, u211_18, u211_21, u211_24, u211_25, u211_28, u211_29, u211_30, u211_31, u211_34, u211_37, u211_40, u211_41, u211_44, u211_45, u211_48, u211_49, u211_52, u211_53, eq_self, q_nl0, q_nlI, q_nlR, not_false_eq_true, q_nz0, q_nz1, q_zv0, q_zv1, q_tl1, q_tl0, q_wif, q_swc, q_swn, List.cons_append, List.nil_append, if_true, if_false, e10, e01, Bool.false_eq_true, sh_195, k_good H.2, ht, e2, z, eh, pI_neg (show n < 100 by omega), y, not_false_eq_true, kt.2.2.1, kf, Option.toList]
  · obtain ⟨b1, b2⟩ := KP_mis (L := L) (s := s) (h := h) (V := V) (k := 2) (by decide) H.1
    rw [show knP V L ν n s = .inl (kdO V L s 2, s) from if_neg z]
    have eh : hrI V L ν n s = -1 := if_neg z
    refine ⟨_, 0, b1, b2, fun _ q => absurd q z, fun Q => ?_⟩
    simp only [u211_0, u211_1, u211_4, u211_7, u211_8, u211_9, u211_10, u211_13, u211_14, u211_17, u211_18, u211_21, u211_24, u211_25, u211_28, u211_29, u211_30, u211_31, u211_34, u211_37, u211_40, u211_41, u211_44, u211_45, u211_48, u211_49, u211_52, u211_53, eq_self, q_nl0, q_nlI, q_nlR, not_false_eq_true, q_nz0, q_nz1, q_zv0, q_zv1, q_tl1, q_tl0, q_wif, q_swc, q_swn, List.cons_append, List.nil_append, if_true, if_false, e10, e01, Bool.false_eq_true, sh_195, k_good H.2, ht, e2, z, eh, k_misp (d := d + 1) kt H.2, show ((-1 : Int32) < 0) = True from eq_true (by decide), Option.toList]
/-- under a fault: what isWord says, whatever it is -/
theorem k_wordB {X : XT} {d : Nat} {h : HT} {c : Int64} : ∃ v : Int32, ∀ Q : QT, wq X d 200 0 [some (.ref 195), some (.long c), none] [] h Q = Q (some (.int v)) h := by
  have nb0 : q_nb .boolean 0 = true := by decide
  have nb1 : q_nb .boolean 1 = true := by decide
  by_cases z : m_gI h 195 8 = 3
  · by_cases y : m_gL h 195 10 = c
    · refine ⟨1, fun Q => ?_⟩
      simp only [u200_0, u200_1, u200_4, u200_5, u200_8, u200_9, u200_12, u200_13, u200_14, u200_17, u200_18, u200_21, u200_22, eq_self, q_nl0, q_nlI, q_nlR, not_false_eq_true, q_nz0, q_nz1, q_zv0, q_zv1, q_tl1, q_tl0, q_wif, q_swc, q_swn, List.cons_append, List.nil_append, if_true, if_false, e10, e01, Bool.false_eq_true, sh_195, z, lg_z, y, nb0, nb1]
    · refine ⟨0, fun Q => ?_⟩
      simp only [u200_0, u200_1, u200_4, u200_5, u200_8, u200_9, u200_12, u200_13, u200_14, u200_17, u200_18, u200_21, u200_22, eq_self, q_nl0, q_nlI, q_nlR, not_false_eq_true, q_nz0, q_nz1, q_zv0, q_zv1, q_tl1, q_tl0, q_wif, q_swc, q_swn, List.cons_append, List.nil_append, if_true, if_false, e10, e01, Bool.false_eq_true, sh_195, z, lg_z, y, nb0, nb1]
  · refine ⟨0, fun Q => ?_⟩
    simp only [u200_0, u200_1, u200_4, u200_5, u200_8, u200_9, u200_12, u200_13, u200_14, u200_17, u200_18, u200_21, u200_22, eq_self, q_nl0, q_nlI, q_nlR, not_false_eq_true, q_nz0, q_nz1, q_zv0, q_zv1, q_tl1, q_tl0, q_wif, q_swc, q_swn, List.cons_append, List.nil_append, if_true, if_false, e10, e01, Bool.false_eq_true, sh_195, z, nb0, nb1]
theorem k_afterP {X : XT} {d L m i : Nat} {h : HT} {V : Nat → Nat} {c : Int64} {r : RP} (H : KP h L V r) (hi : i ∈ wIx) (hc : c = nL (cv (txN i))) (hm : m < 1000) : ∃ g, FrM h g ∧ KP g L V (nuP V L m (exW V L i r)).1 ∧ ∀ Q : QT, wq X (d + 4) 207 0 [some (.ref 195), some (.long c), none, some (.int 0), some (.int (nI m))] [] h Q = Q (some (.int (nI (nuP V L m (exW V L i r)).2))) g := by
  cases r with
  | inr s => exact k_after H hi hc hm
  | inl e =>
    have HB : KBd h e := H
    obtain ⟨v, hv⟩ := k_wordB (X := X) (d := d + 3) (h := h) (c := c)
    refine ⟨h, FrM_rf, H, fun Q => ?_⟩
    simp only [u207_0, u207_1, u207_2, u207_3, u207_6, u207_9, u207_10, u207_11, u207_13, u207_16, eq_self, q_nl0, q_nlI, q_nlR, not_false_eq_true, q_nz0, q_nz1, q_zv0, q_zv1, q_tl1, q_tl0, q_wif, q_swc, q_swn, List.cons_append, List.nil_append, if_true, if_false, e10, e01, Bool.false_eq_true, sh_195, hv, k_mustB HB, k_numB HB, Option.toList]
    rfl
