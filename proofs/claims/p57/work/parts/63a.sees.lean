theorem a_counted {X : XT} {d : Nat} {h : HT} {τ : CT} {A : Nat → Int32} {bh ah : Nat} {W : Nat → Nat → Int32} {F : Nat → Bool} {B : Nat → Nat → Int32} {n t : Nat} {S : Nat → Nat → Int32} {L : Nat} {V : Nat → Nat} {xx yy : Int32} {m : Nat} {v : Int32} (C : CI h (τ, A, bh, ah, W, F, B, n, t, S, L, V, xx, yy)) (O : OKs (τ, A, bh, ah, W, F, B, n, t, S, L, V, xx, yy)) (hm : m < 8) (z : n < 30) (hv : v = 0 ∨ v = 1) : Ac X (d + 10) 174 [some (.ref 1), some (.int (nI m)), some (.int v)] h (nI n) (τ, A, bh, ah, W, F, B, n + 1, t, tlS S n 2 (nI m) v (nI t), L, V, xx, yy) := by
  have C0 := C
  obtain ⟨⟨T, H, H1'⟩, ⟨o, HA⟩, H3, H4, H5, H6⟩ := C
  obtain ⟨O1, O2, O3, O4, O5, O6, O7⟩ := O
  have hp := cq_p H
  obtain ⟨g, d1, cs, cw⟩ := c_tell (X := X) (d := d + 9) (a := 2) (w := nI m) hp H4 z hv
  have Cg := CI_sig C0 d1 cs
  have f1 : (nI m < 0) = False := oI_lt0 (by omega)
  have f2 : (7 < nI m) = False := eq_false (nI_nlt (a := 7) (by omega) (by omega))
  refine ⟨⟨O1, O2, O3, Nat.succ_le_of_lt z, O5, tl_ok (by decide) (by omega) hv O6, O7⟩, g, Dsi_hi d1, Cg, fun Q => ?_⟩
  simp only [u174_0, u174_1, u174_4, u174_5, u174_7, u174_10, u174_11, u174_14, u174_15, u174_16, u174_17, u174_20, u174_23, u174_24, eq_self, q_nl0, q_nlI, q_nlR, not_false_eq_true, q_nz0, q_nz1, q_zv0, q_zv1, q_tl1, q_tl0, q_wif, q_swc, q_swn, List.cons_append, List.nil_append, if_true, if_false, e10, e01, Bool.false_eq_true, sh_1, sh_179, f1, f2, p_1_10 hp, cw]
theorem a_untell {X : XT} {d : Nat} {h : HT} {τ : CT} {A : Nat → Int32} {bh ah : Nat} {W : Nat → Nat → Int32} {F : Nat → Bool} {B : Nat → Nat → Int32} {n t : Nat} {S : Nat → Nat → Int32} {L : Nat} {V : Nat → Nat} {xx yy : Int32} {m : Nat} (C : CI h (τ, A, bh, ah, W, F, B, n, t, S, L, V, xx, yy)) (O : OKs (τ, A, bh, ah, W, F, B, n, t, S, L, V, xx, yy)) (hm : m < n) (e : S 4 m = -1) : Ac X (d + 10) 175 [some (.ref 1), some (.int (nI m))] h (1) (τ, A, bh, ah, W, F, B, n, t, (fun j i => if j = 4 ∧ i = m then nI t else S j i), L, V, xx, yy) := by
  have C0 := C
  obtain ⟨⟨T, H, H1'⟩, ⟨o, HA⟩, H3, H4, H5, H6⟩ := C
  have O0 := O
  obtain ⟨O1, O2, O3, O4, O5, O6, O7⟩ := O
  have hp := cq_p H
  have f1 : (nI m < 0) = False := oI_lt0 (by omega)
  have f2 : (nI m < nI n) = True := eq_true (nI_lt hm (by omega))
  have f3 : (nI m < 30) = True := eq_true (nI_lt (b := 30) (by omega) (by omega))
  have e3 : m_in (nI m) 30 = true := q_in (by omega) (by decide)
  have e4 : (nI m).toNatClampNeg = m := q_cl (by omega)
  have c4 : m_gI h 184 m = S 4 m := H4.2.2 m hm 4 (by decide)
  have d1 : Dsi h (m_sI h 184 m (nI t)) := ⟨fun _ _ => rfl, fun c k z1 z2 => by rw [gI_sI, if_neg (by omega)]⟩
  have cs : CSig (m_sI h 184 m (nI t)) n t (fun j i => if j = 4 ∧ i = m then nI t else S j i) := by
    refine ⟨?_, ?_, fun i hi j hj => ?_⟩
    · rw [gI_sI, if_neg (by omega)]
      exact H4.1
    · rw [gI_sI, if_neg (by omega)]
      exact H4.2.1
    · rw [gI_sI]
      by_cases z : j = 4 ∧ i = m
      · rw [if_pos (by omega)]
        exact (if_pos z).symm
      · rw [if_neg (by omega)]
        exact (H4.2.2 i hi j hj).trans (if_neg z).symm
  have Cg := CI_sig C0 d1 cs
  have c6 : m_gI h 179 6 = nI t := H4.2.1
  generalize hg : m_sI h 184 m (nI t) = g at d1 cs Cg
  have hpg : Ptr g := Ptr_of hp d1.1
  refine ⟨⟨O1, O2, O3, O4, O5, fun i hi => ?_, O7⟩, g, Dsi_hi d1, Cg, fun Q => ?_⟩
  · have := O6 i hi
    refine ⟨by simpa using this.1, by simpa using this.2.1, by simpa using this.2.2.1, ?_⟩
    show (if 4 = 4 ∧ i = m then nI t else S 4 i) = -1 ∨ ∃ u, u < 2 ^ 31 ∧ (if 4 = 4 ∧ i = m then nI t else S 4 i) = nI u
    by_cases z : i = m
    · rw [if_pos ⟨rfl, z⟩]
      exact Or.inr ⟨t, by omega, rfl⟩
    · rw [if_neg (fun w => z w.2)]
      exact this.2.2.2
  · simp only [u175_0, u175_1, u175_4, u175_5, u175_8, u176_0, u176_1, u176_4, u176_5, u176_6, u176_9, u176_12, u176_13, u176_15, u176_18, u176_19, u176_22, u176_23, u176_24, u176_25, u176_28, u176_29, u176_30, u176_31, u176_34, u176_35, u176_36, u176_39, u176_40, u176_41, eq_self, q_nl0, q_nlI, q_nlR, not_false_eq_true, q_nz0, q_nz1, q_zv0, q_zv1, q_tl1, q_tl0, q_wif, q_swc, q_swn, List.cons_append, List.nil_append, if_true, if_false, e10, e01, Bool.false_eq_true, sh_1, sh_179, sh_184, p_1_10 hp, f1, H4.1, f2, f3, p_179_4 hp, e3, e4, c4, e, c6, hg]
theorem a_later {X : XT} {d : Nat} {h : HT} {τ : CT} {A : Nat → Int32} {bh ah : Nat} {W : Nat → Nat → Int32} {F : Nat → Bool} {B : Nat → Nat → Int32} {n t : Nat} {S : Nat → Nat → Int32} {L : Nat} {V : Nat → Nat} {xx yy : Int32} {m : Nat} (C : CI h (τ, A, bh, ah, W, F, B, n, t, S, L, V, xx, yy)) (O : OKs (τ, A, bh, ah, W, F, B, n, t, S, L, V, xx, yy)) (hm : m < 1001) (z : ¬ 100000 < t + m) : Ac X (d + 10) 177 [some (.ref 1), some (.int (nI m))] h (nI (t + m)) (τ, A, bh, ah, W, F, B, n, t + m, S, L, V, xx, yy) := by
  have C0 := C
  obtain ⟨⟨T, H, H1'⟩, ⟨o, HA⟩, H3, H4, H5, H6⟩ := C
  have O0 := O
  obtain ⟨O1, O2, O3, O4, O5, O6, O7⟩ := O
  have hp := cq_p H
  have hx := ix_k1 (x := nI m) (k := 1001) (by decide) (by decide)
  rw [show nI (1001 - 1) = 1000 from rfl] at hx
  have ix : ixB (nI m) 1001 = true := ixB_in hm (by decide)
  have f1 : (nI m < 0) = False := oI_lt0 (by omega)
  have f2 : (1000 < nI m) = False := eq_false (nI_nlt (a := 1000) (by omega) (by omega))
  have f3 : (100000 < nI (t + m)) = (100000 < t + m) := nI_ltB (a := 100000) (by omega) (by omega)
  have d1 : Dsi h (m_sI h 179 6 (nI (t + m))) := ⟨fun _ _ => rfl, fun c k z1 z2 => by rw [gI_sI, if_neg (by omega)]⟩
  have cs : CSig (m_sI h 179 6 (nI (t + m))) n (t + m) S := by
    refine ⟨?_, ?_, fun i hi j hj => ?_⟩
    · rw [gI_sI, if_neg (by omega)]
      exact H4.1
    · rw [gI_sI, if_pos ⟨rfl, rfl⟩]
    · rw [gI_sI, if_neg (by omega)]
      exact H4.2.2 i hi j hj
  have Cg := CI_sig C0 d1 cs
  have c6 : m_gI h 179 6 = nI t := H4.2.1
  have r6 : m_gI (m_sI h 179 6 (nI (t + m))) 179 6 = nI (t + m) := cs.2.1
  have hpg : Ptr (m_sI h 179 6 (nI (t + m))) := hp
  refine ⟨⟨O1, O2, O3, O4, Nat.le_of_not_lt z, O6, O7⟩, m_sI h 179 6 (nI (t + m)), Dsi_hi d1, Cg, fun Q => ?_⟩
  simp only [u177_0, u177_1, u177_4, u177_5, u177_8, u177_11, u177_12, u177_15, u177_18, u177_19, u177_20, u177_23, u177_26, u177_27, u177_28, u177_29, u177_32, u177_33, u177_36, u177_37, u177_38, u177_41, u177_42, u177_45, u177_48, eq_self, q_nl0, q_nlI, q_nlR, not_false_eq_true, q_nz0, q_nz1, q_zv0, q_zv1, q_tl1, q_tl0, q_wif, q_swc, q_swn, List.cons_append, List.nil_append, if_true, if_false, e10, e01, Bool.false_eq_true, sh_1, sh_179, f1, f2, gR_sI, p_1_10 hp, c6, nI_add, f3, eq_false z, r6]
theorem a_fits {X : XT} {d T N n t : Nat} {h : HT} {τ : CT} {A : Nat → Int32} {S : Nat → Nat → Int32} {k : Int32} (H : CQ h T τ N A) (C : CSig h n t S) (hn : n ≤ 30) (O : ∀ i, i < n → sOk S i) : An X (d + 10) 178 [some (.ref 1), some (.int k)] h (nI (fcN τ S k n)) := by
  have hp := cq_p H
  obtain ⟨g, a1, a2, a3, a4⟩ := c_fits (X := X) (d := d + 6) (k := k) H C hn O
  refine ⟨g, a1, fun Q => ?_⟩
  simp only [u178_0, u178_1, u178_4, u178_5, u178_8, u178_9, eq_self, q_nl0, q_nlI, q_nlR, not_false_eq_true, q_nz0, q_nz1, q_zv0, q_zv1, q_tl1, q_tl0, q_wif, q_swc, q_swn, List.cons_append, List.nil_append, if_true, if_false, e10, e01, Bool.false_eq_true, sh_1, sh_179, p_1_10 hp, cq_T H, a4]
  simp only [u178_12, u178_13, u178_16, u178_19, eq_self, q_nl0, q_nlI, q_nlR, not_false_eq_true, q_nz0, q_nz1, q_zv0, q_zv1, q_tl1, q_tl0, q_wif, q_swc, q_swn, List.cons_append, List.nil_append, if_true, if_false, e10, e01, Bool.false_eq_true, sh_1, sh_179, p_1_10 (Same_p a1 hp), a2]
theorem a_ask1 {X : XT} {d T N n t : Nat} {h : HT} {τ : CT} {A : Nat → Int32} {S : Nat → Nat → Int32} {k : Int32} {w : Int32} (H : CQ h T τ N A) (C : CSig h n t S) (hn : n ≤ 30) (O : ∀ i, i < n → sOk S i) (w1 : w = 1) : ∃ v, (v = -1 ∨ ∃ q, q < τ 0 1 ∧ v = nI (lfN τ S k n q)) ∧ An X (d + 10) 183 [some (.ref 1), some (.int w), some (.int k), none, none] h (v) := by
  have hp := cq_p H
  have h7 := o_mn (cq_k H)
  have h8 := p2_7 h7
  have l1 : fcN τ S k n ≤ 2 ^ τ 0 1 := fc_le _
  have l2 : ∀ m, foN τ S k n m ≤ fcN τ S k n := fun m => fo_le _
  have l3 : ∀ m, lfN τ S k n m ≤ fcN τ S k n := fun m => by
    have := l2 m
    unfold lfN
    split <;> omega
  have z1 : (nI (fcN τ S k n) = 0) = (fcN τ S k n = 0) := nI_eqB (b := 0) (by omega) (by omega)
  have hlt := fO_lt (bvS_o (p := fun _ => true) (V := fun _ => 0) (C := lfN τ S k n))
  have hes : ∀ i, asF τ S k n (i + 1) = bvM (fun _ => 0) (lfN τ S k n) i (asF τ S k n i) := fun i => by
    show (if true = true then bvM (fun _ => 0) (lfN τ S k n) i (asF τ S k n i) else asF τ S k n i) = _
    exact if_pos rfl
  have hbv : ∀ i q, bvM (fun _ => 0) (lfN τ S k n) i (some q) = if lfN τ S k n i < lfN τ S k n q then some i else some q := fun i q => by
    show (if 0 < 0 then some i else if 0 = 0 then if lfN τ S k n i < lfN τ S k n q then some i else some q else some q) = _
    rw [if_neg (by decide), if_pos rfl]
  -- the class from its days on
  have cl : ∃ g, Same h g ∧ (fcN τ S k n = 0 → ∀ Q : QT, wq X (d + 10) 183 11 [some (.ref 1), some (.int w), some (.int k), none, none] [] h Q = Q (some (.int (-1))) g) ∧ (fcN τ S k n ≠ 0 → ∃ l4, ∀ Q : QT, wq X (d + 10) 183 11 [some (.ref 1), some (.int w), some (.int k), none, none] [] h Q = wq X (d + 10) 183 109 [some (.ref 1), some (.int w), some (.int k), some (.int (nI (τ 0 1))), l4] [] (hP g (bvP (fun _ => 0) (lfN τ S k n) (asF τ S k n (τ 0 1)))) Q) := by
    obtain ⟨g, a1, a2, a3, a4⟩ := c_fits (X := X) (d := d + 6) (k := k) H C hn O
    have pg := Same_p a1 hp
    have Cg := CQ_same a1 H
    refine ⟨g, a1, fun z Q => ?_, fun z => ?_⟩
    · simp only [u183_11, u183_12, u183_15, u183_16, u183_19, u183_20, eq_self, q_nl0, q_nlI, q_nlR, not_false_eq_true, q_nz0, q_nz1, q_zv0, q_zv1, q_tl1, q_tl0, q_wif, q_swc, q_swn, List.cons_append, List.nil_append, if_true, if_false, e10, e01, Bool.false_eq_true, sh_1, sh_179, p_1_10 hp, cq_T H, a4]
      simp only [u183_23, u183_24, u183_27, u183_30, u183_33, u183_34, eq_self, q_nl0, q_nlI, q_nlR, not_false_eq_true, q_nz0, q_nz1, q_zv0, q_zv1, q_tl1, q_tl0, q_wif, q_swc, q_swn, List.cons_append, List.nil_append, if_true, if_false, e10, e01, Bool.false_eq_true, sh_1, sh_179, p_1_10 pg, a2, z1, eq_true z]
    · obtain ⟨l4, l4e⟩ : ∃ l4 : Option Value, True := ⟨none, trivial⟩
      obtain ⟨l', _, e⟩ := q_loopI (fun i (l4 : Option Value) (Q : QT) => wq X (d + 10) 183 44 [some (.ref 1), some (.int w), some (.int k), some (.int (nI i)), l4] [] (hP g (bvP (fun _ => 0) (lfN τ S k n) (asF τ S k n i))) Q) (fun _ _ => True) (τ 0 1) (by
        intro i hi l4 _
        refine ⟨some (.int (nI (lfN τ S k n i))), trivial, funext fun Q => ?_⟩
        have hl : ∀ q, asF τ S k n i = some q → q < i := hlt i
        rw [hes]
        generalize asF τ S k n i = o at hl ⊢
        have C' : ∀ p, CQ (hP g p) T τ N A := fun p => CQ_same Same_hP Cg
        have f1 : (nI i < nI (τ 0 1)) = True := eq_true (nI_lt hi (by omega))
        have f2 : (nI i < 7) = True := eq_true (nI_lt (b := 7) (by omega) (by omega))
        have e3 : m_in (nI i) 7 = true := q_in (by omega) (by decide)
        have e4 : (nI i).toNatClampNeg = i := q_cl (by omega)
        have gf : ∀ p, m_gI (hP g p) 179 7 = nI (fcN τ S k n) := fun p => (gI_hP (by decide)).trans a2
        have go : ∀ p, m_gI (hP g p) 185 i = nI (foN τ S k n i) := fun p => (gI_hP (by decide)).trans (a3 i (by omega))
        have li := l2 i
        have es : nI (fcN τ S k n) - nI (foN τ S k n i) = nI (fcN τ S k n - foN τ S k n i) := pk_sub li
        have em : (if nI (foN τ S k n i) < nI (fcN τ S k n - foN τ S k n i) then nI (fcN τ S k n - foN τ S k n i) else nI (foN τ S k n i)) = nI (lfN τ S k n i) := by
          unfold lfN
          simp only [nI_ltB (show foN τ S k n i < 2 ^ 31 by omega) (show fcN τ S k n - foN τ S k n i < 2 ^ 31 by omega)]
          by_cases y1 : foN τ S k n i < fcN τ S k n - foN τ S k n i
          · rw [if_pos y1, if_neg (by omega)]
          · rw [if_neg y1]
            by_cases y2 : fcN τ S k n - foN τ S k n i < foN τ S k n i
            · rw [if_pos y2]
            · rw [if_neg y2, show fcN τ S k n - foN τ S k n i = foN τ S k n i by omega]
        have em2 : (if nI (fcN τ S k n - foN τ S k n i) < nI (foN τ S k n i) then nI (foN τ S k n i) else nI (fcN τ S k n - foN τ S k n i)) = nI (lfN τ S k n i) := by
          unfold lfN
          simp only [nI_ltB (show fcN τ S k n - foN τ S k n i < 2 ^ 31 by omega) (show foN τ S k n i < 2 ^ 31 by omega)]
          split <;> rfl
        have tk := bvP_take (V := fun _ => 0) (C := lfN τ S k n) (i := i) (fun _ => by decide) (fun j _ => by have := l3 j; omega) (by omega) o (fun q hq => by have := hl q hq; omega)
        have tk' : pTake (bvP (fun _ => 0) (lfN τ S k n) o) (nI i) 0 (nI (lfN τ S k n i)) = bvP (fun _ => 0) (lfN τ S k n) (bvM (fun _ => 0) (lfN τ S k n) i o) := tk
        rw [u183_44]
        simp only [u183_45, u183_46, u183_49, u183_52, u183_55, u183_56, u183_58, u183_61, u183_62, u183_65, u183_68, u183_69, u183_70, u183_71, u183_74, u183_77, u183_78, u183_81, u183_84, u183_85, u183_86, u183_87, u183_90, u183_92, u183_93, u183_96, u183_97, u183_98, u183_100, u183_103, u183_106, eq_self, q_nl0, q_nlI, q_nlR, not_false_eq_true, q_nz0, q_nz1, q_zv0, q_zv1, q_tl1, q_tl0, q_wif, q_swc, q_swn, List.cons_append, List.nil_append, if_true, if_false, e10, e01, Bool.false_eq_true, sh_1, sh_178, sh_179, sh_185, shT_0 (ct_T (cq_t H)), cq_T (C' _), ct_mn (cq_t (C' _)), f1, f2, p_1_10 (cq_p (C' _)), p_179_8 (cq_p (C' _)), e3, e4, go, gf, es, em, em2, p_1_9 (cq_p (C' _)), c_take, tk', nI_1]) none trivial
      refine ⟨l', fun Q => ?_⟩
      have C' : ∀ p, CQ (hP g p) T τ N A := fun p => CQ_same Same_hP Cg
      simp only [u183_11, u183_12, u183_15, u183_16, u183_19, u183_20, eq_self, q_nl0, q_nlI, q_nlR, not_false_eq_true, q_nz0, q_nz1, q_zv0, q_zv1, q_tl1, q_tl0, q_wif, q_swc, q_swn, List.cons_append, List.nil_append, if_true, if_false, e10, e01, Bool.false_eq_true, sh_1, sh_179, p_1_10 hp, cq_T H, a4]
      simp only [u183_23, u183_24, u183_27, u183_30, u183_33, u183_34, u183_35, u183_36, u183_39, u183_42, u183_43, eq_self, q_nl0, q_nlI, q_nlR, not_false_eq_true, q_nz0, q_nz1, q_zv0, q_zv1, q_tl1, q_tl0, q_wif, q_swc, q_swn, List.cons_append, List.nil_append, if_true, if_false, e10, e01, Bool.false_eq_true, sh_1, sh_178, sh_179, p_1_10 pg, a2, z1, eq_false z, p_1_9 pg, c_pClear]
      refine (congrFun e Q).trans ?_
      rw [u183_44]
      simp only [u183_45, u183_46, u183_49, u183_52, eq_self, q_nl0, q_nlI, q_nlR, not_false_eq_true, q_nz0, q_nz1, q_zv0, q_zv1, q_tl1, q_tl0, q_wif, q_swc, q_swn, List.cons_append, List.nil_append, if_true, if_false, e10, e01, Bool.false_eq_true, sh_1, shT_0 (ct_T (cq_t H)), cq_T (C' _), ct_mn (cq_t (C' _)), eq_false (nI_nlt (Nat.le_refl (τ 0 1)) (by omega))]
  -- the model
  obtain ⟨gc, c1, c2, c3⟩ := cl
  have w3 := w01 w
  have wz : w = 0 ∨ w = 1 := Or.inr w1
  have w0 : ¬ w = 0 := by rw [w1]; decide
  have cst : ∀ Q : QT, wq X (d + 10) 183 0 [some (.ref 1), some (.int w), some (.int k), none, none] [] h Q = wq X (d + 10) 183 11 [some (.ref 1), some (.int w), some (.int k), none, none] [] h Q := by
    intro Q
    rcases wz with e | e
    · simp only [u183_0, u183_1, u183_4, u183_5, u183_6, eq_self, q_nl0, q_nlI, q_nlR, not_false_eq_true, q_nz0, q_nz1, q_zv0, q_zv1, q_tl1, q_tl0, q_wif, q_swc, q_swn, List.cons_append, List.nil_append, if_true, if_false, e10, e01, Bool.false_eq_true, eq_true e]
    · by_cases e0 : w = 0
      · simp only [u183_0, u183_1, u183_4, u183_5, u183_6, eq_self, q_nl0, q_nlI, q_nlR, not_false_eq_true, q_nz0, q_nz1, q_zv0, q_zv1, q_tl1, q_tl0, q_wif, q_swc, q_swn, List.cons_append, List.nil_append, if_true, if_false, e10, e01, Bool.false_eq_true, eq_true e0]
      · simp only [u183_0, u183_1, u183_4, u183_5, u183_6, eq_self, q_nl0, q_nlI, q_nlR, not_false_eq_true, q_nz0, q_nz1, q_zv0, q_zv1, q_tl1, q_tl0, q_wif, q_swc, q_swn, List.cons_append, List.nil_append, if_true, if_false, e10, e01, Bool.false_eq_true, eq_false e0, eq_true e]
  have wi : (if w < 0 then (0 : Int32) else if 1 < w then 0 else 1) = 1 := by
    rcases w3 with ⟨_, q⟩ | ⟨_, _, q⟩ | ⟨q1, q2, _⟩
    · exact q
    · exact q
    · rcases wz with e | e
      · exact absurd e q1
      · exact absurd e q2
  by_cases z : fcN τ S k n = 0
  · refine ⟨-1, Or.inl rfl, gc, c1, fun Q => ?_⟩
    rw [cst, c2 z]
  · obtain ⟨l4, ec⟩ := c3 z
    have pg : m_gR gc 1 9 = 178 := p_1_9 (Same_p c1 hp)
    have hl : ∀ q, asF τ S k n (τ 0 1) = some q → q < τ 0 1 := hlt _
    cases hb : asF τ S k n (τ 0 1) with
    | none =>
      rw [hb] at ec
      refine ⟨-1, Or.inl rfl, hP gc (bvP (fun _ => 0) (lfN τ S k n) none), Same_tr c1 Same_hP, fun Q => ?_⟩
      rw [cst, ec]
      simp only [u183_109, u183_110, u183_113, u183_116, u183_119, u183_120, eq_self, q_nl0, q_nlI, q_nlR, not_false_eq_true, q_nz0, q_nz1, q_zv0, q_zv1, q_tl1, q_tl0, q_wif, q_swc, q_swn, List.cons_append, List.nil_append, if_true, if_false, e10, e01, Bool.false_eq_true, sh_1, sh_178, gR_hP, pg, gI_hP0, bvP]
    | some q =>
      have hq := hl q hb
      rw [hb] at ec
      refine ⟨if w = 0 then nI q else nI (lfN τ S k n q), Or.inr ⟨q, hq, if_neg w0⟩, hP gc (bvP (fun _ => 0) (lfN τ S k n) (some q)), Same_tr c1 Same_hP, fun Q => ?_⟩
      rw [cst, ec]
      simp only [u183_109, u183_110, u183_113, u183_116, u183_119, u183_120, u183_121, u183_122, u183_125, u183_126, u183_129, u183_132, u183_135, u183_136, u183_139, u183_142, eq_self, q_nl0, q_nlI, q_nlR, not_false_eq_true, q_nz0, q_nz1, q_zv0, q_zv1, q_tl1, q_tl0, q_wif, q_swc, q_swn, List.cons_append, List.nil_append, if_true, if_false, e10, e01, Bool.false_eq_true, sh_1, sh_178, gR_hP, pg, gI_hP0, gI_hP2, gI_hP3, bvP]
      split <;> rfl
