theorem a_offer0 {X : XT} {d T N : Nat} {h : HT} {τ : CT} {A : Nat → Int32} {n gr : Nat} {w : Int32} (H : CQ h T τ N A) (hg' : gr < 2 ^ τ 0 2) (eg : A 15 = nI gr) (hn : n < 60) (w0 : w = 0) : ∃ q, ofF τ gr (ofM τ A n) (2 ^ τ 0 2) = some q ∧ An X (d + 10) 166 [some (.ref 1), some (.int (nI n)), some (.int w)] h (nI (smN τ 8 q)) := by
  have hp := cq_p H
  have hk := cq_k H
  have h5 := o_dm hk
  have hg := aGr_128 hk hg'
  have h01 : 0 < 2 ^ τ 0 2 := Nat.two_pow_pos _
  have hx := ix_k1 (x := nI n) (k := 60) (by decide) (by decide)
  have hw := ix_k1 (x := w) (k := 3) (by decide) (by decide)
  rw [show nI (60 - 1) = 59 from rfl] at hx
  rw [show nI (3 - 1) = 2 from rfl] at hw
  have ix : ixB (nI n) 60 = true := ixB_in hn (by decide)
  rw [ix, if_pos rfl] at hx
  have ew : w = nI 0 := w0
  have hu : 0 < 3 := by decide
  have iw : ixB w 3 = true := by rw [ew]; exact ixB_in hu (by decide)
  rw [iw, if_pos rfl] at hw
  have hx0 : (nI n < 0) = False := oI_lt0 (by omega)
  have hx1 : (nI n < 60) = True := eq_true (nI_lt (b := 60) hn (by decide))
  have hw0 : (w < 0) = False := by rw [ew]; exact oI_lt0 (by omega)
  have hw1 : (2 < w) = False := by rw [ew]; exact eq_false (nI_nlt (a := 2) (by omega) (by omega))
  obtain ⟨q, hq⟩ := of_some (τ := τ) (g := gr) (M := ofM τ A n) (2 ^ τ 0 2) h01
  have hM : ofM τ A n < 2 ^ 31 := by
    have hE := ofE_ge (τ := τ) (A := A) (show n ≤ 60 by omega)
    have := aCs_le (A := A) hk (ofE τ A n)
    unfold ofM
    omega
  have cl : ∃ g, Same h (hP g (bvP (smN τ 8) (smN τ 7) (some q))) ∧ ∀ Q : QT, wq X (d + 10) 166 0 [some (.ref 1), some (.int (nI n)), some (.int w)] [] h Q = wq X (d + 10) 166 50 [some (.ref 1), some (.int (nI n)), some (.int w)] [] (hP g (bvP (smN τ 8) (smN τ 7) (some q))) Q := by
    obtain ⟨g, a1, a2, a3⟩ := c_look (X := X) (d := d + 4) H (Nat.le_refl 60)
    have C := CQ_same a1 H
    have a3' : ∀ Q : QT, wq X (d + 9) 104 0 [some (.ref 171), some (.ref T), some (.ref 38), some (.int 60), none, none] [] h Q = Q none g := a3
    refine ⟨g, Same_tr a1 Same_hP, fun Q => ?_⟩
    simp only [u166_0, u166_1, u166_4, u166_5, u166_7, u166_10, u166_11, u166_14, u166_15, u166_16, u166_19, u166_20, u166_21, u166_22, u166_25, u166_26, u166_29, u166_30, u166_33, u166_35, eq_self, q_nl0, q_nlI, q_nlR, not_false_eq_true, q_nz0, q_nz1, q_zv0, q_zv1, q_tl1, q_tl0, q_wif, q_swc, q_swn, List.cons_append, List.nil_append, if_true, if_false, e10, e01, Bool.false_eq_true, sh_1, sh_171, hx0, hx1, hw0, hw1, p_1_8 hp, cq_T H, p_1_3 hp, a3']
    simp only [u166_38, u166_39, u166_40, u166_43, u166_44, u166_47, eq_self, q_nl0, q_nlI, q_nlR, not_false_eq_true, q_nz0, q_nz1, q_zv0, q_zv1, q_tl1, q_tl0, q_wif, q_swc, q_swn, List.cons_append, List.nil_append, if_true, if_false, e10, e01, Bool.false_eq_true, sh_1, sh_171, p_1_8 (cq_p C), c_lostFrom (cq_p C) hk (cq_a H) a2 (show n ≤ 60 by omega), c_pickOffer C hg eg hM hq]
  obtain ⟨gc, gc1, ec⟩ := cl
  have pg : m_gR gc 1 9 = 178 := by
    have := p_1_9 (Same_p gc1 hp)
    exact this
  refine ⟨q, hq, ?_⟩
  refine ⟨_, gc1, fun Q => ?_⟩
  rw [ec]
  simp only [u166_50, u166_51, u166_76, u166_77, u166_80, u166_83, u166_84, u166_85, u166_88, u166_91, u166_92, u166_93, u166_96, u166_99, eq_self, q_nl0, q_nlI, q_nlR, not_false_eq_true, q_nz0, q_nz1, q_zv0, q_zv1, q_tl1, q_tl0, q_wif, q_swc, q_swn, List.cons_append, List.nil_append, if_true, if_false, e10, e01, Bool.false_eq_true, sh_1, sh_178, q_t0, eq_true w0, gR_hP, pg, gI_hP1, bvP]
theorem a_offer1 {X : XT} {d T N : Nat} {h : HT} {τ : CT} {A : Nat → Int32} {n gr : Nat} {w : Int32} (H : CQ h T τ N A) (hg' : gr < 2 ^ τ 0 2) (eg : A 15 = nI gr) (hn : n < 60) (w1 : w = 1) : ∃ q, ofF τ gr (ofM τ A n) (2 ^ τ 0 2) = some q ∧ An X (d + 10) 166 [some (.ref 1), some (.int (nI n)), some (.int w)] h (nI (smN τ 7 q)) := by
  have w0 : ¬ w = 0 := by rw [w1]; decide
  have hp := cq_p H
  have hk := cq_k H
  have h5 := o_dm hk
  have hg := aGr_128 hk hg'
  have h01 : 0 < 2 ^ τ 0 2 := Nat.two_pow_pos _
  have hx := ix_k1 (x := nI n) (k := 60) (by decide) (by decide)
  have hw := ix_k1 (x := w) (k := 3) (by decide) (by decide)
  rw [show nI (60 - 1) = 59 from rfl] at hx
  rw [show nI (3 - 1) = 2 from rfl] at hw
  have ix : ixB (nI n) 60 = true := ixB_in hn (by decide)
  rw [ix, if_pos rfl] at hx
  have ew : w = nI 1 := w1
  have hu : 1 < 3 := by decide
  have iw : ixB w 3 = true := by rw [ew]; exact ixB_in hu (by decide)
  rw [iw, if_pos rfl] at hw
  have hx0 : (nI n < 0) = False := oI_lt0 (by omega)
  have hx1 : (nI n < 60) = True := eq_true (nI_lt (b := 60) hn (by decide))
  have hw0 : (w < 0) = False := by rw [ew]; exact oI_lt0 (by omega)
  have hw1 : (2 < w) = False := by rw [ew]; exact eq_false (nI_nlt (a := 2) (by omega) (by omega))
  obtain ⟨q, hq⟩ := of_some (τ := τ) (g := gr) (M := ofM τ A n) (2 ^ τ 0 2) h01
  have hM : ofM τ A n < 2 ^ 31 := by
    have hE := ofE_ge (τ := τ) (A := A) (show n ≤ 60 by omega)
    have := aCs_le (A := A) hk (ofE τ A n)
    unfold ofM
    omega
  have cl : ∃ g, Same h (hP g (bvP (smN τ 8) (smN τ 7) (some q))) ∧ ∀ Q : QT, wq X (d + 10) 166 0 [some (.ref 1), some (.int (nI n)), some (.int w)] [] h Q = wq X (d + 10) 166 50 [some (.ref 1), some (.int (nI n)), some (.int w)] [] (hP g (bvP (smN τ 8) (smN τ 7) (some q))) Q := by
    obtain ⟨g, a1, a2, a3⟩ := c_look (X := X) (d := d + 4) H (Nat.le_refl 60)
    have C := CQ_same a1 H
    have a3' : ∀ Q : QT, wq X (d + 9) 104 0 [some (.ref 171), some (.ref T), some (.ref 38), some (.int 60), none, none] [] h Q = Q none g := a3
    refine ⟨g, Same_tr a1 Same_hP, fun Q => ?_⟩
    simp only [u166_0, u166_1, u166_4, u166_5, u166_7, u166_10, u166_11, u166_14, u166_15, u166_16, u166_19, u166_20, u166_21, u166_22, u166_25, u166_26, u166_29, u166_30, u166_33, u166_35, eq_self, q_nl0, q_nlI, q_nlR, not_false_eq_true, q_nz0, q_nz1, q_zv0, q_zv1, q_tl1, q_tl0, q_wif, q_swc, q_swn, List.cons_append, List.nil_append, if_true, if_false, e10, e01, Bool.false_eq_true, sh_1, sh_171, hx0, hx1, hw0, hw1, p_1_8 hp, cq_T H, p_1_3 hp, a3']
    simp only [u166_38, u166_39, u166_40, u166_43, u166_44, u166_47, eq_self, q_nl0, q_nlI, q_nlR, not_false_eq_true, q_nz0, q_nz1, q_zv0, q_zv1, q_tl1, q_tl0, q_wif, q_swc, q_swn, List.cons_append, List.nil_append, if_true, if_false, e10, e01, Bool.false_eq_true, sh_1, sh_171, p_1_8 (cq_p C), c_lostFrom (cq_p C) hk (cq_a H) a2 (show n ≤ 60 by omega), c_pickOffer C hg eg hM hq]
  obtain ⟨gc, gc1, ec⟩ := cl
  have pg : m_gR gc 1 9 = 178 := by
    have := p_1_9 (Same_p gc1 hp)
    exact this
  refine ⟨q, hq, ?_⟩
  refine ⟨_, gc1, fun Q => ?_⟩
  rw [ec]
  simp only [u166_50, u166_51, u166_76, u166_77, u166_80, u166_83, u166_84, u166_85, u166_88, u166_91, u166_92, u166_93, u166_96, u166_99, eq_self, q_nl0, q_nlI, q_nlR, not_false_eq_true, q_nz0, q_nz1, q_zv0, q_zv1, q_tl1, q_tl0, q_wif, q_swc, q_swn, List.cons_append, List.nil_append, if_true, if_false, e10, e01, Bool.false_eq_true, sh_1, sh_178, q_t0, q_t1, eq_false w0, eq_true w1, gR_hP, pg, gI_hP2, bvP]
theorem a_until {X : XT} {d T N : Nat} {h : HT} {τ : CT} {A : Nat → Int32} {gr : Nat} {x : Int32} (H : CQ h T τ N A) (hg' : gr < 2 ^ τ 0 2) (eg : A 15 = nI gr) : An X (d + 10) 169 [some (.ref 1), some (.int x), none] h (oI (unO τ A gr x 60)) := by
  have hp := cq_p H
  have hk := cq_k H
  have h5 := o_dm hk
  have hg := aGr_128 hk hg'
  have h01 : 0 < 2 ^ τ 0 2 := Nat.two_pow_pos _
  have hMM : ∀ n, n ≤ 60 → ofM τ A n < 2 ^ 31 := fun n hn => by
    have hE := ofE_ge (τ := τ) (A := A) hn
    have := aCs_le (A := A) hk (ofE τ A n)
    unfold ofM
    omega
  obtain ⟨g, a1, a2, a3⟩ := c_look (X := X) (d := d + 4) H (Nat.le_refl 60)
  have a3' : ∀ Q : QT, wq X (d + 9) 104 0 [some (.ref 171), some (.ref T), some (.ref 38), some (.int 60), none, none] [] h Q = Q none g := a3
  have C := CQ_same a1 H
  have lp : ∀ k o, k ≤ 60 → ∃ o', ∀ Q : QT, wq X (d + 10) 169 20 [some (.ref 1), some (.int x), some (.int (nI k - 1))] [] (hP g o) Q = Q (some (.int (oI (unO τ A gr x k)))) (hP g o') := by
    intro k
    induction k with
    | zero =>
      intro o _
      refine ⟨o, fun Q => ?_⟩
      simp only [u169_20, u169_21, u169_55, u169_56, eq_self, q_nl0, q_nlI, q_nlR, not_false_eq_true, q_nz0, q_nz1, q_zv0, q_zv1, q_tl1, q_tl0, q_wif, q_swc, q_swn, List.cons_append, List.nil_append, if_true, if_false, e10, e01, Bool.false_eq_true, show nI 0 - 1 = (-1 : Int32) from rfl, m1_lt0]
      rfl
    | succ k ih =>
      intro o hk2
      obtain ⟨q, hq⟩ := of_some (τ := τ) (g := gr) (M := ofM τ A k) (2 ^ τ 0 2) h01
      have eW : unW τ A gr k = smN τ 8 q := by
        unfold unW
        rw [hq]
      have C2 := CQ_same (Same_hP (o := o)) C
      have nt : Noted τ A 60 (hP g o) := fun j hj => by
        rw [gI_hP (by omega), gI_hP (by omega), gI_hP (by omega)]
        exact a2 j hj
      have pg : ∀ p, m_gR (hP g p) 1 9 = 178 := fun p => p_1_9 (cq_p (CQ_same (Same_hP (o := p)) C))
      obtain ⟨o', e⟩ := ih (bvP (smN τ 8) (smN τ 7) (some q)) (by omega)
      have cp := fun (Q : QT) => c_pickOffer (X := X) (d := d + 7) (Q := Q) C2 hg eg (hMM k (by omega)) hq
      simp only [hP_hP] at cp
      by_cases y : nI (smN τ 8 q) < x
      · refine ⟨o', fun Q => ?_⟩
        have eu : unO τ A gr x (k + 1) = unO τ A gr x k := by
          show (if nI (unW τ A gr k) < x then _ else _) = _
          rw [eW, if_pos y]
        rw [eu, ← e Q, nI_dn, u169_20]
        simp only [u169_21, u169_24, u169_25, u169_26, u169_29, u169_30, u169_33, eq_self, q_nl0, q_nlI, q_nlR, not_false_eq_true, q_nz0, q_nz1, q_zv0, q_zv1, q_tl1, q_tl0, q_wif, q_swc, q_swn, List.cons_append, List.nil_append, if_true, if_false, e10, e01, Bool.false_eq_true, sh_1, sh_171, oI_lt0 (show k < 2 ^ 31 by omega), p_1_8 (cq_p C2), c_lostFrom (cq_p C2) hk (cq_a H) nt (show k ≤ 60 by omega), cp]
        simp only [u169_36, u169_37, u169_40, u169_43, u169_44, u169_47, u169_48, u169_49, u169_52, eq_self, q_nl0, q_nlI, q_nlR, not_false_eq_true, q_nz0, q_nz1, q_zv0, q_zv1, q_tl1, q_tl0, q_wif, q_swc, q_swn, List.cons_append, List.nil_append, if_true, if_false, e10, e01, Bool.false_eq_true, sh_1, sh_178, pg, gI_hP1, bvP, eq_true y]
        rw [Int32.sub_eq_add_neg]
      · refine ⟨bvP (smN τ 8) (smN τ 7) (some q), fun Q => ?_⟩
        have eu : unO τ A gr x (k + 1) = some k := by
          show (if nI (unW τ A gr k) < x then _ else _) = _
          rw [eW, if_neg y]
        rw [eu, nI_dn]
        simp only [u169_20, u169_21, u169_24, u169_25, u169_26, u169_29, u169_30, u169_33, eq_self, q_nl0, q_nlI, q_nlR, not_false_eq_true, q_nz0, q_nz1, q_zv0, q_zv1, q_tl1, q_tl0, q_wif, q_swc, q_swn, List.cons_append, List.nil_append, if_true, if_false, e10, e01, Bool.false_eq_true, sh_1, sh_171, oI_lt0 (show k < 2 ^ 31 by omega), p_1_8 (cq_p C2), c_lostFrom (cq_p C2) hk (cq_a H) nt (show k ≤ 60 by omega), cp]
        simp only [u169_36, u169_37, u169_40, u169_43, u169_44, u169_47, u169_48, u169_49, u169_52, eq_self, q_nl0, q_nlI, q_nlR, not_false_eq_true, q_nz0, q_nz1, q_zv0, q_zv1, q_tl1, q_tl0, q_wif, q_swc, q_swn, List.cons_append, List.nil_append, if_true, if_false, e10, e01, Bool.false_eq_true, sh_1, sh_178, pg, gI_hP1, bvP, eq_false y, oI]
  have hg0 : hP g (some (m_gI g 178 1, m_gI g 178 2, m_gI g 178 3)) = g ∨ True := Or.inr trivial
  -- the first day has no pick laid yet
  obtain ⟨q, hq⟩ := of_some (τ := τ) (g := gr) (M := ofM τ A 59) (2 ^ τ 0 2) h01
  have eW : unW τ A gr 59 = smN τ 8 q := by
    unfold unW
    rw [hq]
  have pg : ∀ p, m_gR (hP g p) 1 9 = 178 := fun p => p_1_9 (cq_p (CQ_same (Same_hP (o := p)) C))
  have cp := fun (Q : QT) => c_pickOffer (X := X) (d := d + 7) (Q := Q) C hg eg (hMM 59 (by omega)) hq
  obtain ⟨o', e⟩ := lp 59 (bvP (smN τ 8) (smN τ 7) (some q)) (by omega)
  have cf := fun (Q : QT) => c_lostFrom (X := X) (d := d + 8) (Q := Q) (n := 59) (cq_p C) hk (cq_a H) a2 (by omega)
  have cf' : ∀ Q : QT, wq X (d + 9) 167 0 [some (.ref 171), some (.int 59), none] [] g Q = Q (some (.int (nI (ofM τ A 59)))) g := cf
  by_cases y : nI (smN τ 8 q) < x
  · refine ⟨hP g o', Same_tr a1 Same_hP, fun Q => ?_⟩
    have eu : unO τ A gr x 60 = unO τ A gr x 59 := by
      show (if nI (unW τ A gr 59) < x then _ else _) = _
      rw [eW, if_pos y]
    rw [eu]
    refine Eq.trans ?_ (e Q)
    generalize hR : wq X (d + 10) 169 20 [some (.ref 1), some (.int x), some (.int (nI 59 - 1))] [] (hP g (bvP (smN τ 8) (smN τ 7) (some q))) Q = R
    simp only [u169_0, u169_1, u169_4, u169_5, u169_8, u169_9, u169_12, u169_14, eq_self, q_nl0, q_nlI, q_nlR, not_false_eq_true, q_nz0, q_nz1, q_zv0, q_zv1, q_tl1, q_tl0, q_wif, q_swc, q_swn, List.cons_append, List.nil_append, if_true, if_false, e10, e01, Bool.false_eq_true, sh_1, sh_171, p_1_8 hp, cq_T H, p_1_3 hp, a3']
    rw [u169_17]
    simp only [u169_19, u169_20, u169_21, u169_24, u169_25, u169_26, u169_29, u169_30, u169_33, eq_self, q_nl0, q_nlI, q_nlR, not_false_eq_true, q_nz0, q_nz1, q_zv0, q_zv1, q_tl1, q_tl0, q_wif, q_swc, q_swn, List.cons_append, List.nil_append, if_true, if_false, e10, e01, Bool.false_eq_true, sh_1, sh_171, eq_false (show ¬ (59 : Int32) < 0 by decide), p_1_8 (cq_p C), cf', cp]
    rw [← hR]
    simp only [u169_36, u169_37, u169_40, u169_43, u169_44, u169_47, u169_48, u169_49, u169_52, eq_self, q_nl0, q_nlI, q_nlR, not_false_eq_true, q_nz0, q_nz1, q_zv0, q_zv1, q_tl1, q_tl0, q_wif, q_swc, q_swn, List.cons_append, List.nil_append, if_true, if_false, e10, e01, Bool.false_eq_true, sh_1, sh_178, pg, gI_hP1, bvP, eq_true y]
    rfl
  · refine ⟨hP g (bvP (smN τ 8) (smN τ 7) (some q)), Same_tr a1 Same_hP, fun Q => ?_⟩
    have eu : unO τ A gr x 60 = some 59 := by
      show (if nI (unW τ A gr 59) < x then _ else _) = _
      rw [eW, if_neg y]
    rw [eu]
    simp only [u169_0, u169_1, u169_4, u169_5, u169_8, u169_9, u169_12, u169_14, eq_self, q_nl0, q_nlI, q_nlR, not_false_eq_true, q_nz0, q_nz1, q_zv0, q_zv1, q_tl1, q_tl0, q_wif, q_swc, q_swn, List.cons_append, List.nil_append, if_true, if_false, e10, e01, Bool.false_eq_true, sh_1, sh_171, p_1_8 hp, cq_T H, p_1_3 hp, a3']
    simp only [u169_17, u169_19, u169_20, u169_21, u169_24, u169_25, u169_26, u169_29, u169_30, u169_33, eq_self, q_nl0, q_nlI, q_nlR, not_false_eq_true, q_nz0, q_nz1, q_zv0, q_zv1, q_tl1, q_tl0, q_wif, q_swc, q_swn, List.cons_append, List.nil_append, if_true, if_false, e10, e01, Bool.false_eq_true, sh_1, sh_171, eq_false (show ¬ (59 : Int32) < 0 by decide), p_1_8 (cq_p C), cf', cp]
    simp only [u169_36, u169_37, u169_40, u169_43, u169_44, u169_47, u169_48, u169_49, u169_52, eq_self, q_nl0, q_nlI, q_nlR, not_false_eq_true, q_nz0, q_nz1, q_zv0, q_zv1, q_tl1, q_tl0, q_wif, q_swc, q_swn, List.cons_append, List.nil_append, if_true, if_false, e10, e01, Bool.false_eq_true, sh_1, sh_178, pg, gI_hP1, bvP, eq_false y, oI]
    rfl
