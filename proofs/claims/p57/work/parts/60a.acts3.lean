theorem a_image {X : XT} {d : Nat} {h : HT} {τ : CT} {A : Nat → Int32} {bh ah : Nat} {W : Nat → Nat → Int32} {F : Nat → Bool} {B : Nat → Nat → Int32} {n t : Nat} {S : Nat → Nat → Int32} {L : Nat} {V : Nat → Nat} {xx yy : Int32} {m : Nat} (C : CI h (τ, A, bh, ah, W, F, B, n, t, S, L, V, xx, yy)) (O : OKs (τ, A, bh, ah, W, F, B, n, t, S, L, V, xx, yy)) (hm : m < 3) : Ac X (d + 10) 184 [some (.ref 1), some (.int (nI m))] h (A 18) (τ, A, bh, ah, W, (fun j => if j = m then true else F j), (fun j => if j = m then A else B j), n, t, S, L, V, xx, yy) := by
  have C0 := C
  obtain ⟨⟨T, H, H1'⟩, ⟨o, HA⟩, H3, H4, H5, H6⟩ := C
  obtain ⟨O1, O2, O3, O4⟩ := O
  have hp := cq_p H
  have hk := cq_k H
  have hx := ix_k1 (x := nI m) (k := 3) (by decide) (by decide)
  rw [show nI (3 - 1) = 2 from rfl] at hx
  have ix : ixB (nI m) 3 = true := ixB_in hm (by decide)
  have e0 : (nI m < 0) = False := oI_lt0 (by omega)
  have e1 : (nI m < 3) = True := eq_true (nI_lt (b := 3) hm (by omega))
  have e3 : m_in (nI m) 3 = true := q_in hm (by decide)
  have e4 : (nI m).toNatClampNeg = m := q_cl (by omega)
  have bS := isS_box m hm
  have s0 : (m_sh (KS X) (186 + 3 * m)).1 = 7 := by rw [shS_0 bS]
  have cc := fun (Q : QT) => c_copy (X := X) (d := d + 9) (h := h) (Q := Q) bS is38 (by omega) hp
  have Rb : Rep τ (rCopy (gS h (186 + 3 * m)) (gS h 38)) A := Rep_copy hk (cq_r H)
  have q1 : ∀ c k, c < 186 + 3 * m ∨ 186 + 3 * m + 3 ≤ c → m_gI (pS h (186 + 3 * m) (rCopy (gS h (186 + 3 * m)) (gS h 38))) c k = m_gI h c k := fun c k z => gI_pSo z
  have q2 : gS (pS h (186 + 3 * m) (rCopy (gS h (186 + 3 * m)) (gS h 38))) (186 + 3 * m) = rCopy (gS h (186 + 3 * m)) (gS h 38) := gS_pS
  have q3 : ∀ c k, m_gR (pS h (186 + 3 * m) (rCopy (gS h (186 + 3 * m)) (gS h 38))) c k = m_gR h c k := fun c k => rfl
  generalize pS h (186 + 3 * m) (rCopy (gS h (186 + 3 * m)) (gS h 38)) = h1 at cc q1 q2 q3
  have r1 : ∀ c k, m_gR (m_sI h1 170 m 1) c k = m_gR h c k := fun c k => q3 c k
  have w1 : ∀ c k, c ≠ 170 → c < 186 ∨ 195 ≤ c → m_gI (m_sI h1 170 m 1) c k = m_gI h c k := fun c k z1 z2 => by
    rw [gI_sI, if_neg (by omega), q1 c k (by omega)]
  have hp1 : Ptr h1 := Ptr_of hp q3
  have g6 : m_gI (m_sI h1 170 m 1) 38 6 = A 18 := by
    rw [w1 38 6 (by omega) (by omega)]
    exact (cq_r H).1.2.2.2.2.1
  have CB : CBox τ (m_sI h1 170 m 1) (fun j => if j = m then true else F j) (fun j => if j = m then A else B j) := by
    intro j hj
    show m_gI (m_sI h1 170 m 1) 170 j = (if (if j = m then true else F j) = true then 1 else 0) ∧ ((if j = m then true else F j) = true → Rep τ (gS (m_sI h1 170 m 1) (186 + 3 * j)) (if j = m then A else B j))
    rw [gS_sI (by omega)]
    by_cases y : j = m
    · rw [gI_sI, if_pos ⟨rfl, y⟩, if_pos y, if_pos rfl, if_pos y, y, q2]
      exact ⟨rfl, fun _ => Rb⟩
    · rw [gI_sI, if_neg (fun z => y z.2), if_neg y, if_neg y, gS_eq (fun c k h1 h2 => q1 c k (by omega)), q1 170 j (by omega)]
      exact H3 j hj
  generalize hg2 : m_sI h1 170 m 1 = g2 at r1 w1 g6 CB
  have hpg : Ptr g2 := Ptr_of hp r1
  have Cg : CI g2 (τ, A, bh, ah, W, (fun j => if j = m then true else F j), (fun j => if j = m then A else B j), n, t, S, L, V, xx, yy) := by
    refine ⟨⟨T, CQ_eq5 r1 (fun c k h1 h2 _ => w1 c k (by omega) (by omega)) H ?_ (cq_a H), (r1 4 1).trans H1'⟩, ⟨o, CAct_eq (fun c k h1 h2 => w1 c k (by omega) (by omega)) HA⟩, CB, CSig_eq (fun c k z => w1 c k (by omega) (by omega)) H4, CTap_eq (fun c k z => w1 c k (by omega) (by omega)) H5, CFau_eq (fun k z => w1 4 k (by omega) (by omega)) H6⟩
    rw [gS_eq (fun c k h1 h2 => w1 c k (by omega) (by omega))]
    exact cq_r H
  have hi : Hi h g2 := ⟨fun c k => Or.inr (Or.inr (r1 c k)), fun c k z => w1 c k (by omega) (by omega)⟩
  refine ⟨?_, g2, hi, Cg, fun Q => ?_⟩
  · refine ⟨O1, O2, fun j hj hf => ?_, O4⟩
    show aOk τ 999 (if j = m then A else B j)
    by_cases y : j = m
    · rw [if_pos y]
      exact cq_a H
    · rw [if_neg y]
      have hf' : (if j = m then true else F j) = true := hf
      rw [if_neg y] at hf'
      exact O3 j hj hf'
  · simp only [u184_0, u184_1, u184_4, u184_5, u184_6, u184_9, u184_10, u184_11, u184_12, u184_15, u184_16, u184_17, u184_18, u184_21, eq_self, q_nl0, q_nlI, q_nlR, not_false_eq_true, q_nz0, q_nz1, q_zv0, q_zv1, q_tl1, q_tl0, q_wif, q_swc, q_swn, List.cons_append, List.nil_append, if_true, if_false, e10, e01, Bool.false_eq_true, sh_1, sh_169, e0, e1, p_1_6 hp, e3, e4, p_box hp hm, p_1_3 hp, s0, cc]
    simp only [u184_24, u184_25, u184_28, u184_29, u184_30z, u184_30b, u184_31, u184_32, u184_35, u184_38, eq_self, q_nl0, q_nlI, q_nlR, not_false_eq_true, q_nz0, q_nz1, q_zv0, q_zv1, q_tl1, q_tl0, q_wif, q_swc, q_swn, List.cons_append, List.nil_append, if_true, if_false, e10, e01, Bool.false_eq_true, sh_1, sh_38, sh_170, q3, p_1_7 hp, e3, e4, vn1, hg2, r1, p_1_3 hp, g6]
theorem a_back {X : XT} {d : Nat} {h : HT} {τ : CT} {A : Nat → Int32} {bh ah : Nat} {W : Nat → Nat → Int32} {F : Nat → Bool} {B : Nat → Nat → Int32} {n t : Nat} {S : Nat → Nat → Int32} {L : Nat} {V : Nat → Nat} {xx yy : Int32} {m : Nat} (C : CI h (τ, A, bh, ah, W, F, B, n, t, S, L, V, xx, yy)) (O : OKs (τ, A, bh, ah, W, F, B, n, t, S, L, V, xx, yy)) (hm : m < 3) (hf : F m = true) : Ac X (d + 10) 185 [some (.ref 1), some (.int (nI m))] h (cpL A (B m) 20 18) (τ, cpL A (B m) 20, 0, 0, W, F, B, n, t, S, L, V, xx, yy) := by
  have C0 := C
  obtain ⟨⟨T, H, H1'⟩, ⟨o, HA⟩, H3, H4, H5, H6⟩ := C
  obtain ⟨O1, O2, O3, O4⟩ := O
  have hp := cq_p H
  have hk := cq_k H
  have hx := ix_k1 (x := nI m) (k := 3) (by decide) (by decide)
  rw [show nI (3 - 1) = 2 from rfl] at hx
  have ix : ixB (nI m) 3 = true := ixB_in hm (by decide)
  have e0 : (nI m < 0) = False := oI_lt0 (by omega)
  have e1 : (nI m < 3) = True := eq_true (nI_lt (b := 3) hm (by omega))
  have e3 : m_in (nI m) 3 = true := q_in hm (by decide)
  have e4 : (nI m).toNatClampNeg = m := q_cl (by omega)
  have f70 : m_gI h 170 m = 1 := (H3 m hm).1.trans (if_pos hf)
  have bS := isS_box m hm
  have s0 : (m_sh (KS X) (186 + 3 * m)).1 = 7 := by rw [shS_0 bS]
  have cc := fun (Q : QT) => c_copy (X := X) (d := d + 9) (h := h) (Q := Q) is38 bS (by omega) hp
  have Rw := (H3 m hm).2 hf
  have A2 : aOk τ 999 (cpL A (B m) 20) := aOk_cg hk (fun k hk2 => if_pos hk2) (O3 m hm hf)
  have R2 : Rep τ (rCopy (gS h 38) (gS h (186 + 3 * m))) (cpL A (B m) 20) := Rep_cg hk (fun k hk2 => if_pos hk2) (Rep_copy hk Rw)
  have d1 : Da h (pS h 38 (rCopy (gS h 38) (gS h (186 + 3 * m)))) := Da_pS (by omega) (by omega)
  have q1 : ∀ k, m_gI (pS h 38 (rCopy (gS h 38) (gS h (186 + 3 * m)))) 44 k = m_gI h 44 k := fun k => gI_pSo (by omega)
  have q2 : gS (pS h 38 (rCopy (gS h 38) (gS h (186 + 3 * m)))) 38 = rCopy (gS h 38) (gS h (186 + 3 * m)) := gS_pS
  generalize pS h 38 (rCopy (gS h 38) (gS h (186 + 3 * m))) = h1 at cc d1 q1 q2
  have d2 : Da h (m_sI (m_sI h1 44 2 0) 44 3 0) := Da_tr d1 (Da_tr (Da_sI (by omega) (by omega)) (Da_sI (by omega) (by omega)))
  have hp1 : Ptr h1 := Ptr_of hp d1.1
  have R3 : Rep τ (gS (m_sI (m_sI h1 44 2 0) 44 3 0) 38) (cpL A (B m) 20) := by
    rw [gS_sI (by omega), gS_sI (by omega), q2]
    exact R2
  have CA : CAct τ (m_sI (m_sI h1 44 2 0) 44 3 0) o 0 0 W (cpL A (B m) 20) := by
    refine ⟨HA.1, ⟨?_, ?_, ?_⟩, fun j hj => absurd hj (by omega), fun j h1 h2 => absurd h2 (by omega), fun h0 => absurd h0 (by omega)⟩
    · rw [gI_sI, if_neg (by omega), gI_sI, if_neg (by omega), q1]
      exact HA.2.1.1
    · rw [gI_sI, if_neg (by omega), gI_sI, if_pos ⟨rfl, rfl⟩]
      rfl
    · rw [gI_sI, if_pos ⟨rfl, rfl⟩]
      rfl
  have g6 : m_gI (m_sI (m_sI h1 44 2 0) 44 3 0) 38 6 = cpL A (B m) 20 18 := R3.1.2.2.2.2.1
  have Cg := CI_act C0 d2 R3 A2 CA
  generalize hg2 : m_sI (m_sI h1 44 2 0) 44 3 0 = g2 at d2 R3 g6 Cg
  have hpg : Ptr g2 := Ptr_of hp d2.1
  refine ⟨⟨by omega, fun j hj => absurd hj (by omega), O3, O4⟩, g2, Da_hi d2, Cg, fun Q => ?_⟩
  simp only [u185_0, u185_1, u185_4, u185_5, u185_6, u185_9, u185_10, u185_13, u185_14z, u185_14b, u185_15, u185_18, u185_19, u185_20, u185_21, u185_24, u185_25, u185_28, u185_29, u185_30, eq_self, q_nl0, q_nlI, q_nlR, not_false_eq_true, q_nz0, q_nz1, q_zv0, q_zv1, q_tl1, q_tl0, q_wif, q_swc, q_swn, List.cons_append, List.nil_append, if_true, if_false, e10, e01, Bool.false_eq_true, sh_1, sh_38, sh_169, sh_170, e0, e1, p_1_7 hp, e3, e4, f70, p_1_3 hp, p_1_6 hp, p_box hp hm, s0, cc]
  simp only [u185_33, u185_34, u185_37, u185_40, u185_41, u185_44, u185_47, u78_0, u78_1, u78_2, u78_5, u78_6, u78_7, u78_10, eq_self, q_nl0, q_nlI, q_nlR, not_false_eq_true, q_nz0, q_nz1, q_zv0, q_zv1, q_tl1, q_tl0, q_wif, q_swc, q_swn, List.cons_append, List.nil_append, if_true, if_false, e10, e01, Bool.false_eq_true, sh_1, sh_38, sh_44, p_1_5 hp1, hg2, p_1_3 hpg, g6]
