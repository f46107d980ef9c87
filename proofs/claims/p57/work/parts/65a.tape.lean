theorem a_end {X : XT} {d : Nat} {h : HT} {τ : CT} {A : Nat → Int32} {bh ah : Nat} {W : Nat → Nat → Int32} {F : Nat → Bool} {B : Nat → Nat → Int32} {n t : Nat} {S : Nat → Nat → Int32} {L : Nat} {V : Nat → Nat} {x y : Int32} {m : Nat} (C : CI h (τ, A, bh, ah, W, F, B, n, t, S, L, V, x, y)) (O : OKs (τ, A, bh, ah, W, F, B, n, t, S, L, V, x, y)) (hm : m < L + 1) : Ac X (d + 10) 13 [some (.ref 1), some (.int (nI m))] h (nI m) (τ, A, bh, ah, W, F, B, n, t, S, m, V, x, y) := by
  have C0 := C
  obtain ⟨⟨T, H, H1'⟩, ⟨o, HA⟩, H3, H4, H5, H6⟩ := C
  obtain ⟨O1, O2, O3, O4, O5, O6, O7, O8⟩ := O
  have hp := cq_p H
  have hL : L < 2 ^ 31 := by omega
  have ix : ixB (nI m) (L + 1) = true := ixB_in hm (by omega)
  have f0 : (nI m < 0) = False := eq_false (nI_nlt (b := 0) (Nat.zero_le m) (by omega))
  have f1 : (nI L < nI m) = False := eq_false (nI_nlt (by omega) (by omega))
  have hA : Hi h (m_sI h 2 1 (nI m)) := ⟨fun c k => Or.inr (Or.inr rfl), fun c k z => by rw [gI_sI, if_neg (by omega)]⟩
  have e1 : ∀ c k, ¬ (c = 2 ∧ k = 1) → m_gI (m_sI h 2 1 (nI m)) c k = m_gI h c k := fun c k z => by rw [gI_sI, if_neg z]
  refine ⟨⟨O1, O2, O3, O4, O5, O6, by omega, fun i hi => O8 i (by omega)⟩, m_sI h 2 1 (nI m), hA, ?_, fun Q => ?_⟩
  · refine (show CI (m_sI h 2 1 (nI m)) _ from ⟨⟨T, CQ_eq5 (h := h) (fun c k => rfl) (fun c k h1 h2 z => e1 c k (by omega)) H ?_ (cq_a H), H1'⟩, ⟨o, CAct_eq (fun c k h1 h2 => e1 c k (by omega)) HA⟩, CBox_eq (fun c k z => e1 c k (by omega)) H3, CSig_eq (fun c k z => e1 c k (by omega)) H4, ⟨?_, fun i hi => ?_⟩, CFau_eq (fun k z => e1 4 k (by omega)) H6⟩)
    · rw [gS_eq (fun c k h1 h2 => e1 c k (by omega))]
      exact cq_r H
    · rw [gI_sI, if_pos ⟨rfl, rfl⟩]
    · rw [e1 3 i (by omega)]
      exact H5.2 i (by omega)
  · simp only [u13_0, u13_1, u13_4, u13_5, u13_6, u13_9, u13_12, eq_self, q_nl0, q_nlI, q_nlR, not_false_eq_true, q_nz0, q_nz1, q_zv0, q_zv1, q_tl1, q_tl0, q_wif, q_swc, q_swn, List.cons_append, List.nil_append, if_true, if_false, e10, e01, Bool.false_eq_true, sh_1, sh_2, f0, p_1_0 hp, H5.1, f1]
    simp only [u13_17, u13_18, u13_21, u13_22, u13_25, u13_26, eq_self, q_nl0, q_nlI, q_nlR, not_false_eq_true, q_nz0, q_nz1, q_zv0, q_zv1, q_tl1, q_tl0, q_wif, q_swc, q_swn, List.cons_append, List.nil_append, if_true, if_false, e10, e01, Bool.false_eq_true, sh_1, sh_2, p_1_0 hp]
theorem a_feed {X : XT} {d : Nat} {h : HT} {τ : CT} {A : Nat → Int32} {bh ah : Nat} {W : Nat → Nat → Int32} {F : Nat → Bool} {B : Nat → Nat → Int32} {n t : Nat} {S : Nat → Nat → Int32} {L : Nat} {V : Nat → Nat} {x y : Int32} {v1 v2 v3 v4 v5 : Int32} (C : CI h (τ, A, bh, ah, W, F, B, n, t, S, L, V, x, y)) (O : OKs (τ, A, bh, ah, W, F, B, n, t, S, L, V, x, y)) (z : L + 20 ≤ 1600) : Ac X (d + 10) 11 [some (.ref 1), some (.int v1), some (.int v2), some (.int v3), some (.int v4), some (.int v5)] h (nI (L + 20)) (τ, A, bh, ah, W, F, B, n, t, S, L + 20, fdW V L v1 v2 v3 v4 v5, x, y) := by
  have C0 := C
  obtain ⟨⟨T, H, H1'⟩, ⟨o, HA⟩, H3, H4, H5, H6⟩ := C
  obtain ⟨O1, O2, O3, O4, O5, O6, O7, O8⟩ := O
  have hp := cq_p H
  have a20 : nI L + 20 = nI (L + 20) := nI_add L 20
  have f1 : (1600 < nI (L + 20)) = False := eq_false (nI_nlt (a := 1600) (by omega) (by omega))
  have n32 : (3 : Nat) ≠ 2 := by decide
  have n1 : (196 : Nat) ≠ 195 := by decide
  have hs : h = hFt h 2 1 3 (nI L) (m_gI h 3) := by
    rw [← H5.1]
    exact hFt_s n32
  generalize hg : hFt h 2 1 3 (nI (L + 20)) (put4 (put4 (put4 (put4 (put4 (m_gI h 3) L v1) (L + 4) v2) (L + 8) v3) (L + 12) v4) (L + 16) v5) = g
  have e1 : ∀ c k, ¬ (c = 2 ∧ k = 1) → c ≠ 3 → m_gI g c k = m_gI h c k := fun c k z1 z2 => by rw [← hg, gI_hFto z1 z2]
  have r1 : g.2 = h.2 := by rw [← hg]; rfl
  have hA : Hi h g := ⟨Rf_of r1, fun c k z => e1 c k (by omega) (by omega)⟩
  have hr : ∀ c k, m_gR g c k = m_gR h c k := fun c k => by unfold m_gR; rw [r1]
  refine ⟨⟨O1, O2, O3, O4, O5, O6, by omega, ?_⟩, g, hA, (show CI g (τ, A, bh, ah, W, F, B, n, t, S, L + 20, fdW V L v1 v2 v3 v4 v5, x, y) from ⟨⟨T, CQ_eq5 (h := h) hr (fun c k h1 h2 z => e1 c k (by omega) (by omega)) H ?_ (cq_a H), (hr 4 1).trans H1'⟩, ⟨o, CAct_eq (h := h) (fun c k h1 h2 => e1 c k (by omega) (by omega)) HA⟩, CBox_eq (h := h) (fun c k z => e1 c k (by omega) (by omega)) H3, CSig_eq (h := h) (fun c k z => e1 c k (by omega) (by omega)) H4, ⟨?_, ?_⟩, CFau_eq (h := h) (fun k z => e1 4 k (by omega) (by omega)) H6⟩), fun Q => ?_⟩
  · exact fdV_lt (fdV_lt (fdV_lt (fdV_lt (fdV_lt O8 rfl) rfl) rfl) rfl) rfl
  · rw [gS_eq (fun c k h1 h2 => e1 c k (by omega) (by omega))]
    exact cq_r H
  · rw [← hg, gI_hFtA]
  · intro i hi
    rw [← hg, gI_hFtB n32]
    exact put4_V (put4_V (put4_V (put4_V (put4_V H5.2)))) i hi
  · have cp := fun (L : Nat) (f : Nat → Int32) (v : Int32) (q : L + 4 ≤ 1600) (Q : QT) => c_put (X := X) (d := d + 9) (h := h) (Q := Q) (L := L) (f := f) (x := v) hp q
    simp only [u11_0, u11_1, u11_4, u11_7, u11_9, u11_10, u11_13, eq_self, q_nl0, q_nlI, q_nlR, not_false_eq_true, q_nz0, q_nz1, q_zv0, q_zv1, q_tl1, q_tl0, q_wif, q_swc, q_swn, List.cons_append, List.nil_append, if_true, if_false, e10, e01, Bool.false_eq_true, sh_1, sh_2, p_1_0 hp, H5.1, a20, f1]
    rw [hs]
    simp only [u11_18, u11_19, u11_22, u11_23, u11_26, u11_27, u11_30, u11_31, u11_34, u11_35, u11_38, u11_39, u11_42, u11_43, u11_46, u11_48, u11_51, u11_52, u11_55, u11_57, u11_60, u11_61, u11_64, u11_67, eq_self, q_nl0, q_nlI, q_nlR, not_false_eq_true, q_nz0, q_nz1, q_zv0, q_zv1, q_tl1, q_tl0, q_wif, q_swc, q_swn, List.cons_append, List.nil_append, if_true, if_false, e10, e01, Bool.false_eq_true, sh_1, sh_2, gR_hFt, p_1_0 hp, cp L _ _ (by omega), cp (L + 4) _ _ (by omega), cp (L + 8) _ _ (by omega), cp (L + 12) _ _ (by omega), cp (L + 16) _ _ (by omega), show L + 4 + 4 = L + 8 from rfl, show L + 8 + 4 = L + 12 from rfl, show L + 12 + 4 = L + 16 from rfl, show L + 16 + 4 = L + 20 from rfl, Option.toList]
    rw [gI_hFtA, hg]
