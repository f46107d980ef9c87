/-! THE LAW'S FIRST STEPS -/
theorem PT_lo : ∀ q ∈ PT, q.1 < 195 := by decide +kernel
theorem CI_lo2 {h g : HT} {σ : ST} (r : ∀ c k, c < 195 → m_gR g c k = m_gR h c k) (a : ∀ c k, c < 195 → m_gI g c k = m_gI h c k) (H : CI h σ) : CI g σ := by
  obtain ⟨τ, A, bh, ah, W, F, B, n, t, S, L, V, x, y⟩ := σ
  obtain ⟨⟨T, H1, H1'⟩, ⟨o, H2⟩, H3, H4, H5, H6⟩ := H
  have hp : Ptr g := fun q hq => (r q.1 q.2.1 (PT_lo q hq)).trans (cq_p H1 q hq)
  refine ⟨⟨T, ⟨⟨ct_T (cq_t H1), hp, cq_k H1, CCity_eq (ct_T (cq_t H1)) (fun c k z => a c k (by omega)) (cq_t H1).2.2.2⟩, cq_f H1, (r 1 2 (by decide)).trans (cq_T H1), ?_, cq_a H1⟩, (r 4 1 (by decide)).trans H1'⟩, ⟨o, CAct_eq (fun c k h1 h2 => a c k (by omega)) H2⟩, CBox_eq (fun c k z => a c k (by omega)) H3, CSig_eq (fun c k z => a c k (by omega)) H4, CTap_eq (fun c k z => a c k (by omega)) H5, CFau_eq (fun k z => a 4 k (by omega)) H6⟩
  rw [gS_eq (fun c k h1 h2 => a c k (by omega))]
  exact cq_r H1
theorem gI_clr {h : HT} {a c k : Nat} (z : c ≠ a) : m_gI (m_clr h a) c k = m_gI h c k := if_neg z
theorem gI_clr0 {h : HT} {a k : Nat} : m_gI (m_clr h a) a k = 0 := if_pos rfl
theorem gR_clr {h : HT} {a c k : Nat} (z : c ≠ a) : m_gR (m_clr h a) c k = m_gR h c k := if_neg z
/-- the row that begin writes -/
def bgV (τ : CT) (i : Nat) : Nat → Int32 := fun k => if k < i then nI (τ 4 k) else 0
def bgZ (τ : CT) : Nat → Int32 := up (up (bgV τ (τ 0 1)) 14 (nI (τ 0 6))) 19 (nI (τ 0 5))
theorem bgV_0 {τ : CT} : bgV τ 0 = fun _ => 0 := funext fun k => if_neg (Nat.not_lt_zero k)
theorem bgV_s {τ : CT} {i : Nat} : up (bgV τ i) i (nI (τ 4 i)) = bgV τ (i + 1) := by
  funext k
  show (if k = i then nI (τ 4 i) else if k < i then nI (τ 4 k) else 0) = if k < i + 1 then nI (τ 4 k) else 0
  by_cases z : k = i
  · subst z
    rw [if_pos rfl, if_pos (by omega)]
  · rw [if_neg z]
    by_cases y : k < i
    · rw [if_pos y, if_pos (by omega)]
    · rw [if_neg y, if_neg (by omega)]
theorem bgZ_e {τ : CT} (k : Nat) : bgZ τ k = aNew τ (fun _ => 0) k := by
  show (if k = 19 then nI (τ 0 5) else if k = 14 then nI (τ 0 6) else if k < τ 0 1 then nI (τ 4 k) else 0) = if k = 19 then nI (τ 0 5) else if k = 14 then nI (τ 0 6) else if k < τ 0 1 then nI (τ 4 k) else if k < 20 then 0 else 0
  rw [ite_self]
section BEGUN
variable {X : XT} {d : Nat} {h : HT} {τ : CT} {b : Nat} {C A : Nat → Int32} {j : Nat} {A0 : Nat → Int32} {Z : Option (Nat → Int32)}
theorem ww_clr (W : WW h τ b C A j A0 Z) : WW (m_clr h 196) τ b (fun _ => 0) A j A0 Z := by
  obtain ⟨⟨bh, ah, w, F, B, S, L, V, x, y, c, o, f, u⟩, T, r⟩ := W
  exact ⟨⟨bh, ah, w, F, B, S, L, V, x, y, CI_lo2 (fun c k z => gR_clr (by omega)) (fun c k z => gI_clr (by omega)) c, o, f, u⟩, TR_eq (fun k => gI_clr (by decide)) T, funext fun k => gI_clr0⟩
theorem l_begin (hX : X.2 100000 ≠ 0) (T : TR h τ b) (h5 : τ 0 1 ≤ 5) (hz : m_gI h 196 = fun _ => 0) (Q : QT) : wq X d 171 4 [some (.ref 195), none, none] [.ref 196] h Q = Q (some (.ref 196)) (hC h 196 (bgZ τ)) := by
  have hm : m_gI h 195 1 = nI (τ 0 1) := T.1.2.1
  have h6 : m_gI h 195 6 = nI (τ 0 5) := T.1.2.2.2.2.2.2.1
  have h7 : m_gI h 195 7 = nI (τ 0 6) := T.1.2.2.2.2.2.2.2
  have g5 : ∀ (v : Nat → Int32) (k : Nat), m_gI (hC h 196 v) 195 k = m_gI h 195 k := fun v k => gI_hCo (by decide)
  have i14 : m_in 14 21 = true := by decide
  have i19 : m_in 19 21 = true := by decide
  have k14 : (14 : Int32).toNatClampNeg = 14 := by decide
  have k19 : (19 : Int32).toNatClampNeg = 19 := by decide
  simp only [u171_4, u171_5, u171_6, eq_self, q_nl0, q_nlI, q_nlR, not_false_eq_true, q_nz0, q_nz1, q_zv0, q_zv1, q_tl1, q_tl0, q_wif, q_swc, q_swn, List.cons_append, List.nil_append, if_true, if_false, e10, e01, Bool.false_eq_true]
  refine Eq.trans (b := wq X d 171 7 [some (.ref 195), some (.ref 196), some (.int (nI 0))] [] (hC h 196 (bgV τ 0)) Q) (by rw [bgV_0, ← hC_as hz]; rfl) ?_
  refine (q_loop (fun i => wq X d 171 7 [some (.ref 195), some (.ref 196), some (.int (nI i))] [] (hC h 196 (bgV τ i)) Q) (τ 0 1) ?_).trans ?_
  · intro i hi
    have f1 : (nI i < nI (τ 0 1)) = True := eq_true (nI_lt hi (by omega))
    have e1 : m_in (nI (21 + 4 * i)) 70 = true := t_in (by omega)
    have e2 : (nI (21 + 4 * i)).toNatClampNeg = 21 + 4 * i := t_cl (by omega)
    have e3 : m_in (nI i) 21 = true := q_in (by omega) (by decide)
    have e4 : (nI i).toNatClampNeg = i := q_cl (by omega)
    have e5 := (T.2.2.1 i hi).2.1
    show wq X d 171 7 _ _ _ _ = _
    rw [u171_7]
    simp only [u171_8, u171_9, u171_10, u171_11, u171_14, u171_15, u171_16, u171_17, u171_19, u171_20, u171_21, u171_22, u171_23, u171_24, u171_25, u171_28, eq_self, q_nl0, q_nlI, q_nlR, not_false_eq_true, q_nz0, q_nz1, q_zv0, q_zv1, q_tl1, q_tl0, q_wif, q_swc, q_swn, List.cons_append, List.nil_append, if_true, if_false, e10, e01, Bool.false_eq_true, sh_195, sh_196 hX, t_in1, t_cl1, g5, hm, f1, l_m4, l_a21, e1, e2, e3, e4, e5, sI_hC, bgV_s, nI_1]
  · have f1 : (nI (τ 0 1) < nI (τ 0 1)) = False := eq_false (fun q => Int32.lt_irrefl q)
    show wq X d 171 7 _ _ _ _ = _
    rw [u171_7]
    simp only [u171_8, u171_9, u171_10, u171_11, eq_self, q_nl0, q_nlI, q_nlR, not_false_eq_true, q_nz0, q_nz1, q_zv0, q_zv1, q_tl1, q_tl0, q_wif, q_swc, q_swn, List.cons_append, List.nil_append, if_true, if_false, e10, e01, Bool.false_eq_true, sh_195, t_in1, t_cl1, g5, hm, f1]
    simp only [u171_31, u171_32, u171_34, u171_35, u171_37, u171_38, u171_39, u171_40, u171_42, u171_43, u171_45, u171_46, u171_47, u171_48, eq_self, q_nl0, q_nlI, q_nlR, not_false_eq_true, q_nz0, q_nz1, q_zv0, q_zv1, q_tl1, q_tl0, q_wif, q_swc, q_swn, List.cons_append, List.nil_append, if_true, if_false, e10, e01, Bool.false_eq_true, sh_195, sh_196 hX, i14, i19, k14, k19, t_in6, t_cl6, t_in7, t_cl7, g5, h6, h7, sI_hC]
    rfl
theorem l_head (hX : X.2 100000 ≠ 0) (hX1 : X.1 ≤ 260) (LL : LB τ b) (W : WW h τ b (bgZ τ) (bgZ τ) j A0 Z) : ∃ g, ∀ Q : QT, wq X (d + 12) 315 24 [some (.ref 10000), some (.ref 1), some (.ref 195), some (.int 1), none, none, none, none, none, none, none, none, none, none, none, none, none, none, none, none, none, none, none] [.ref 196] h Q = Q (some (.int 1)) g := by
  have h5 := LL.2.2.1
  have hk := LL.1
  have lv : LV τ (bgZ τ) := fun m hm => by
    have : τ 4 m ≤ 20 := hk.2.2.2.2.2.2.2.2.2.2.2.1 m
    refine ⟨τ 4 m, by omega, ?_⟩
    show (if m = 19 then nI (τ 0 5) else if m = 14 then nI (τ 0 6) else if m < τ 0 1 then nI (τ 4 m) else 0) = _
    rw [if_neg (by omega), if_neg (by omega), if_pos hm]
  have dy : DY (bgZ τ) 0 := by
    refine ⟨0, Nat.le_refl _, ?_⟩
    show (if 18 = 19 then nI (τ 0 5) else if 18 = 14 then nI (τ 0 6) else if 18 < τ 0 1 then nI (τ 4 18) else 0) = _
    rw [if_neg (by decide), if_neg (by decide), if_neg (by omega)]
    rfl
  obtain ⟨g, q⟩ := lw_on (X := X) (d := d) hX hX1 LL W lv dy (fun _ => none)
  have hm : m_gI h 195 1 = nI (τ 0 1) := (ww_T W).1.2.1
  have ea : (1 : Int32) <<< (nI (τ 0 1) &&& 31) - 1 = nI (sAll τ) := nI_all _ (by omega)
  refine ⟨g, fun Q => ?_⟩
  simp only [u315_24, u315_26, u315_27, u315_28, u315_29, u315_30, u315_31, u315_32, u315_33, u315_35, u315_36, eq_self, q_nl0, q_nlI, q_nlR, not_false_eq_true, q_nz0, q_nz1, q_zv0, q_zv1, q_tl1, q_tl0, q_wif, q_swc, q_swn, List.cons_append, List.nil_append, if_true, if_false, e10, e01, Bool.false_eq_true, sh_195, t_in1, t_cl1, hm, ea]
  exact q Q
end BEGUN
