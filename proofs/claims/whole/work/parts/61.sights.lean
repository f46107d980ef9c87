/-! WHAT IS SEEN -/
def Dsi (h g : HT) : Prop := (∀ c k, m_gR g c k = m_gR h c k) ∧ ∀ c k, ¬ (c = 179 ∧ (k = 5 ∨ k = 6)) → c < 180 ∨ 185 ≤ c → m_gI g c k = m_gI h c k
theorem CI_sig {h g : HT} {τ : CT} {A : Nat → Int32} {bh ah : Nat} {W : Nat → Nat → Int32} {F : Nat → Bool} {B : Nat → Nat → Int32} {n t n' t' : Nat} {S S' : Nat → Nat → Int32} {L : Nat} {V : Nat → Nat} {x y : Int32} (H : CI h (τ, A, bh, ah, W, F, B, n, t, S, L, V, x, y)) (a : Dsi h g) (C : CSig g n' t' S') : CI g (τ, A, bh, ah, W, F, B, n', t', S', L, V, x, y) := by
  obtain ⟨⟨T, H1, H1'⟩, ⟨o, H2⟩, H3, H4, H5, H6⟩ := H
  refine ⟨⟨T, CQ_eq5 a.1 (fun c k h1 h2 _ => a.2 c k (by omega) (by omega)) H1 ?_ (cq_a H1), (a.1 4 1).trans H1'⟩, ⟨o, CAct_eq (fun c k h1 h2 => a.2 c k (by omega) (by omega)) H2⟩, CBox_eq (fun c k z => a.2 c k (by omega) (by omega)) H3, C, CTap_eq (fun c k z => a.2 c k (by omega) (by omega)) H5, CFau_eq (fun k z => a.2 4 k (by omega) (by omega)) H6⟩
  rw [gS_eq (fun c k h1 h2 => a.2 c k (by omega) (by omega))]
  exact cq_r H1
theorem Dsi_hi {h g : HT} (a : Dsi h g) : Hi h g := ⟨fun c k => Or.inr (Or.inr (a.1 c k)), fun c k z => a.2 c k (by omega) (by omega)⟩
def Dks (h g : HT) : Prop := g.2 = h.2 ∧ ∀ c k, ¬ (c = 195 ∧ (k = 62 ∨ k = 63)) → c < 230 ∨ 235 ≤ c → m_gI g c k = m_gI h c k
theorem KI_sig {h g : HT} {τ : CT} {A : Nat → Int32} {bh ah : Nat} {W : Nat → Nat → Int32} {F : Nat → Bool} {B : Nat → Nat → Int32} {n t n' t' : Nat} {S S' : Nat → Nat → Int32} {L : Nat} {V : Nat → Nat} {x y : Int32} (H : KI h (τ, A, bh, ah, W, F, B, n, t, S, L, V, x, y)) (a : Dks h g) (C : KSig g n' t' S') : KI g (τ, A, bh, ah, W, F, B, n', t', S', L, V, x, y) := by
  obtain ⟨⟨b, f, H1⟩, H2, H3, H4, H5, H6⟩ := H
  exact ⟨⟨b, f, KQ_gen (Ptr_rf (Rf_of a.1) (mq_p H1)) (fun c k z => a.2 c k (by omega) (by omega)) H1 ((funext fun k => a.2 227 k (by omega) (by omega)).trans H1.2.2.2.1) (mq_a H1)⟩, KAct_eq (fun c k z => a.2 c k (by omega) (by omega)) H2, KBox_eq (fun c k z => a.2 c k (by omega) (by omega)) H3, C, KTap_eq (fun c k z => a.2 c k (by omega) (by omega)) H5, KFau_eq (fun k z => a.2 195 k (by omega) (by omega)) H6⟩
theorem Dks_lo {h g : HT} (a : Dks h g) : Lo h g := ⟨by rw [a.1], fun c k z => a.2 c k (by omega) (by omega)⟩
/-- one more row of what is seen -/
def tlS (S : Nat → Nat → Int32) (n : Nat) (a w v t : Int32) : Nat → Nat → Int32 := fun j i => if i = n then (if j = 0 then a else if j = 1 then w else if j = 2 then v else if j = 3 then t else -1) else S j i
theorem nI_back {n : Nat} : nI (n + 1) - 1 = nI n := nI_dn
theorem c_tell {X : XT} {d n t : Nat} {h : HT} {S : Nat → Nat → Int32} {a w v : Int32} (hp : Ptr h) (C : CSig h n t S) (hn : n < 30) (hv : v = 0 ∨ v = 1) : ∃ g, Dsi h g ∧ CSig g (n + 1) t (tlS S n a w v (nI t)) ∧ ∀ Q : QT, wq X d 172 0 [some (.ref 179), some (.int a), some (.int w), some (.int v)] [] h Q = Q (some (.int (nI n))) g := by
  obtain ⟨c1, c2, c3⟩ := C
  have e0 : (nI n < 0) = False := oI_lt0 (by omega)
  have e1 : (nI n < 30) = True := eq_true (nI_lt (b := 30) hn (by omega))
  have e3 : m_in (nI n) 30 = true := q_in hn (by decide)
  have e4 : (nI n).toNatClampNeg = n := q_cl (by omega)
  have ev : vp_nar .boolean v = v := by rcases hv with e | e <;> rw [e] <;> decide
  refine ⟨m_sI (m_sI (m_sI (m_sI (m_sI (m_sI h 180 n a) 181 n w) 182 n v) 183 n (nI t)) 184 n (-1)) 179 5 (nI (n + 1)), ⟨fun _ _ => rfl, fun c k z1 z2 => ?_⟩, ⟨?_, ?_, fun i hi j hj => ?_⟩, fun Q => ?_⟩
  · rw [gI_sI, if_neg (by omega), gI_sI, if_neg (by omega), gI_sI, if_neg (by omega), gI_sI, if_neg (by omega), gI_sI, if_neg (by omega), gI_sI, if_neg (by omega)]
  · rw [gI_sI, if_pos ⟨rfl, rfl⟩]
  · rw [gI_sI, if_neg (by omega), gI_sI, if_neg (by omega), gI_sI, if_neg (by omega), gI_sI, if_neg (by omega), gI_sI, if_neg (by omega), gI_sI, if_neg (by omega), c2]
  · unfold tlS
    simp only [gI_sI]
    by_cases z : i = n
    · rw [if_neg (by omega), if_pos z]
      have : j = 0 ∨ j = 1 ∨ j = 2 ∨ j = 3 ∨ j = 4 := by omega
      rcases this with y | y | y | y | y <;> subst y <;> simp [z]
    · rw [if_neg (by omega), if_neg (by omega), if_neg (by omega), if_neg (by omega), if_neg (by omega), if_neg (by omega), if_neg z]
      exact c3 i (by omega) j hj
  · have g5 : ∀ g, m_gI g 179 5 = nI n → ∀ c v, 180 ≤ c → m_gI (m_sI g c n v) 179 5 = nI n := fun g e c v z => by rw [gI_sI, if_neg (by omega), e]
    have g6 : ∀ g, m_gI g 179 6 = nI t → ∀ c v, 180 ≤ c → m_gI (m_sI g c n v) 179 6 = nI t := fun g e c v z => by rw [gI_sI, if_neg (by omega), e]
    have h51 := g5 _ c1 180 a (by omega)
    have h52 := g5 _ h51 181 w (by omega)
    have h53 := g5 _ h52 182 v (by omega)
    have h54 := g5 _ h53 183 (nI t) (by omega)
    have h55 := g5 _ h54 184 (-1) (by omega)
    have h63 := g6 _ (g6 _ (g6 _ c2 180 a (by omega)) 181 w (by omega)) 182 v (by omega)
    have hl : m_gI (m_sI (m_sI (m_sI (m_sI (m_sI (m_sI h 180 n a) 181 n w) 182 n v) 183 n (nI t)) 184 n (-1)) 179 5 (nI (n + 1))) 179 5 = nI (n + 1) := by rw [gI_sI, if_pos ⟨rfl, rfl⟩]
    simp only [u172_0, u172_1, u172_4, u172_7, u172_8, u172_11, u172_13, u172_16, u172_17, u172_18, u172_19, u172_22, u172_23, u172_26, u172_27, u172_28, u172_29, u172_32, u172_33, u172_36, u172_37, u172_38, u172_39, u172_42, u172_43, u172_46, u172_47z, u172_47b, u172_48, u172_49, u172_52, u172_53, u172_56, u172_57, u172_60, u172_61, u172_62, u172_65, u172_66, u172_69, u172_70, u172_71, u172_72, u172_73, u172_76, u172_77, u172_78, u172_81, u172_82, u172_85, u172_86, u172_87, eq_self, q_nl0, q_nlI, q_nlR, not_false_eq_true, q_nz0, q_nz1, q_zv0, q_zv1, q_tl1, q_tl0, q_wif, q_swc, q_swn, List.cons_append, List.nil_append, if_true, if_false, e10, e01, Bool.false_eq_true, sh_179, sh_180, sh_181, sh_182, sh_183, sh_184, gR_sI, p_179_0 hp, p_179_1 hp, p_179_2 hp, p_179_3 hp, p_179_4 hp, c1, e0, e1, e3, e4, ev, h51, h52, h53, h54, h55, h63, nI_1, hl, nI_back]
theorem k_tell {X : XT} {d n t : Nat} {h : HT} {S : Nat → Nat → Int32} {a w v : Int32} (hp : Ptr h) (C : KSig h n t S) (hn : n < 30) (hv : v = 0 ∨ v = 1) : ∃ g, Dks h g ∧ KSig g (n + 1) t (tlS S n a w v (nI t)) ∧ ∀ Q : QT, wq X d 299 0 [some (.ref 195), some (.int a), some (.int w), some (.int v)] [] h Q = Q (some (.int (nI n))) g := by
  obtain ⟨c1, c2, c3⟩ := C
  have e1 : (nI n = 30) = False := eq_false (fun z => by
    have := (nI_eq (a := n) (b := 30) (by omega) (by decide)).mp z
    omega)
  have e3 : m_in (nI n) 30 = true := q_in hn (by decide)
  have e4 : (nI n).toNatClampNeg = n := q_cl (by omega)
  refine ⟨m_sI (m_sI (m_sI (m_sI (m_sI (m_sI h 230 n a) 231 n w) 232 n v) 233 n (nI t)) 234 n (-1)) 195 62 (nI (n + 1)), ⟨rfl, fun c k z1 z2 => ?_⟩, ⟨?_, ?_, fun i hi j hj => ?_⟩, fun Q => ?_⟩
  · rw [gI_sI, if_neg (by omega), gI_sI, if_neg (by omega), gI_sI, if_neg (by omega), gI_sI, if_neg (by omega), gI_sI, if_neg (by omega), gI_sI, if_neg (by omega)]
  · rw [gI_sI, if_pos ⟨rfl, rfl⟩]
  · rw [gI_sI, if_neg (by omega), gI_sI, if_neg (by omega), gI_sI, if_neg (by omega), gI_sI, if_neg (by omega), gI_sI, if_neg (by omega), gI_sI, if_neg (by omega), c2]
  · unfold tlS
    simp only [gI_sI]
    by_cases z : i = n
    · rw [if_neg (by omega), if_pos z]
      have : j = 0 ∨ j = 1 ∨ j = 2 ∨ j = 3 ∨ j = 4 := by omega
      rcases this with y | y | y | y | y <;> subst y <;> simp [z]
    · rw [if_neg (by omega), if_neg (by omega), if_neg (by omega), if_neg (by omega), if_neg (by omega), if_neg (by omega), if_neg z]
      exact c3 i (by omega) j hj
  · have g5 : ∀ g, m_gI g 195 62 = nI n → ∀ c v, 230 ≤ c → m_gI (m_sI g c n v) 195 62 = nI n := fun g e c v z => by rw [gI_sI, if_neg (by omega), e]
    have g6 : ∀ g, m_gI g 195 63 = nI t → ∀ c v, 230 ≤ c → m_gI (m_sI g c n v) 195 63 = nI t := fun g e c v z => by rw [gI_sI, if_neg (by omega), e]
    have h51 := g5 _ c1 230 a (by omega)
    have h52 := g5 _ h51 231 w (by omega)
    have h53 := g5 _ h52 232 v (by omega)
    have h54 := g5 _ h53 233 (nI t) (by omega)
    have h55 := g5 _ h54 234 (-1) (by omega)
    have h63 := g6 _ (g6 _ (g6 _ c2 230 a (by omega)) 231 w (by omega)) 232 v (by omega)
    have hl : m_gI (m_sI (m_sI (m_sI (m_sI (m_sI (m_sI h 230 n a) 231 n w) 232 n v) 233 n (nI t)) 234 n (-1)) 195 62 (nI (n + 1))) 195 62 = nI (n + 1) := by rw [gI_sI, if_pos ⟨rfl, rfl⟩]
    rcases hv with e | e
    · subst e
      simp only [u299_0, u299_1, u299_4, u299_6, u299_9, u299_10, u299_11, u299_12, u299_15, u299_16, u299_19, u299_20, u299_21, u299_22, u299_25, u299_26, u299_29, u299_30, u299_31, u299_32, u299_35, u299_36, u299_39, u299_40, u299_43, u299_44, u299_47, u299_48, u299_49, u299_50, u299_53, u299_54, u299_57, u299_58, u299_61, u299_62, u299_63, u299_66, u299_67, u299_70, u299_71, u299_72, u299_73, u299_74, u299_77, u299_78, u299_79, u299_82, u299_83, u299_86, u299_87, u299_88, eq_self, q_nl0, q_nlI, q_nlR, not_false_eq_true, q_nz0, q_nz1, q_zv0, q_zv1, q_tl1, q_tl0, q_wif, q_swc, q_swn, List.cons_append, List.nil_append, if_true, if_false, e10, e01, Bool.false_eq_true, sh_195, sh_230, sh_231, sh_232, sh_233, sh_234, gR_sI, p_195_56 hp, p_195_57 hp, p_195_58 hp, p_195_59 hp, p_195_60 hp, c1, e1, e3, e4, h51, h52, h53, h54, h55, h63, nI_1, hl, nI_back]
    · subst e
      simp only [u299_0, u299_1, u299_4, u299_6, u299_9, u299_10, u299_11, u299_12, u299_15, u299_16, u299_19, u299_20, u299_21, u299_22, u299_25, u299_26, u299_29, u299_30, u299_31, u299_32, u299_35, u299_36, u299_39, u299_40, u299_43, u299_44, u299_47, u299_48, u299_49, u299_50, u299_53, u299_54, u299_57, u299_58, u299_61, u299_62, u299_63, u299_66, u299_67, u299_70, u299_71, u299_72, u299_73, u299_74, u299_77, u299_78, u299_79, u299_82, u299_83, u299_86, u299_87, u299_88, eq_self, q_nl0, q_nlI, q_nlR, not_false_eq_true, q_nz0, q_nz1, q_zv0, q_zv1, q_tl1, q_tl0, q_wif, q_swc, q_swn, List.cons_append, List.nil_append, if_true, if_false, e10, e01, Bool.false_eq_true, sh_195, sh_230, sh_231, sh_232, sh_233, sh_234, gR_sI, p_195_56 hp, p_195_57 hp, p_195_58 hp, p_195_59 hp, p_195_60 hp, c1, e1, e3, e4, h51, h52, h53, h54, h55, h63, nI_1, hl, nI_back]
theorem tl_ok {S : Nat → Nat → Int32} {n w : Nat} {a v t : Int32} (ha : a = 0 ∨ a = 1 ∨ a = 2) (hw : w < 8) (hv : v = 0 ∨ v = 1) (H : ∀ i, i < n → sOk S i) : ∀ i, i < n + 1 → sOk (tlS S n a (nI w) v t) i := by
  intro i hi
  unfold sOk tlS
  by_cases z : i = n
  · simp only [if_pos z, if_true, show ((1 : Nat) = 0) = False from eq_false (by decide), show ((2 : Nat) = 0) = False from eq_false (by decide), show ((2 : Nat) = 1) = False from eq_false (by decide), show ((4 : Nat) = 0) = False from eq_false (by decide), show ((4 : Nat) = 1) = False from eq_false (by decide), show ((4 : Nat) = 2) = False from eq_false (by decide), show ((4 : Nat) = 3) = False from eq_false (by decide), if_false]
    exact ⟨ha, ⟨w, hw, rfl⟩, hv, Or.inl trivial⟩
  · simp only [if_neg z]
    exact H i (by omega)
/-- the three that tell, as soon as what they tell can be -/
theorem tellBoth {X : XT} {d : Nat} {h : HT} {τ : CT} {A : Nat → Int32} {bh ah : Nat} {W : Nat → Nat → Int32} {F : Nat → Bool} {B : Nat → Nat → Int32} {n t : Nat} {S : Nat → Nat → Int32} {L : Nat} {V : Nat → Nat} {xx yy : Int32} (C : CI h (τ, A, bh, ah, W, F, B, n, t, S, L, V, xx, yy)) (K : KI h (τ, A, bh, ah, W, F, B, n, t, S, L, V, xx, yy)) (O : OKs (τ, A, bh, ah, W, F, B, n, t, S, L, V, xx, yy)) {w : Nat} {a v : Int32} (ha : a = 0 ∨ a = 1 ∨ a = 2) (hw : w < 8) (hv : v = 0 ∨ v = 1) : ∃ (u : Int32) (g g' : HT) (σ : ST), OKs σ ∧ CI g' σ ∧ KI g' σ ∧ (∀ Q : QT, wq X d 172 0 [some (.ref 179), some (.int a), some (.int (nI w)), some (.int v)] [] h Q = Q (some (.int u)) g) ∧ (∀ Q : QT, wq X d 299 0 [some (.ref 195), some (.int a), some (.int (nI w)), some (.int v)] [] g Q = Q (some (.int u)) g') ∧ Hi h g := by
  have C0 := C
  have K0 := K
  obtain ⟨⟨T, H, H1'⟩, ⟨o, HA⟩, H3, H4, H5, H6⟩ := C
  obtain ⟨⟨b, f, KH⟩, KA, K3, K4, K5, K6⟩ := K
  obtain ⟨O1, O2, O3, O4, O5, O6, O7⟩ := O
  have hp := cq_p H
  by_cases z : n < 30
  · obtain ⟨g, d1, cs, cw⟩ := c_tell (X := X) (d := d) (a := a) (w := nI w) hp H4 z hv
    have Cg := CI_sig C0 d1 cs
    have Kg := KI_hi (Dsi_hi d1) K0
    have K4g := Kg.2.2.2.1
    have hpg : Ptr g := Ptr_of hp d1.1
    obtain ⟨g', e1, ks, kw⟩ := k_tell (X := X) (d := d) (a := a) (w := nI w) hpg K4g z hv
    exact ⟨nI n, g, g', _, ⟨O1, O2, O3, Nat.succ_le_of_lt z, O5, tl_ok ha hw hv O6, O7⟩, CI_lo (Dks_lo e1) Cg, KI_sig Kg e1 ks, cw, kw, Dsi_hi d1⟩
  · have hn : n = 30 := by omega
    subst hn
    refine ⟨-1, h, h, _, ⟨O1, O2, O3, O4, O5, O6, O7⟩, C0, K0, fun Q => ?_, fun Q => ?_, ⟨fun c k => Or.inr (Or.inr rfl), fun c k _ => rfl⟩⟩
    · simp only [u172_0, u172_1, u172_4, u172_7, u172_8, u172_11, u172_13, u172_16, u172_17, eq_self, q_nl0, q_nlI, q_nlR, not_false_eq_true, q_nz0, q_nz1, q_zv0, q_zv1, q_tl1, q_tl0, q_wif, q_swc, q_swn, List.cons_append, List.nil_append, if_true, if_false, e10, e01, Bool.false_eq_true, sh_179, H4.1, eq_false (show ¬ nI 30 < 0 by decide), eq_false (show ¬ nI 30 < 30 by decide)]
    · simp only [u299_0, u299_1, u299_4, u299_6, u299_9, u299_10, eq_self, q_nl0, q_nlI, q_nlR, not_false_eq_true, q_nz0, q_nz1, q_zv0, q_zv1, q_tl1, q_tl0, q_wif, q_swc, q_swn, List.cons_append, List.nil_append, if_true, if_false, e10, e01, Bool.false_eq_true, sh_195, K4.1, eq_true (show nI 30 = 30 from rfl)]
theorem s_seen {X : XT} {d : Nat} {h : HT} {σ : ST} (C : CI h σ) (K : KI h σ) (O : OKs σ) (x v : Int32) (hv : v = 0 ∨ v = 1) : Pi X (d + 10) 171 [some (.ref 1), some (.int x), some (.int v)] 298 [some (.ref 195), some (.int x), some (.int v)] h := by
  obtain ⟨τ, A, bh, ah, W, F, B, n, t, S, L, V, xx, yy⟩ := σ
  have C0 := C
  have K0 := K
  obtain ⟨⟨T, H, H1'⟩, ⟨o, HA⟩, H3, H4, H5, H6⟩ := C
  obtain ⟨⟨b, f, KH⟩, KA, K3, K4, K5, K6⟩ := K
  have hp := cq_p H
  have h7 := o_mn (cq_k H)
  rcases ix_cases x (k := τ 0 1) (by omega) with ⟨m, hm, rfl, ix⟩ | ix
  · obtain ⟨u, g, g', σ', o', c', k', e1, e2, hi⟩ := tellBoth (X := X) (d := d + 9) C0 K0 O (w := m) (a := 0) (v := v) (by decide) (by omega) hv
    have KHi := KQ_hi hi KH
    refine ⟨u, g, g', σ', o', c', k', fun Q => ?_, fun Q => ?_⟩
    · simp only [u171_0, u171_1, u171_2, u171_5, u171_8, u171_9, u171_12, u171_13, u171_14, u171_15, u171_18, u171_21, u171_22, eq_self, q_nl0, q_nlI, q_nlR, not_false_eq_true, q_nz0, q_nz1, q_zv0, q_zv1, q_tl1, q_tl0, q_wif, q_swc, q_swn, List.cons_append, List.nil_append, if_true, if_false, e10, e01, Bool.false_eq_true, sh_1, sh_179, c_isIx (cq_t H) (cq_T H), ix, p_1_10 hp, e1]
    · simp only [u298_0, u298_1, u298_2, u298_5, u298_8, u298_9, u298_10, u298_11, u298_12, u298_15, u298_18, u298_19, eq_self, q_nl0, q_nlI, q_nlR, not_false_eq_true, q_nz0, q_nz1, q_zv0, q_zv1, q_tl1, q_tl0, q_wif, q_swc, q_swn, List.cons_append, List.nil_append, if_true, if_false, e10, e01, Bool.false_eq_true, sh_195, k_isMan (mq_t KHi), ix, e2]
  · refine Pi_of C0 K0 O (Pr_pure (-1) (fun Q => ?_) (fun Q => ?_))
    · simp only [u171_0, u171_1, u171_2, u171_5, u171_8, u171_9, u171_12, u171_13, u171_14, u171_15, u171_18, u171_21, u171_22, eq_self, q_nl0, q_nlI, q_nlR, not_false_eq_true, q_nz0, q_nz1, q_zv0, q_zv1, q_tl1, q_tl0, q_wif, q_swc, q_swn, List.cons_append, List.nil_append, if_true, if_false, e10, e01, Bool.false_eq_true, sh_1, c_isIx (cq_t H) (cq_T H), ix]
    · simp only [u298_0, u298_1, u298_2, u298_5, u298_8, u298_9, u298_10, u298_11, u298_12, u298_15, u298_18, u298_19, eq_self, q_nl0, q_nlI, q_nlR, not_false_eq_true, q_nz0, q_nz1, q_zv0, q_zv1, q_tl1, q_tl0, q_wif, q_swc, q_swn, List.cons_append, List.nil_append, if_true, if_false, e10, e01, Bool.false_eq_true, sh_195, k_isMan (mq_t KH), ix]
theorem s_lacked {X : XT} {d : Nat} {h : HT} {σ : ST} (C : CI h σ) (K : KI h σ) (O : OKs σ) (x v : Int32) (hv : v = 0 ∨ v = 1) : Pi X (d + 10) 173 [some (.ref 1), some (.int x), some (.int v)] 300 [some (.ref 195), some (.int x), some (.int v)] h := by
  obtain ⟨τ, A, bh, ah, W, F, B, n, t, S, L, V, xx, yy⟩ := σ
  have C0 := C
  have K0 := K
  obtain ⟨⟨T, H, H1'⟩, ⟨o, HA⟩, H3, H4, H5, H6⟩ := C
  obtain ⟨⟨b, f, KH⟩, KA, K3, K4, K5, K6⟩ := K
  have hp := cq_p H
  have h7 := o_cr (cq_k H)
  rcases ix_cases x (k := τ 0 0) (by omega) with ⟨m, hm, rfl, ix⟩ | ix
  · obtain ⟨u, g, g', σ', o', c', k', e1, e2, hi⟩ := tellBoth (X := X) (d := d + 9) C0 K0 O (w := m) (a := 1) (v := v) (by decide) (by omega) hv
    have KHi := KQ_hi hi KH
    refine ⟨u, g, g', σ', o', c', k', fun Q => ?_, fun Q => ?_⟩
    · simp only [u173_0, u173_1, u173_2, u173_5, u173_8, u173_9, u173_12, u173_13, u173_14, u173_15, u173_18, u173_21, u173_22, eq_self, q_nl0, q_nlI, q_nlR, not_false_eq_true, q_nz0, q_nz1, q_zv0, q_zv1, q_tl1, q_tl0, q_wif, q_swc, q_swn, List.cons_append, List.nil_append, if_true, if_false, e10, e01, Bool.false_eq_true, sh_1, sh_179, c_isCraft (cq_t H) (cq_T H), ix, p_1_10 hp, e1]
    · simp only [u300_0, u300_1, u300_2, u300_5, u300_8, u300_9, u300_10, u300_11, u300_12, u300_15, u300_18, u300_19, eq_self, q_nl0, q_nlI, q_nlR, not_false_eq_true, q_nz0, q_nz1, q_zv0, q_zv1, q_tl1, q_tl0, q_wif, q_swc, q_swn, List.cons_append, List.nil_append, if_true, if_false, e10, e01, Bool.false_eq_true, sh_195, k_isCraft (mq_t KHi), ix, e2]
  · refine Pi_of C0 K0 O (Pr_pure (-1) (fun Q => ?_) (fun Q => ?_))
    · simp only [u173_0, u173_1, u173_2, u173_5, u173_8, u173_9, u173_12, u173_13, u173_14, u173_15, u173_18, u173_21, u173_22, eq_self, q_nl0, q_nlI, q_nlR, not_false_eq_true, q_nz0, q_nz1, q_zv0, q_zv1, q_tl1, q_tl0, q_wif, q_swc, q_swn, List.cons_append, List.nil_append, if_true, if_false, e10, e01, Bool.false_eq_true, sh_1, c_isCraft (cq_t H) (cq_T H), ix]
    · simp only [u300_0, u300_1, u300_2, u300_5, u300_8, u300_9, u300_10, u300_11, u300_12, u300_15, u300_18, u300_19, eq_self, q_nl0, q_nlI, q_nlR, not_false_eq_true, q_nz0, q_nz1, q_zv0, q_zv1, q_tl1, q_tl0, q_wif, q_swc, q_swn, List.cons_append, List.nil_append, if_true, if_false, e10, e01, Bool.false_eq_true, sh_195, k_isCraft (mq_t KH), ix]
theorem s_counted {X : XT} {d : Nat} {h : HT} {σ : ST} (C : CI h σ) (K : KI h σ) (O : OKs σ) (x v : Int32) (hv : v = 0 ∨ v = 1) : Pi X (d + 10) 174 [some (.ref 1), some (.int x), some (.int v)] 301 [some (.ref 195), some (.int x), some (.int v)] h := by
  obtain ⟨τ, A, bh, ah, W, F, B, n, t, S, L, V, xx, yy⟩ := σ
  have C0 := C
  have K0 := K
  obtain ⟨⟨T, H, H1'⟩, ⟨o, HA⟩, H3, H4, H5, H6⟩ := C
  obtain ⟨⟨b, f, KH⟩, KA, K3, K4, K5, K6⟩ := K
  have hp := cq_p H
  have ki := fun (Q : QT) (h : HT) => k_isIn (X := X) (d := d + 9) (h := h) (Q := Q) (x := x) (a := 0) (b := 7)
  have hx := ix_k1 (x := x) (k := 8) (by decide) (by decide)
  rw [show nI (8 - 1) = 7 from rfl] at hx
  simp only [hx] at ki
  rcases ix_cases x (k := 8) (by omega) with ⟨m, hm, rfl, ix⟩ | ix
  · simp only [ix, if_true] at ki
    obtain ⟨u, g, g', σ', o', c', k', e1, e2, hi⟩ := tellBoth (X := X) (d := d + 9) C0 K0 O (w := m) (a := 2) (v := v) (by decide) (by omega) hv
    have f1 : (nI m < 0) = False := oI_lt0 (by omega)
    have f2 : (7 < nI m) = False := eq_false (nI_nlt (a := 7) (by omega) (by omega))
    refine ⟨u, g, g', σ', o', c', k', fun Q => ?_, fun Q => ?_⟩
    · simp only [u174_0, u174_1, u174_4, u174_5, u174_7, u174_10, u174_11, u174_14, u174_15, u174_16, u174_17, u174_20, u174_23, u174_24, eq_self, q_nl0, q_nlI, q_nlR, not_false_eq_true, q_nz0, q_nz1, q_zv0, q_zv1, q_tl1, q_tl0, q_wif, q_swc, q_swn, List.cons_append, List.nil_append, if_true, if_false, e10, e01, Bool.false_eq_true, sh_1, sh_179, f1, f2, p_1_10 hp, e1]
    · simp only [u301_0, u301_1, u301_2, u301_4, u301_7, u301_10, u301_11, u301_12, u301_13, u301_14, u301_17, u301_20, u301_21, eq_self, q_nl0, q_nlI, q_nlR, not_false_eq_true, q_nz0, q_nz1, q_zv0, q_zv1, q_tl1, q_tl0, q_wif, q_swc, q_swn, List.cons_append, List.nil_append, if_true, if_false, e10, e01, Bool.false_eq_true, sh_195, ki, e2]
  · simp only [ix, Bool.false_eq_true, if_false] at ki
    rw [ix, if_neg Bool.false_ne_true] at hx
    refine Pi_of C0 K0 O (Pr_pure (-1) (fun Q => ?_) (fun Q => ?_))
    · by_cases x0 : x < 0
      · simp only [u174_0, u174_1, u174_4, u174_5, u174_7, u174_10, u174_11, u174_14, u174_15, u174_16, u174_17, u174_20, u174_23, u174_24, eq_self, q_nl0, q_nlI, q_nlR, not_false_eq_true, q_nz0, q_nz1, q_zv0, q_zv1, q_tl1, q_tl0, q_wif, q_swc, q_swn, List.cons_append, List.nil_append, if_true, if_false, e10, e01, Bool.false_eq_true, eq_true x0]
      · by_cases x1 : 7 < x
        · simp only [u174_0, u174_1, u174_4, u174_5, u174_7, u174_10, u174_11, u174_14, u174_15, u174_16, u174_17, u174_20, u174_23, u174_24, eq_self, q_nl0, q_nlI, q_nlR, not_false_eq_true, q_nz0, q_nz1, q_zv0, q_zv1, q_tl1, q_tl0, q_wif, q_swc, q_swn, List.cons_append, List.nil_append, if_true, if_false, e10, e01, Bool.false_eq_true, eq_false x0, eq_true x1]
        · rw [if_neg x0, if_neg x1] at hx
          exact absurd hx (by decide)
    · simp only [u301_0, u301_1, u301_2, u301_4, u301_7, u301_10, u301_11, u301_12, u301_13, u301_14, u301_17, u301_20, u301_21, eq_self, q_nl0, q_nlI, q_nlR, not_false_eq_true, q_nz0, q_nz1, q_zv0, q_zv1, q_tl1, q_tl0, q_wif, q_swc, q_swn, List.cons_append, List.nil_append, if_true, if_false, e10, e01, Bool.false_eq_true, ki]
theorem s_untell {X : XT} {d : Nat} {h : HT} {σ : ST} (C : CI h σ) (K : KI h σ) (O : OKs σ) (x : Int32) : Pi X (d + 10) 175 [some (.ref 1), some (.int x)] 302 [some (.ref 195), some (.int x)] h := by
  obtain ⟨τ, A, bh, ah, W, F, B, n, t, S, L, V, xx, yy⟩ := σ
  have C0 := C
  have K0 := K
  obtain ⟨⟨T, H, H1'⟩, ⟨o, HA⟩, H3, H4, H5, H6⟩ := C
  obtain ⟨⟨b, f, KH⟩, KA, K3, K4, K5, K6⟩ := K
  have O0 := O
  obtain ⟨O1, O2, O3, O4, O5, O6, O7⟩ := O
  have hp := cq_p H
  have ki := fun (Q : QT) (h : HT) => k_isIn (X := X) (d := d + 9) (h := h) (Q := Q) (x := x) (a := 0) (b := nI n - 1)
  simp only [ix_k (x := x) (k := n) (by omega)] at ki
  rcases ix_cases x (k := n) (by omega) with ⟨m, hm, rfl, ix⟩ | ix
  · simp only [ix, if_true] at ki
    have f1 : (nI m < 0) = False := oI_lt0 (by omega)
    have f2 : (nI m < nI n) = True := eq_true (nI_lt hm (by omega))
    have f3 : (nI m < 30) = True := eq_true (nI_lt (b := 30) (by omega) (by omega))
    have e3 : m_in (nI m) 30 = true := q_in (by omega) (by decide)
    have e4 : (nI m).toNatClampNeg = m := q_cl (by omega)
    have c4 : m_gI h 184 m = S 4 m := H4.2.2 m hm 4 (by decide)
    have k4 : m_gI h 234 m = S 4 m := K4.2.2 m hm 4 (by decide)
    rcases (O6 m hm).2.2.2 with e | ⟨u, hu, e⟩
    · have d1 : Dsi h (m_sI h 184 m (nI t)) := ⟨fun _ _ => rfl, fun c k z1 z2 => by rw [gI_sI, if_neg (by omega)]⟩
      have cs : CSig (m_sI h 184 m (nI t)) n t (fun j i => if j = 4 ∧ i = m then nI t else S j i) := by
        refine ⟨?_, ?_, fun i hi j hj => ?_⟩
        · rw [gI_sI, if_neg (by omega)]
          exact H4.1
        · rw [gI_sI, if_neg (by omega)]
          exact H4.2.1
        · rw [gI_sI]
          by_cases z : j = 4 ∧ i = m
          · rw [if_pos (by omega)]
            exact (if_pos z).symm
          · rw [if_neg (by omega)]
            exact (H4.2.2 i hi j hj).trans (if_neg z).symm
      have Cg := CI_sig C0 d1 cs
      have Kg := KI_hi (Dsi_hi d1) K0
      have K4g := Kg.2.2.2.1
      have c6 : m_gI h 179 6 = nI t := H4.2.1
      generalize hg : m_sI h 184 m (nI t) = g at d1 cs Cg Kg K4g
      have hpg : Ptr g := Ptr_of hp d1.1
      have k4g : m_gI g 234 m = S 4 m := K4g.2.2 m hm 4 (by decide)
      have d2 : Dks g (m_sI g 234 m (nI t)) := ⟨rfl, fun c k z1 z2 => by rw [gI_sI, if_neg (by omega)]⟩
      have ks : KSig (m_sI g 234 m (nI t)) n t (fun j i => if j = 4 ∧ i = m then nI t else S j i) := by
        refine ⟨?_, ?_, fun i hi j hj => ?_⟩
        · rw [gI_sI, if_neg (by omega)]
          exact K4g.1
        · rw [gI_sI, if_neg (by omega)]
          exact K4g.2.1
        · rw [gI_sI]
          by_cases z : j = 4 ∧ i = m
          · rw [if_pos (by omega)]
            exact (if_pos z).symm
          · rw [if_neg (by omega)]
            exact (K4g.2.2 i hi j hj).trans (if_neg z).symm
      refine ⟨1, g, _, _, ⟨O1, O2, O3, O4, O5, fun i hi => ?_, O7⟩, CI_lo (Dks_lo d2) Cg, KI_sig Kg d2 ks, fun Q => ?_, fun Q => ?_⟩
      · have := O6 i hi
        refine ⟨by simpa using this.1, by simpa using this.2.1, by simpa using this.2.2.1, ?_⟩
        show (if 4 = 4 ∧ i = m then nI t else S 4 i) = -1 ∨ ∃ u, u < 2 ^ 31 ∧ (if 4 = 4 ∧ i = m then nI t else S 4 i) = nI u
        by_cases z : i = m
        · rw [if_pos ⟨rfl, z⟩]
          exact Or.inr ⟨t, by omega, rfl⟩
        · rw [if_neg (fun w => z w.2)]
          exact this.2.2.2
      · simp only [u175_0, u175_1, u175_4, u175_5, u175_8, u176_0, u176_1, u176_4, u176_5, u176_6, u176_9, u176_12, u176_13, u176_15, u176_18, u176_19, u176_22, u176_23, u176_24, u176_25, u176_28, u176_29, u176_30, u176_31, u176_34, u176_35, u176_36, u176_39, u176_40, u176_41, eq_self, q_nl0, q_nlI, q_nlR, not_false_eq_true, q_nz0, q_nz1, q_zv0, q_zv1, q_tl1, q_tl0, q_wif, q_swc, q_swn, List.cons_append, List.nil_append, if_true, if_false, e10, e01, Bool.false_eq_true, sh_1, sh_179, sh_184, p_1_10 hp, f1, H4.1, f2, f3, p_179_4 hp, e3, e4, c4, e, c6, hg]
      · simp only [u302_0, u302_1, u302_2, u302_3, u302_6, u302_7, u302_8, u302_11, u302_14, u302_15, u302_18, u302_19, u302_20, u302_23, u302_24, u302_25, u302_26, u302_29, u302_30, u302_31, u302_34, u302_35, u302_36, eq_self, q_nl0, q_nlI, q_nlR, not_false_eq_true, q_nz0, q_nz1, q_zv0, q_zv1, q_tl1, q_tl0, q_wif, q_swc, q_swn, List.cons_append, List.nil_append, if_true, if_false, e10, e01, Bool.false_eq_true, sh_195, sh_234, K4g.1, ki, p_195_60 hpg, e3, e4, k4g, e, m1_lt0, K4g.2.1]
    · have ne : (nI u = -1) = False := nI_m1eq hu
      have nl : (nI u < 0) = False := oI_lt0 hu
      refine Pi_of C0 K0 O0 (Pr_pure 0 (fun Q => ?_) (fun Q => ?_))
      · simp only [u175_0, u175_1, u175_4, u175_5, u175_8, u176_0, u176_1, u176_4, u176_5, u176_6, u176_9, u176_12, u176_13, u176_15, u176_18, u176_19, u176_22, u176_23, u176_24, u176_25, u176_28, u176_29, u176_30, u176_31, u176_34, u176_35, u176_36, u176_39, u176_40, u176_41, eq_self, q_nl0, q_nlI, q_nlR, not_false_eq_true, q_nz0, q_nz1, q_zv0, q_zv1, q_tl1, q_tl0, q_wif, q_swc, q_swn, List.cons_append, List.nil_append, if_true, if_false, e10, e01, Bool.false_eq_true, sh_1, sh_179, sh_184, p_1_10 hp, f1, H4.1, f2, f3, p_179_4 hp, e3, e4, c4, e, ne]
      · simp only [u302_0, u302_1, u302_2, u302_3, u302_6, u302_7, u302_8, u302_11, u302_14, u302_15, u302_18, u302_19, u302_20, u302_23, u302_24, u302_25, u302_26, u302_29, u302_30, u302_31, u302_34, u302_35, u302_36, eq_self, q_nl0, q_nlI, q_nlR, not_false_eq_true, q_nz0, q_nz1, q_zv0, q_zv1, q_tl1, q_tl0, q_wif, q_swc, q_swn, List.cons_append, List.nil_append, if_true, if_false, e10, e01, Bool.false_eq_true, sh_195, sh_234, K4.1, ki, p_195_60 hp, e3, e4, k4, e, nl]
  · simp only [ix, Bool.false_eq_true, if_false] at ki
    refine Pi_of C0 K0 O0 (Pr_pure 0 (fun Q => ?_) (fun Q => ?_))
    · have hx := ix_c (x := x) (k := n) (by omega)
      rw [ix, if_neg Bool.false_ne_true] at hx
      by_cases x0 : x < 0
      · simp only [u175_0, u175_1, u175_4, u175_5, u175_8, u176_0, u176_1, u176_4, u176_5, u176_6, u176_9, u176_12, u176_13, u176_15, u176_18, u176_19, u176_22, u176_23, u176_24, u176_25, u176_28, u176_29, u176_30, u176_31, u176_34, u176_35, u176_36, u176_39, u176_40, u176_41, eq_self, q_nl0, q_nlI, q_nlR, not_false_eq_true, q_nz0, q_nz1, q_zv0, q_zv1, q_tl1, q_tl0, q_wif, q_swc, q_swn, List.cons_append, List.nil_append, if_true, if_false, e10, e01, Bool.false_eq_true, sh_1, sh_179, p_1_10 hp, eq_true x0]
      · by_cases x1 : x < nI n
        · rw [if_neg x0, if_pos x1] at hx
          exact absurd hx (by decide)
        · simp only [u175_0, u175_1, u175_4, u175_5, u175_8, u176_0, u176_1, u176_4, u176_5, u176_6, u176_9, u176_12, u176_13, u176_15, u176_18, u176_19, u176_22, u176_23, u176_24, u176_25, u176_28, u176_29, u176_30, u176_31, u176_34, u176_35, u176_36, u176_39, u176_40, u176_41, eq_self, q_nl0, q_nlI, q_nlR, not_false_eq_true, q_nz0, q_nz1, q_zv0, q_zv1, q_tl1, q_tl0, q_wif, q_swc, q_swn, List.cons_append, List.nil_append, if_true, if_false, e10, e01, Bool.false_eq_true, sh_1, sh_179, p_1_10 hp, eq_false x0, H4.1, eq_false x1]
    · simp only [u302_0, u302_1, u302_2, u302_3, u302_6, u302_7, u302_8, u302_11, u302_14, u302_15, u302_18, u302_19, u302_20, u302_23, u302_24, u302_25, u302_26, u302_29, u302_30, u302_31, u302_34, u302_35, u302_36, eq_self, q_nl0, q_nlI, q_nlR, not_false_eq_true, q_nz0, q_nz1, q_zv0, q_zv1, q_tl1, q_tl0, q_wif, q_swc, q_swn, List.cons_append, List.nil_append, if_true, if_false, e10, e01, Bool.false_eq_true, sh_195, K4.1, ki]
theorem s_later {X : XT} {d : Nat} {h : HT} {σ : ST} (C : CI h σ) (K : KI h σ) (O : OKs σ) (x : Int32) : Pi X (d + 10) 177 [some (.ref 1), some (.int x)] 303 [some (.ref 195), some (.int x)] h := by
  obtain ⟨τ, A, bh, ah, W, F, B, n, t, S, L, V, xx, yy⟩ := σ
  have C0 := C
  have K0 := K
  obtain ⟨⟨T, H, H1'⟩, ⟨o, HA⟩, H3, H4, H5, H6⟩ := C
  obtain ⟨⟨b, f, KH⟩, KA, K3, K4, K5, K6⟩ := K
  have O0 := O
  obtain ⟨O1, O2, O3, O4, O5, O6, O7⟩ := O
  have hp := cq_p H
  have ki := fun (Q : QT) (h : HT) => k_isIn (X := X) (d := d + 9) (h := h) (Q := Q) (x := x) (a := 0) (b := 1000)
  have hx := ix_k1 (x := x) (k := 1001) (by decide) (by decide)
  rw [show nI (1001 - 1) = 1000 from rfl] at hx
  simp only [hx] at ki
  rcases ix_cases x (k := 1001) (by omega) with ⟨m, hm, rfl, ix⟩ | ix
  · simp only [ix, if_true] at ki
    have f1 : (nI m < 0) = False := oI_lt0 (by omega)
    have f2 : (1000 < nI m) = False := eq_false (nI_nlt (a := 1000) (by omega) (by omega))
    have f3 : (100000 < nI (t + m)) = (100000 < t + m) := nI_ltB (a := 100000) (by omega) (by omega)
    by_cases z : 100000 < t + m
    · refine Pi_of C0 K0 O0 (Pr_pure (-1) (fun Q => ?_) (fun Q => ?_))
      · simp only [u177_0, u177_1, u177_4, u177_5, u177_8, u177_11, u177_12, u177_15, u177_18, u177_19, u177_20, u177_23, u177_26, u177_27, u177_28, u177_29, u177_32, u177_33, u177_36, u177_37, u177_38, u177_41, u177_42, u177_45, u177_48, eq_self, q_nl0, q_nlI, q_nlR, not_false_eq_true, q_nz0, q_nz1, q_zv0, q_zv1, q_tl1, q_tl0, q_wif, q_swc, q_swn, List.cons_append, List.nil_append, if_true, if_false, e10, e01, Bool.false_eq_true, sh_1, sh_179, f1, f2, p_1_10 hp, H4.2.1, nI_add, f3, eq_true z]
      · simp only [u303_0, u303_1, u303_2, u303_5, u303_8, u303_11, u303_12, u303_15, u303_16, u303_17, u303_20, u303_23, u303_24, u303_25, u303_26, u303_27, u303_30, u303_31, u303_32, u303_35, u303_36, u303_39, eq_self, q_nl0, q_nlI, q_nlR, not_false_eq_true, q_nz0, q_nz1, q_zv0, q_zv1, q_tl1, q_tl0, q_wif, q_swc, q_swn, List.cons_append, List.nil_append, if_true, if_false, e10, e01, Bool.false_eq_true, sh_195, ki, K4.2.1, nI_add, f3, eq_true z]
    · have d1 : Dsi h (m_sI h 179 6 (nI (t + m))) := ⟨fun _ _ => rfl, fun c k z1 z2 => by rw [gI_sI, if_neg (by omega)]⟩
      have cs : CSig (m_sI h 179 6 (nI (t + m))) n (t + m) S := by
        refine ⟨?_, ?_, fun i hi j hj => ?_⟩
        · rw [gI_sI, if_neg (by omega)]
          exact H4.1
        · rw [gI_sI, if_pos ⟨rfl, rfl⟩]
        · rw [gI_sI, if_neg (by omega)]
          exact H4.2.2 i hi j hj
      have Cg := CI_sig C0 d1 cs
      have Kg := KI_hi (Dsi_hi d1) K0
      have K4g := Kg.2.2.2.1
      have c6 : m_gI h 179 6 = nI t := H4.2.1
      have r6 : m_gI (m_sI h 179 6 (nI (t + m))) 179 6 = nI (t + m) := cs.2.1
      have hpg : Ptr (m_sI h 179 6 (nI (t + m))) := hp
      have d2 : Dks (m_sI h 179 6 (nI (t + m))) (m_sI (m_sI h 179 6 (nI (t + m))) 195 63 (nI (t + m))) := ⟨rfl, fun c k z1 z2 => by rw [gI_sI, if_neg (by omega)]⟩
      have ks : KSig (m_sI (m_sI h 179 6 (nI (t + m))) 195 63 (nI (t + m))) n (t + m) S := by
        refine ⟨?_, ?_, fun i hi j hj => ?_⟩
        · rw [gI_sI, if_neg (by omega)]
          exact K4g.1
        · rw [gI_sI, if_pos ⟨rfl, rfl⟩]
        · rw [gI_sI, if_neg (by omega)]
          exact K4g.2.2 i hi j hj
      have r63 : m_gI (m_sI (m_sI h 179 6 (nI (t + m))) 195 63 (nI (t + m))) 195 63 = nI (t + m) := ks.2.1
      refine ⟨nI (t + m), m_sI h 179 6 (nI (t + m)), _, _, ⟨O1, O2, O3, O4, Nat.le_of_not_lt z, O6, O7⟩, CI_lo (Dks_lo d2) Cg, KI_sig Kg d2 ks, fun Q => ?_, fun Q => ?_⟩
      · simp only [u177_0, u177_1, u177_4, u177_5, u177_8, u177_11, u177_12, u177_15, u177_18, u177_19, u177_20, u177_23, u177_26, u177_27, u177_28, u177_29, u177_32, u177_33, u177_36, u177_37, u177_38, u177_41, u177_42, u177_45, u177_48, eq_self, q_nl0, q_nlI, q_nlR, not_false_eq_true, q_nz0, q_nz1, q_zv0, q_zv1, q_tl1, q_tl0, q_wif, q_swc, q_swn, List.cons_append, List.nil_append, if_true, if_false, e10, e01, Bool.false_eq_true, sh_1, sh_179, f1, f2, gR_sI, p_1_10 hp, c6, nI_add, f3, eq_false z, r6]
      · simp only [u303_0, u303_1, u303_2, u303_5, u303_8, u303_11, u303_12, u303_15, u303_16, u303_17, u303_20, u303_23, u303_24, u303_25, u303_26, u303_27, u303_30, u303_31, u303_32, u303_35, u303_36, u303_39, eq_self, q_nl0, q_nlI, q_nlR, not_false_eq_true, q_nz0, q_nz1, q_zv0, q_zv1, q_tl1, q_tl0, q_wif, q_swc, q_swn, List.cons_append, List.nil_append, if_true, if_false, e10, e01, Bool.false_eq_true, sh_195, ki, K4g.2.1, nI_add, f3, eq_false z, r63]
  · simp only [ix, Bool.false_eq_true, if_false] at ki
    rw [ix, if_neg Bool.false_ne_true] at hx
    refine Pi_of C0 K0 O0 (Pr_pure (-1) (fun Q => ?_) (fun Q => ?_))
    · by_cases x0 : x < 0
      · simp only [u177_0, u177_1, u177_4, u177_5, u177_8, u177_11, u177_12, u177_15, u177_18, u177_19, u177_20, u177_23, u177_26, u177_27, u177_28, u177_29, u177_32, u177_33, u177_36, u177_37, u177_38, u177_41, u177_42, u177_45, u177_48, eq_self, q_nl0, q_nlI, q_nlR, not_false_eq_true, q_nz0, q_nz1, q_zv0, q_zv1, q_tl1, q_tl0, q_wif, q_swc, q_swn, List.cons_append, List.nil_append, if_true, if_false, e10, e01, Bool.false_eq_true, eq_true x0]
      · by_cases x1 : 1000 < x
        · simp only [u177_0, u177_1, u177_4, u177_5, u177_8, u177_11, u177_12, u177_15, u177_18, u177_19, u177_20, u177_23, u177_26, u177_27, u177_28, u177_29, u177_32, u177_33, u177_36, u177_37, u177_38, u177_41, u177_42, u177_45, u177_48, eq_self, q_nl0, q_nlI, q_nlR, not_false_eq_true, q_nz0, q_nz1, q_zv0, q_zv1, q_tl1, q_tl0, q_wif, q_swc, q_swn, List.cons_append, List.nil_append, if_true, if_false, e10, e01, Bool.false_eq_true, eq_false x0, eq_true x1]
        · rw [if_neg x0, if_neg x1] at hx
          exact absurd hx (by decide)
    · simp only [u303_0, u303_1, u303_2, u303_5, u303_8, u303_11, u303_12, u303_15, u303_16, u303_17, u303_20, u303_23, u303_24, u303_25, u303_26, u303_27, u303_30, u303_31, u303_32, u303_35, u303_36, u303_39, eq_self, q_nl0, q_nlI, q_nlR, not_false_eq_true, q_nz0, q_nz1, q_zv0, q_zv1, q_tl1, q_tl0, q_wif, q_swc, q_swn, List.cons_append, List.nil_append, if_true, if_false, e10, e01, Bool.false_eq_true, ki]
