/-! WHAT IS SEEN -/
def Dsi (h g : HT) : Prop := (∀ c k, m_gR g c k = m_gR h c k) ∧ ∀ c k, ¬ (c = 179 ∧ (k = 5 ∨ k = 6)) → c < 180 ∨ 185 ≤ c → m_gI g c k = m_gI h c k
theorem CI_sig {h g : HT} {τ : CT} {A : Nat → Int32} {bh ah : Nat} {W : Nat → Nat → Int32} {F : Nat → Bool} {B : Nat → Nat → Int32} {n t n' t' : Nat} {S S' : Nat → Nat → Int32} {L : Nat} {V : Nat → Nat} {x y : Int32} (H : CI h (τ, A, bh, ah, W, F, B, n, t, S, L, V, x, y)) (a : Dsi h g) (C : CSig g n' t' S') : CI g (τ, A, bh, ah, W, F, B, n', t', S', L, V, x, y) := by
  obtain ⟨⟨T, H1, H1'⟩, ⟨o, H2⟩, H3, H4, H5, H6⟩ := H
  refine ⟨⟨T, CQ_eq5 a.1 (fun c k h1 h2 _ => a.2 c k (by omega) (by omega)) H1 ?_ (cq_a H1), (a.1 4 1).trans H1'⟩, ⟨o, CAct_eq (fun c k h1 h2 => a.2 c k (by omega) (by omega)) H2⟩, CBox_eq (fun c k z => a.2 c k (by omega) (by omega)) H3, C, CTap_eq (fun c k z => a.2 c k (by omega) (by omega)) H5, CFau_eq (fun k z => a.2 4 k (by omega) (by omega)) H6⟩
  rw [gS_eq (fun c k h1 h2 => a.2 c k (by omega) (by omega))]
  exact cq_r H1
theorem Dsi_hi {h g : HT} (a : Dsi h g) : Hi h g := ⟨fun c k => Or.inr (Or.inr (a.1 c k)), fun c k z => a.2 c k (by omega) (by omega)⟩
def Dks (h g : HT) : Prop := g.2 = h.2 ∧ ∀ c k, ¬ (c = 195 ∧ (k = 62 ∨ k = 63)) → c < 230 ∨ 235 ≤ c → m_gI g c k = m_gI h c k
theorem Dks_lo {h g : HT} (a : Dks h g) : Lo h g := ⟨by rw [a.1], fun c k z => a.2 c k (by omega) (by omega)⟩
/-- one more row of what is seen -/
def tlS (S : Nat → Nat → Int32) (n : Nat) (a w v t : Int32) : Nat → Nat → Int32 := fun j i => if i = n then (if j = 0 then a else if j = 1 then w else if j = 2 then v else if j = 3 then t else -1) else S j i
theorem nI_back {n : Nat} : nI (n + 1) - 1 = nI n := nI_dn
theorem c_tell {X : XT} {d n t : Nat} {h : HT} {S : Nat → Nat → Int32} {a w v : Int32} (hp : Ptr h) (C : CSig h n t S) (hn : n < 30) (hv : v = 0 ∨ v = 1) : ∃ g, Dsi h g ∧ CSig g (n + 1) t (tlS S n a w v (nI t)) ∧ ∀ Q : QT, wq X d 172 0 [some (.ref 179), some (.int a), some (.int w), some (.int v)] [] h Q = Q (some (.int (nI n))) g := by
  obtain ⟨c1, c2, c3⟩ := C
  have e0 : (nI n < 0) = False := oI_lt0 (by omega)
  have e1 : (nI n < 30) = True := eq_true (nI_lt (b := 30) hn (by omega))
  have e3 : m_in (nI n) 30 = true := q_in hn (by decide)
  have e4 : (nI n).toNatClampNeg = n := q_cl (by omega)
  have ev : vp_nar .boolean v = v := by rcases hv with e | e <;> rw [e] <;> decide
  refine ⟨m_sI (m_sI (m_sI (m_sI (m_sI (m_sI h 180 n a) 181 n w) 182 n v) 183 n (nI t)) 184 n (-1)) 179 5 (nI (n + 1)), ⟨fun _ _ => rfl, fun c k z1 z2 => ?_⟩, ⟨?_, ?_, fun i hi j hj => ?_⟩, fun Q => ?_⟩
  · rw [gI_sI, if_neg (by omega), gI_sI, if_neg (by omega), gI_sI, if_neg (by omega), gI_sI, if_neg (by omega), gI_sI, if_neg (by omega), gI_sI, if_neg (by omega)]
  · rw [gI_sI, if_pos ⟨rfl, rfl⟩]
  · rw [gI_sI, if_neg (by omega), gI_sI, if_neg (by omega), gI_sI, if_neg (by omega), gI_sI, if_neg (by omega), gI_sI, if_neg (by omega), gI_sI, if_neg (by omega), c2]
  · unfold tlS
    simp only [gI_sI]
    by_cases z : i = n
    · rw [if_neg (by omega), if_pos z]
      have : j = 0 ∨ j = 1 ∨ j = 2 ∨ j = 3 ∨ j = 4 := by omega
      rcases this with y | y | y | y | y <;> subst y <;> simp [z]
    · rw [if_neg (by omega), if_neg (by omega), if_neg (by omega), if_neg (by omega), if_neg (by omega), if_neg (by omega), if_neg z]
      exact c3 i (by omega) j hj
  · have g5 : ∀ g, m_gI g 179 5 = nI n → ∀ c v, 180 ≤ c → m_gI (m_sI g c n v) 179 5 = nI n := fun g e c v z => by rw [gI_sI, if_neg (by omega), e]
    have g6 : ∀ g, m_gI g 179 6 = nI t → ∀ c v, 180 ≤ c → m_gI (m_sI g c n v) 179 6 = nI t := fun g e c v z => by rw [gI_sI, if_neg (by omega), e]
    have h51 := g5 _ c1 180 a (by omega)
    have h52 := g5 _ h51 181 w (by omega)
    have h53 := g5 _ h52 182 v (by omega)
    have h54 := g5 _ h53 183 (nI t) (by omega)
    have h55 := g5 _ h54 184 (-1) (by omega)
    have h63 := g6 _ (g6 _ (g6 _ c2 180 a (by omega)) 181 w (by omega)) 182 v (by omega)
    have hl : m_gI (m_sI (m_sI (m_sI (m_sI (m_sI (m_sI h 180 n a) 181 n w) 182 n v) 183 n (nI t)) 184 n (-1)) 179 5 (nI (n + 1))) 179 5 = nI (n + 1) := by rw [gI_sI, if_pos ⟨rfl, rfl⟩]
    simp only [u172_0, u172_1, u172_4, u172_7, u172_8, u172_11, u172_13, u172_16, u172_17, u172_18, u172_19, u172_22, u172_23, u172_26, u172_27, u172_28, u172_29, u172_32, u172_33, u172_36, u172_37, u172_38, u172_39, u172_42, u172_43, u172_46, u172_47z, u172_47b, u172_48, u172_49, u172_52, u172_53, u172_56, u172_57, u172_60, u172_61, u172_62, u172_65, u172_66, u172_69, u172_70, u172_71, u172_72, u172_73, u172_76, u172_77, u172_78, u172_81, u172_82, u172_85, u172_86, u172_87, eq_self, q_nl0, q_nlI, q_nlR, not_false_eq_true, q_nz0, q_nz1, q_zv0, q_zv1, q_tl1, q_tl0, q_wif, q_swc, q_swn, List.cons_append, List.nil_append, if_true, if_false, e10, e01, Bool.false_eq_true, sh_179, sh_180, sh_181, sh_182, sh_183, sh_184, gR_sI, p_179_0 hp, p_179_1 hp, p_179_2 hp, p_179_3 hp, p_179_4 hp, c1, e0, e1, e3, e4, ev, h51, h52, h53, h54, h55, h63, nI_1, hl, nI_back]
theorem tl_ok {S : Nat → Nat → Int32} {n w : Nat} {a v t : Int32} (ha : a = 0 ∨ a = 1 ∨ a = 2) (hw : w < 8) (hv : v = 0 ∨ v = 1) (H : ∀ i, i < n → sOk S i) : ∀ i, i < n + 1 → sOk (tlS S n a (nI w) v t) i := by
  intro i hi
  unfold sOk tlS
  by_cases z : i = n
  · simp only [if_pos z, if_true, show ((1 : Nat) = 0) = False from eq_false (by decide), show ((2 : Nat) = 0) = False from eq_false (by decide), show ((2 : Nat) = 1) = False from eq_false (by decide), show ((4 : Nat) = 0) = False from eq_false (by decide), show ((4 : Nat) = 1) = False from eq_false (by decide), show ((4 : Nat) = 2) = False from eq_false (by decide), show ((4 : Nat) = 3) = False from eq_false (by decide), if_false]
    exact ⟨ha, ⟨w, hw, rfl⟩, hv, Or.inl trivial⟩
  · simp only [if_neg z]
    exact H i (by omega)
