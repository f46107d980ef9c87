/-! THE MODEL LOOKS AHEAD -/
def Al (h g : HT) : Prop := g.2 = h.2 ∧ ∀ c k, c ≠ 227 → isJ c k = false → m_gI g c k = m_gI h c k
theorem Al_rf {h : HT} : Al h h := ⟨rfl, fun _ _ _ _ => rfl⟩
theorem Al_tr {h g f : HT} (a : Al h g) (b : Al g f) : Al h f := ⟨b.1.trans a.1, fun c k y z => (b.2 c k y z).trans (a.2 c k y z)⟩
theorem Al_of {h g : HT} (a : Same h g) : Al h g := ⟨a.1, fun c k _ z => a.2 c k z⟩
theorem Al_Same {h g : HT} (a : Al h g) (e : m_gI g 227 = m_gI h 227) : Same h g := by
  refine ⟨a.1, fun c k z => ?_⟩
  by_cases y : c = 227
  · rw [y, e]
  · exact a.2 c k y z
theorem Al_p {h g : HT} (a : Al h g) (p : Ptr h) : Ptr g := Ptr_of p (fun c k => by unfold m_gR; rw [a.1])
theorem KQ_al {h g : HT} {b f N N' : Nat} {τ : CT} {A A' : Nat → Int32} (a : Al h g) (H : KQ h b f τ N A) (e : m_gI g 227 = A') (K : aOk τ N' A') : KQ g b f τ N' A' := by
  have e1 : ∀ c k, 198 ≤ c → c ≤ 213 → m_gI g c k = m_gI h c k := fun c k h1 h2 => a.2 c k (by omega) (isJ_mid (by omega))
  have e2 : ∀ c k, 214 ≤ c → c ≤ 223 → m_gI g c k = m_gI h c k := fun c k h1 h2 => a.2 c k (by omega) (isJ_mid (by omega))
  refine ⟨⟨Al_p a H.1.1, H.1.2.1, ⟨H.1.2.2.1.1, (a.2 195 40 (by decide) (by decide)).trans H.1.2.2.1.2⟩, ?_⟩, ?_, H.2.2.1, e, K⟩
  · have H' := H.1.2.2.2
    unfold MCity at *
    simp only [e1 198 _ (by omega) (by omega), e1 199 _ (by omega) (by omega), e1 200 _ (by omega) (by omega), e1 201 _ (by omega) (by omega), e1 202 _ (by omega) (by omega), e1 203 _ (by omega) (by omega), e1 204 _ (by omega) (by omega), e1 205 _ (by omega) (by omega), e1 206 _ (by omega) (by omega), e1 207 _ (by omega) (by omega), e1 208 _ (by omega) (by omega), e1 209 _ (by omega) (by omega), e1 210 _ (by omega) (by omega), e1 211 _ (by omega) (by omega), e1 212 _ (by omega) (by omega), e1 213 _ (by omega) (by omega)]
    exact H'
  · have H' := H.2.1
    unfold MRule at *
    simp only [e2 214 _ (by omega) (by omega), e2 215 _ (by omega) (by omega), e2 216 _ (by omega) (by omega), e2 222 _ (by omega) (by omega), e2 223 _ (by omega) (by omega)]
    exact H'
theorem hK_g {g : HT} {A : Nat → Int32} (e : m_gI g 227 = A) : hK g A (m_gI g 226) (m_gI g 195 46) (m_gI g 195 48) = g := by
  subst e
  exact hK_id
theorem Al_hK {h : HT} {A P : Nat → Int32} {w o : Int32} : Al h (hK h A P w o) := by
  refine ⟨rfl, fun c k y z => ?_⟩
  show (if c = 227 then A k else if c = 226 then P k else if c = 195 ∧ k = 46 then w else if c = 195 ∧ k = 48 then o else h.1 c k) = h.1 c k
  by_cases x : c = 226 ∨ c = 195 ∧ (k = 46 ∨ k = 48)
  · have v : isJ c k = true := by
      unfold isJ
      simp only [Bool.or_eq_true, decide_eq_true_eq]
      omega
    rw [v] at z
    cases z
  · rw [if_neg y, if_neg (by omega), if_neg (by omega), if_neg (by omega)]
theorem k_dayG {X : XT} {d b f N : Nat} {g : HT} {τ : CT} {A : Nat → Int32} (K : KQ g b f τ N A) : ∃ g', Al g g' ∧ KQ g' b f τ (N + 1) (aD τ A) ∧ (∀ k, m_gI g' 229 k = m_gI g 229 k) ∧ m_gI g' 195 48 = sOdd τ (aG τ A) ∧ ∀ Q : QT, wq X (d + 6) 260 0 [some (.ref 195), none, none] [] g Q = Q none g' := by
  obtain ⟨P', w', e⟩ := k_goDay (X := X) (d := d) (P := m_gI g 226) (w := m_gI g 195 46) (o := m_gI g 195 48) (mq_t K) (mq_r K) (mq_f K) (mq_n K) (mq_a K).1.1
  rw [hK_g K.2.2.2.1] at e
  exact ⟨hK g (aDay τ A (aN A)) P' w' (sOdd τ (aN A ||| sFol τ (aN A))), Al_hK, KQ_al Al_hK K rfl (d_ok (mq_k K) (mq_a K)), fun k => rfl, rfl, e⟩
/-! keeping and bringing back -/
def hC (h : HT) (c : Nat) (v : Nat → Int32) : HT := (fun b k => if b = c then v k else h.1 b k, h.2)
theorem gI_hC {h : HT} {c k : Nat} {v : Nat → Int32} : m_gI (hC h c v) c k = v k := if_pos rfl
theorem gI_hCo {h : HT} {c b k : Nat} {v : Nat → Int32} (z : b ≠ c) : m_gI (hC h c v) b k = m_gI h b k := if_neg z
theorem gR_hC {h : HT} {c b k : Nat} {v : Nat → Int32} : m_gR (hC h c v) b k = m_gR h b k := rfl
theorem sI_hC {h : HT} {c k : Nat} {v : Nat → Int32} {x : Int32} : m_sI (hC h c v) c k x = hC h c (up v k x) := by
  apply hx
  · intro b j
    show (if b = c ∧ j = k then x else if b = c then v j else h.1 b j) = if b = c then (if j = k then x else v j) else h.1 b j
    by_cases a : b = c
    · by_cases e : j = k
      · rw [if_pos ⟨a, e⟩, if_pos a, if_pos e]
      · rw [if_neg (fun w => e w.2), if_pos a, if_pos a, if_neg e]
    · rw [if_neg (fun w => a w.1), if_neg a, if_neg a]
  · rfl
theorem hC_id {h : HT} {c : Nat} : hC h c (m_gI h c) = h := by
  apply hx
  · intro b j
    show (if b = c then h.1 c j else h.1 b j) = h.1 b j
    by_cases a : b = c
    · rw [if_pos a, a]
    · rw [if_neg a]
  · rfl
def cpL (v u : Nat → Int32) (i : Nat) : Nat → Int32 := fun k => if k < i then u k else v k
theorem cpL_0 {v u : Nat → Int32} : cpL v u 0 = v := funext fun k => if_neg (Nat.not_lt_zero k)
theorem cpL_s {v u : Nat → Int32} {i : Nat} : cpL v u (i + 1) = up (cpL v u i) i (u i) := by
  funext k
  show (if k < i + 1 then u k else v k) = if k = i then u i else if k < i then u k else v k
  by_cases z : k = i
  · rw [if_pos z, if_pos (by omega), z]
  · rw [if_neg z]
    by_cases y : k < i
    · rw [if_pos y, if_pos (by omega)]
    · rw [if_neg y, if_neg (by omega)]
theorem k_keepNow {X : XT} {d : Nat} {h : HT} {Q : QT} (hp : Ptr h) : wq X d 274 0 [some (.ref 195), none] [] h Q = Q none (hC h 229 (cpL (m_gI h 229) (m_gI h 227) 20)) := by
  simp only [u274_0, u274_1, eq_self, q_nl0, q_nlI, q_nlR, not_false_eq_true, q_nz0, q_nz1, q_zv0, q_zv1, q_tl1, q_tl0, q_wif, q_swc, q_swn, List.cons_append, List.nil_append, if_true, if_false, e10, e01, Bool.false_eq_true]
  refine Eq.trans (b := wq X d 274 2 [some (.ref 195), some (.int (nI 0))] [] (hC h 229 (cpL (m_gI h 229) (m_gI h 227) 0)) Q) ?_ ?_
  · rw [cpL_0, hC_id]
    rfl
  refine (q_loop (fun i => wq X d 274 2 [some (.ref 195), some (.int (nI i))] [] (hC h 229 (cpL (m_gI h 229) (m_gI h 227) i)) Q) 20 ?_).trans ?_
  · intro i hi
    have e1 : (nI i < 20) = True := eq_true (nI_lt (b := 20) (by omega) (by omega))
    have e3 : m_in (nI i) 20 = true := q_in (by omega) (by decide)
    have e4 : (nI i).toNatClampNeg = i := q_cl (by omega)
    have e5 : ∀ v, m_gI (hC h 229 v) 227 i = m_gI h 227 i := fun v => gI_hCo (by decide)
    show wq X d 274 2 _ _ _ _ = _
    rw [u274_2]
    simp only [u274_3, u274_5, u274_8, u274_9, u274_12, u274_13, u274_14, u274_17, u274_18, u274_19, u274_20, u274_23, eq_self, q_nl0, q_nlI, q_nlR, not_false_eq_true, q_nz0, q_nz1, q_zv0, q_zv1, q_tl1, q_tl0, q_wif, q_swc, q_swn, List.cons_append, List.nil_append, if_true, if_false, e10, e01, Bool.false_eq_true, sh_195, sh_227, sh_229, gR_hC, p_195_47 hp, p_195_52 hp, e1, e3, e4, e5, sI_hC, nI_1, cpL_s]
  · rw [u274_2]
    simp only [u274_3, u274_5, u274_8, u274_9, u274_12, u274_13, u274_14, u274_17, u274_18, u274_19, u274_20, u274_23, u274_26, eq_self, q_nl0, q_nlI, q_nlR, not_false_eq_true, q_nz0, q_nz1, q_zv0, q_zv1, q_tl1, q_tl0, q_wif, q_swc, q_swn, List.cons_append, List.nil_append, if_true, if_false, e10, e01, Bool.false_eq_true, eq_false (show ¬ nI 20 < 20 by decide)]
theorem k_bring {X : XT} {d : Nat} {h : HT} {Q : QT} (hp : Ptr h) : wq X d 275 0 [some (.ref 195), none] [] h Q = Q none (hC h 227 (cpL (m_gI h 227) (m_gI h 229) 20)) := by
  simp only [u275_0, u275_1, eq_self, q_nl0, q_nlI, q_nlR, not_false_eq_true, q_nz0, q_nz1, q_zv0, q_zv1, q_tl1, q_tl0, q_wif, q_swc, q_swn, List.cons_append, List.nil_append, if_true, if_false, e10, e01, Bool.false_eq_true]
  refine Eq.trans (b := wq X d 275 2 [some (.ref 195), some (.int (nI 0))] [] (hC h 227 (cpL (m_gI h 227) (m_gI h 229) 0)) Q) ?_ ?_
  · rw [cpL_0, hC_id]
    rfl
  refine (q_loop (fun i => wq X d 275 2 [some (.ref 195), some (.int (nI i))] [] (hC h 227 (cpL (m_gI h 227) (m_gI h 229) i)) Q) 20 ?_).trans ?_
  · intro i hi
    have e1 : (nI i < 20) = True := eq_true (nI_lt (b := 20) (by omega) (by omega))
    have e3 : m_in (nI i) 20 = true := q_in (by omega) (by decide)
    have e4 : (nI i).toNatClampNeg = i := q_cl (by omega)
    have e5 : ∀ v, m_gI (hC h 227 v) 229 i = m_gI h 229 i := fun v => gI_hCo (by decide)
    show wq X d 275 2 _ _ _ _ = _
    rw [u275_2]
    simp only [u275_3, u275_5, u275_8, u275_9, u275_12, u275_13, u275_14, u275_17, u275_18, u275_19, u275_20, u275_23, eq_self, q_nl0, q_nlI, q_nlR, not_false_eq_true, q_nz0, q_nz1, q_zv0, q_zv1, q_tl1, q_tl0, q_wif, q_swc, q_swn, List.cons_append, List.nil_append, if_true, if_false, e10, e01, Bool.false_eq_true, sh_195, sh_227, sh_229, gR_hC, p_195_47 hp, p_195_52 hp, e1, e3, e4, e5, sI_hC, nI_1, cpL_s]
  · rw [u275_2]
    simp only [u275_3, u275_5, u275_8, u275_9, u275_12, u275_13, u275_14, u275_17, u275_18, u275_19, u275_20, u275_23, u275_26, eq_self, q_nl0, q_nlI, q_nlR, not_false_eq_true, q_nz0, q_nz1, q_zv0, q_zv1, q_tl1, q_tl0, q_wif, q_swc, q_swn, List.cons_append, List.nil_append, if_true, if_false, e10, e01, Bool.false_eq_true, eq_false (show ¬ nI 20 < 20 by decide)]
/-- what is kept is A -/
def Kept (g : HT) (A : Nat → Int32) : Prop := ∀ k, k < 20 → m_gI g 229 k = A k
theorem Same_hC {h : HT} {c : Nat} {v : Nat → Int32} (hc : ∀ k, isJ c k = true) : Same h (hC h c v) := by
  refine ⟨rfl, fun b k z => gI_hCo ?_⟩
  intro e
  rw [e, hc k] at z
  cases z
theorem Al_hC {h : HT} {v : Nat → Int32} : Al h (hC h 227 v) := ⟨rfl, fun _ _ y _ => gI_hCo y⟩
theorem k_keepG {X : XT} {d b f N : Nat} {g : HT} {τ : CT} {A : Nat → Int32} (K : KQ g b f τ N A) : ∃ g', Same g g' ∧ Kept g' A ∧ ∀ Q : QT, wq X d 274 0 [some (.ref 195), none] [] g Q = Q none g' := by
  refine ⟨_, Same_hC (c := 229) (fun k => by unfold isJ; simp), fun k hk => ?_, fun Q => k_keepNow (mq_p K)⟩
  rw [gI_hC]
  exact (if_pos hk).trans (mq_A K k)
theorem k_bringG {X : XT} {d b f N N' : Nat} {h g : HT} {τ : CT} {A B : Nat → Int32} (H : KQ h b f τ N A) (a : Al h g) (k0 : Kept g A) (K : KQ g b f τ N' B) (e20 : ∀ k, 20 ≤ k → B k = A k) : ∃ g', Same h g' ∧ ∀ Q : QT, wq X d 275 0 [some (.ref 195), none] [] g Q = Q none g' := by
  refine ⟨_, Al_Same (Al_tr a Al_hC) ?_, fun Q => k_bring (mq_p K)⟩
  funext k
  rw [gI_hC]
  show (if k < 20 then m_gI g 229 k else m_gI g 227 k) = m_gI h 227 k
  rw [mq_A H k, mq_A K k]
  by_cases z : k < 20
  · rw [if_pos z, k0 k z]
  · rw [if_neg z, e20 k (by omega)]
theorem k_goDays {X : XT} {d b f N n : Nat} {g : HT} {τ : CT} {A : Nat → Int32} (K : KQ g b f τ N A) (hn : n ≤ 1000) : ∃ g', Al g g' ∧ Kept g' A ∧ KQ g' b f τ (N + n) (aIt τ A n) ∧ ∀ Q : QT, wq X (d + 7) 273 0 [some (.ref 195), some (.int (nI n)), none] [] g Q = Q none g' := by
  obtain ⟨g1, a1, a2, a3⟩ := k_keepG (X := X) (d := d + 6) K
  have K1 := KQ_same a1 K
  have key := q_loopI (fun i (h : HT) (Q : QT) => wq X (d + 7) 273 6 [some (.ref 195), some (.int (nI n)), some (.int (nI i))] [] h Q) (fun i h => Al g h ∧ Kept h A ∧ KQ h b f τ (N + i) (aIt τ A i)) n (by
    intro i hi h hh
    obtain ⟨b1, b2, b3⟩ := hh
    obtain ⟨h', c1, c2, c3, _, c5⟩ := k_dayG (X := X) (d := d) b3
    refine ⟨h', ⟨Al_tr b1 c1, fun k hk => (c3 k).trans (b2 k hk), c2⟩, funext fun Q => ?_⟩
    have e1 : (nI i < nI n) = True := eq_true (nI_lt (by omega) (by omega))
    show wq X (d + 7) 273 6 _ _ _ _ = _
    rw [u273_6]
    simp only [u273_7, u273_8, u273_11, u273_12, u273_15, u273_18, eq_self, q_nl0, q_nlI, q_nlR, not_false_eq_true, q_nz0, q_nz1, q_zv0, q_zv1, q_tl1, q_tl0, q_wif, q_swc, q_swn, List.cons_append, List.nil_append, if_true, if_false, e10, e01, Bool.false_eq_true, sh_195, e1, c5, nI_1]) g1 ⟨Al_of a1, a2, K1⟩
  obtain ⟨g', ⟨b1, b2, b3⟩, e⟩ := key
  refine ⟨g', b1, b2, b3, fun Q => ?_⟩
  simp only [u273_0, u273_1, u273_4, u273_5, eq_self, q_nl0, q_nlI, q_nlR, not_false_eq_true, q_nz0, q_nz1, q_zv0, q_zv1, q_tl1, q_tl0, q_wif, q_swc, q_swn, List.cons_append, List.nil_append, if_true, if_false, e10, e01, Bool.false_eq_true, sh_195, a3]
  refine (congrFun e Q).trans ?_
  rw [u273_6]
  simp only [u273_7, u273_8, u273_11, u273_12, u273_15, u273_18, u273_21, eq_self, q_nl0, q_nlI, q_nlR, not_false_eq_true, q_nz0, q_nz1, q_zv0, q_zv1, q_tl1, q_tl0, q_wif, q_swc, q_swn, List.cons_append, List.nil_append, if_true, if_false, e10, e01, Bool.false_eq_true, eq_false (nI_nlt (Nat.le_refl n) (by omega))]
theorem c_isAhead {X : XT} {d : Nat} {h : HT} {Q : QT} {x : Int32} : wq X d 103 0 [some (.int x)] [] h Q = Q (some (.int (if ixB x 61 = true then 1 else 0))) h := by
  have := ix_k1 (x := x) (k := 61) (by decide) (by decide)
  rw [show nI (61 - 1) = 60 from rfl] at this
  rw [← this]
  simp only [u103_0, u103_1, u103_4, u103_5, u103_7, u103_10, u103_11, u103_14, u103_15, eq_self, q_nl0, q_nlI, q_nlR, not_false_eq_true, q_nz0, q_nz1, q_zv0, q_zv1, q_tl1, q_tl0, q_wif, q_swc, q_swn, List.cons_append, List.nil_append, if_true, if_false, e10, e01, Bool.false_eq_true]
  split
  · rfl
  · split <;> rfl
theorem k_isAhead {X : XT} {d : Nat} {h : HT} {Q : QT} {x : Int32} : wq X d 272 0 [some (.int x)] [] h Q = Q (some (.int (if ixB x 61 = true then 1 else 0))) h := by
  have := ix_k1 (x := x) (k := 61) (by decide) (by decide)
  rw [show nI (61 - 1) = 60 from rfl] at this
  rw [← this]
  simp only [u272_0, u272_1, u272_4, u272_5, u272_7, u272_10, u272_11, u272_14, u272_15, eq_self, q_nl0, q_nlI, q_nlR, not_false_eq_true, q_nz0, q_nz1, q_zv0, q_zv1, q_tl1, q_tl0, q_wif, q_swc, q_swn, List.cons_append, List.nil_append, if_true, if_false, e10, e01, Bool.false_eq_true]
  split
  · rfl
  · split <;> rfl
theorem c_outB {X : XT} {d n k : Nat} {g : HT} {Q : QT} {τ : CT} {A : Nat → Int32} (hp : Ptr g) (nt : Noted τ A n g) (hk : k ≤ n) (hn : n ≤ 60) : wq X d 114 0 [some (.ref 171), some (.int (nI k))] [] g Q = Q (some (.int (nI (aN (aIt τ A k))))) g := by
  have e1 : (nI k < 0) = False := oI_lt0 (by omega)
  have e2 : (60 < nI k) = False := eq_false (nI_nlt (a := 60) (by omega) (by omega))
  have e3 : m_in (nI k) 61 = true := q_in (by omega) (by decide)
  have e4 : (nI k).toNatClampNeg = k := q_cl (by omega)
  simp only [u114_0, u114_1, u114_4, u114_5, u114_7, u114_10, u114_11, u114_14, u114_15, u114_16, u114_19, u114_20, eq_self, q_nl0, q_nlI, q_nlR, not_false_eq_true, q_nz0, q_nz1, q_zv0, q_zv1, q_tl1, q_tl0, q_wif, q_swc, q_swn, List.cons_append, List.nil_append, if_true, if_false, e10, e01, Bool.false_eq_true, sh_171, sh_175, e1, e2, e3, e4, p_171_1 hp, (nt k hk).1]
theorem c_hunB {X : XT} {d n k : Nat} {g : HT} {Q : QT} {τ : CT} {A : Nat → Int32} (hp : Ptr g) (nt : Noted τ A n g) (hk : k ≤ n) (hn : n ≤ 60) : wq X d 150 0 [some (.ref 171), some (.int (nI k))] [] g Q = Q (some (.int (nI (huS τ (aIt τ A k))))) g := by
  have e1 : (nI k < 0) = False := oI_lt0 (by omega)
  have e2 : (60 < nI k) = False := eq_false (nI_nlt (a := 60) (by omega) (by omega))
  have e3 : m_in (nI k) 61 = true := q_in (by omega) (by decide)
  have e4 : (nI k).toNatClampNeg = k := q_cl (by omega)
  simp only [u150_0, u150_1, u150_4, u150_5, u150_7, u150_10, u150_11, u150_14, u150_15, u150_16, u150_19, u150_20, eq_self, q_nl0, q_nlI, q_nlR, not_false_eq_true, q_nz0, q_nz1, q_zv0, q_zv1, q_tl1, q_tl0, q_wif, q_swc, q_swn, List.cons_append, List.nil_append, if_true, if_false, e10, e01, Bool.false_eq_true, sh_171, sh_176, e1, e2, e3, e4, p_171_2 hp, (nt k hk).2.1]
theorem b_will {X : XT} {d T b f N : Nat} {h : HT} {τ : CT} {A : Nat → Int32} (H : CQ h T τ N A) (K : KQ h b f τ N A) (x : Int32) : Pr X (d + 10) 154 [some (.ref 1), some (.int x)] 271 [some (.ref 195), some (.int x), none] h := by
  have hp := cq_p H
  have hk := cq_k H
  rcases ix_cases x (k := 61) (by decide) with ⟨n, hn, rfl, ix⟩ | ix
  · refine Pr_of (nI (aN (aIt τ A n))) ?_ ?_
    · obtain ⟨g, a1, a2, a3⟩ := c_look (X := X) (d := d + 4) H (show n ≤ 60 by omega)
      refine ⟨g, a1, fun Q => ?_⟩
      simp only [u154_0, u154_1, u154_4, u154_7, u154_8, u154_9, u154_10, u154_13, u154_14, u154_17, u154_18, u154_21, u154_22, u154_25, u154_26, u154_29, u154_30, u154_33, eq_self, q_nl0, q_nlI, q_nlR, not_false_eq_true, q_nz0, q_nz1, q_zv0, q_zv1, q_tl1, q_tl0, q_wif, q_swc, q_swn, List.cons_append, List.nil_append, if_true, if_false, e10, e01, Bool.false_eq_true, sh_1, c_isAhead, ix, p_1_8 hp, cq_T H, p_1_3 hp, sh_171, a3]
      simp only [u154_0, u154_1, u154_4, u154_7, u154_8, u154_9, u154_10, u154_13, u154_14, u154_17, u154_18, u154_21, u154_22, u154_25, u154_26, u154_29, u154_30, u154_33, eq_self, q_nl0, q_nlI, q_nlR, not_false_eq_true, q_nz0, q_nz1, q_zv0, q_zv1, q_tl1, q_tl0, q_wif, q_swc, q_swn, List.cons_append, List.nil_append, if_true, if_false, e10, e01, Bool.false_eq_true, sh_1, sh_171, p_1_8 (cq_p (CQ_same a1 H)), c_outB (cq_p (CQ_same a1 H)) a2 (Nat.le_refl n) (show n ≤ 60 by omega)]
    · intro g a
      have K' := KQ_same a K
      obtain ⟨g1, a1, a2, a3, a4⟩ := k_goDays (X := X) (d := d + 2) K' (show n ≤ 1000 by omega)
      obtain ⟨g2, b1, b2⟩ := k_bringG (X := X) (d := d + 9) K' a1 a2 a3 (fun k hk2 => it_ge hk (Or.inl hk2) n)
      refine ⟨g2, b1, fun Q => ?_⟩
      simp only [u271_0, u271_1, u271_4, u271_7, u271_8, u271_9, u271_10, u271_11, eq_self, q_nl0, q_nlI, q_nlR, not_false_eq_true, q_nz0, q_nz1, q_zv0, q_zv1, q_tl1, q_tl0, q_wif, q_swc, q_swn, List.cons_append, List.nil_append, if_true, if_false, e10, e01, Bool.false_eq_true, sh_195, k_isAhead, ix, a4]
      simp only [u271_14, u271_15, u271_18, u271_20, u271_21, u271_22, u271_23, eq_self, q_nl0, q_nlI, q_nlR, not_false_eq_true, q_nz0, q_nz1, q_zv0, q_zv1, q_tl1, q_tl0, q_wif, q_swc, q_swn, List.cons_append, List.nil_append, if_true, if_false, e10, e01, Bool.false_eq_true, sh_195, sh_227, p_195_47 (mq_p a3), in14, cl14, mq_o a3, b2]
      simp only [u271_26, u271_27, eq_self, q_nl0, q_nlI, q_nlR, not_false_eq_true, q_nz0, q_nz1, q_zv0, q_zv1, q_tl1, q_tl0, q_wif, q_swc, q_swn, List.cons_append, List.nil_append, if_true, if_false, e10, e01, Bool.false_eq_true]
  · refine Pr_pure (-1) (fun Q => ?_) (fun Q => ?_)
    · simp only [u154_0, u154_1, u154_4, u154_7, u154_8, u154_9, u154_10, u154_13, u154_14, u154_17, u154_18, u154_21, u154_22, u154_25, u154_26, u154_29, u154_30, u154_33, eq_self, q_nl0, q_nlI, q_nlR, not_false_eq_true, q_nz0, q_nz1, q_zv0, q_zv1, q_tl1, q_tl0, q_wif, q_swc, q_swn, List.cons_append, List.nil_append, if_true, if_false, e10, e01, Bool.false_eq_true, c_isAhead, ix]
    · simp only [u271_0, u271_1, u271_4, u271_7, u271_8, u271_9, u271_10, u271_11, u271_14, u271_15, u271_18, u271_20, u271_21, u271_22, u271_23, u271_26, u271_27, eq_self, q_nl0, q_nlI, q_nlR, not_false_eq_true, q_nz0, q_nz1, q_zv0, q_zv1, q_tl1, q_tl0, q_wif, q_swc, q_swn, List.cons_append, List.nil_append, if_true, if_false, e10, e01, Bool.false_eq_true, k_isAhead, ix]
