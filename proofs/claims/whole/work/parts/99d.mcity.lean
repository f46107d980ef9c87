/-! A TEXT, as the model reads it -/
def hRw (h : HT) (a : Nat) (f : Nat → Int32) : HT := (fun c k => if c = a then f k else h.1 c k, h.2)
theorem gI_hRw {h : HT} {a c k : Nat} {f : Nat → Int32} : m_gI (hRw h a f) c k = if c = a then f k else m_gI h c k := rfl
theorem hRw_id {h : HT} {a : Nat} : hRw h a (m_gI h a) = h := by
  refine Prod.ext (funext fun c => funext fun k => ?_) rfl
  show (if c = a then m_gI h a k else h.1 c k) = h.1 c k
  by_cases x : c = a
  · rw [if_pos x, x]; rfl
  · rw [if_neg x]
theorem sI_hRw {h : HT} {a k : Nat} {f : Nat → Int32} {v : Int32} : m_sI (hRw h a f) a k v = hRw h a (up f k v) := by
  refine Prod.ext (funext fun c => funext fun j => ?_) rfl
  show (if c = a ∧ j = k then v else if c = a then f j else h.1 c j) = if c = a then (if j = k then v else f j) else h.1 c j
  by_cases x : c = a
  · rw [if_pos x, if_pos x]
    by_cases y : j = k
    · rw [if_pos ⟨x, y⟩, if_pos y]
    · rw [if_neg (fun q => y q.2), if_neg y]
  · rw [if_neg (fun q => x q.1), if_neg x, if_neg x]
theorem mK_e {V : Nat → Nat} {L s : Nat} : (mK V L s = 0) = (tK V L s = 0) := by
  unfold mK
  apply propext
  constructor
  · intro q
    split at q
    · assumption
    · split at q
      · split at q <;> cases q
      · split at q
        · cases q
        · split at q <;> cases q
  · intro q
    rw [if_pos q]
section MCIT
variable {X : XT} {d R L : Nat} {h : HT} {V : Nat → Nat}
theorem k_lines (hv : ∀ i, i < L → V i < 256) : ∀ f s (τ : CT) (h : HT), L ≤ s + f → KP h L V (.inr s) → KD h R τ → lOk τ → ∃ g, FrL R h g ∧ KLr g R L V (rdL V L f (.inr (s, τ))) ∧ ∀ (Q : QT) (l1 : Option Value), wq X (d + 8) 190 74 [some (.ref 195), l1] [] h Q = wq X (d + 8) 190 95 [some (.ref 195), l1] [] g Q := by
  have n10 : ¬ ((1 : Int32) = 0) := by decide
  have fin : ∀ (h : HT) s, tK V L s = 0 → KP h L V (.inr s) → ∀ (Q : QT) (l1 : Option Value), wq X (d + 8) 190 74 [some (.ref 195), l1] [] h Q = wq X (d + 8) 190 95 [some (.ref 195), l1] [] h Q := fun h s z H Q l1 => by
    have ek : m_gI h 195 8 = 0 := by
      have t : m_gI h 195 8 = nI (mK V L s) := H.1.2.2.2.2.1
      rw [t, mK_e.mpr z]
      rfl
    simp only [u190_74, u190_75, u190_78, u190_81, u190_82, u190_85, eq_self, q_nl0, q_nlI, q_nlR, not_false_eq_true, q_nz0, q_nz1, q_zv0, q_zv1, q_tl1, q_tl0, q_wif, q_swc, q_swn, List.cons_append, List.nil_append, if_true, if_false, e10, e01, Bool.false_eq_true, sh_195, k_good H.2, ek, n10, Option.toList]
  intro f
  induction f with
  | zero =>
    intro s τ h hl H D O
    have z : tK V L s = 0 := by
      unfold tK
      rw [if_pos (by omega)]
    exact ⟨h, FrL_rf, ⟨H, D⟩, fin h s z H⟩
  | succ f ih =>
    intro s τ h hl H D O
    by_cases z : tK V L s = 0
    · rw [show rdL V L (f + 1) (.inr (s, τ)) = .inr (s, τ) from if_pos z]
      exact ⟨h, FrL_rf, ⟨H, D⟩, fin h s z H⟩
    · rw [show rdL V L (f + 1) (.inr (s, τ)) = rdL V L f (exL V L 59 (liX V L s τ)) from if_neg z]
      obtain ⟨g1, a1, a2, a3⟩ := k_line (X := X) (d := d) H D O hv
      have ek : (m_gI h 195 8 = 0) = False := by
        have t : m_gI h 195 8 = nI (mK V L s) := H.1.2.2.2.2.1
        rw [t]
        exact eq_false (fun q => z (mK_e.mp ((nI_eq (a := mK V L s) (b := 0) (by have := mK_5 (V := V) (L := L) (s := s); omega) (by decide)).mp q)))
      have st : ∀ (Q : QT) (l1 : Option Value), wq X (d + 8) 190 74 [some (.ref 195), l1] [] h Q = wq X (d + 8) 190 74 [some (.ref 195), l1] [] g1 Q := fun Q l1 => by
        generalize hz : wq X (d + 8) 190 74 [some (.ref 195), l1] [] g1 Q = Z
        rw [u190_74]
        simp only [u190_75, u190_78, u190_81, u190_82, u190_85, u190_88, u190_89, eq_self, q_nl0, q_nlI, q_nlR, not_false_eq_true, q_nz0, q_nz1, q_zv0, q_zv1, q_tl1, q_tl0, q_wif, q_swc, q_swn, List.cons_append, List.nil_append, if_true, if_false, e10, e01, Bool.false_eq_true, sh_195, k_good H.2, ek, n10, Option.toList]
        refine (a3 _).trans ?_
        simp only [u190_92, eq_self, q_nl0, q_nlI, q_nlR, not_false_eq_true, q_nz0, q_nz1, q_zv0, q_zv1, q_tl1, q_tl0, q_wif, q_swc, q_swn, List.cons_append, List.nil_append, if_true, if_false, e10, e01, Bool.false_eq_true]
        exact hz
      cases q : exL V L 59 (liX V L s τ) with
      | inl e =>
        rw [q] at a2
        have a2 : KBd g1 e := a2
        rw [rd_e]
        refine ⟨g1, a1, a2, fun Q l1 => (st Q l1).trans ?_⟩
        simp only [u190_74, u190_75, u190_78, eq_self, q_nl0, q_nlI, q_nlR, not_false_eq_true, q_nz0, q_nz1, q_zv0, q_zv1, q_tl1, q_tl0, q_wif, q_swc, q_swn, List.cons_append, List.nil_append, if_true, if_false, e10, e01, Bool.false_eq_true, sh_195, k_ngood a2, Option.toList]
      | inr p =>
        rw [q] at a2
        obtain ⟨s', τ'⟩ := p
        have i := exL_i hv O q
        obtain ⟨g2, b1, b2, b3⟩ := ih s' τ' g1 (by omega) a2.1 a2.2 i.1
        exact ⟨g2, FrL_tr a1 b1, b2, fun Q l1 => (st Q l1).trans (b3 Q l1)⟩
theorem k_clearBank (hp : Ptr h) (hR : R < 2) (hb : m_gI h 195 41 = nI R) : ∃ g, FrL R h g ∧ g.2 = h.2 ∧ (∀ c k, ¬ (198 ≤ c ∧ c ≤ 218) → ¬ (c = 195 ∧ k = 42) → m_gI g c k = m_gI h c k) ∧ (∀ c, 198 ≤ c ∧ c ≤ 205 ∨ 216 ≤ c ∧ c ≤ 218 → m_gI g c R = 0) ∧ m_gI g 195 42 = nI (560 * R) ∧ ∀ Q : QT, wq X d 187 0 [some (.ref 195)] [] h Q = Q none g := by
  have m2 : m_in (nI R) 2 = true := q_in hR (by decide)
  have cR : (nI R).toNatClampNeg = R := q_cl (by omega)
  have vn0 : vp_nar .boolean 0 = 0 := by decide
  have e5 : (560 : Int32) * nI R = nI (560 * R) := (Int32.ofNat_mul 560 R).symm
  refine ⟨m_sI (m_sI (m_sI (m_sI (m_sI (m_sI (m_sI (m_sI (m_sI (m_sI (m_sI (m_sI h 198 R 0) 199 R 0) 200 R 0) 201 R 0) 202 R 0) 203 R 0) 204 R 0) 205 R 0) 216 R 0) 217 R 0) 218 R 0) 195 42 (nI (560 * R)), ?_, rfl, ?_, ?_, ?_, fun Q => ?_⟩
  · exact FrL_tr (FrL_s (by unfold exK; omega)) (FrL_tr (FrL_s (by unfold exK; omega)) (FrL_tr (FrL_s (by unfold exK; omega)) (FrL_tr (FrL_s (by unfold exK; omega)) (FrL_tr (FrL_s (by unfold exK; omega)) (FrL_tr (FrL_s (by unfold exK; omega)) (FrL_tr (FrL_s (by unfold exK; omega)) (FrL_tr (FrL_s (by unfold exK; omega)) (FrL_tr (FrL_s (by unfold exK; omega)) (FrL_tr (FrL_s (by unfold exK; omega)) (FrL_tr (FrL_s (by unfold exK; omega)) (FrL_s (by unfold exK; omega))))))))))))
  · intro c k x y
    iterate 12 rw [gI_sI, if_neg (by omega)]
  · intro c x
    have x : c = 198 ∨ c = 199 ∨ c = 200 ∨ c = 201 ∨ c = 202 ∨ c = 203 ∨ c = 204 ∨ c = 205 ∨ c = 216 ∨ c = 217 ∨ c = 218 := by omega
    rcases x with rfl | rfl | rfl | rfl | rfl | rfl | rfl | rfl | rfl | rfl | rfl
    all_goals simp only [gI_sI, Nat.reduceEqDiff, false_and, true_and, eq_self, if_true, if_false]
  · rw [gI_sI, if_pos ⟨rfl, rfl⟩]
  · simp only [u187_0, u187_1, u187_4, u187_5, u187_8, u187_9, u187_10, u187_11, u187_14, u187_15, u187_18, u187_19, u187_20, u187_21, u187_24, u187_25, u187_28, u187_29, u187_30, u187_31, u187_34, u187_35, u187_38, u187_39, u187_40, u187_41, u187_44, u187_45, u187_48, u187_49, u187_50, u187_51, u187_54, u187_55, u187_58, u187_59, u187_60, u187_61, u187_64, u187_65, u187_68, u187_69, u187_70, u187_71, u187_74, u187_75, u187_78, u187_79, u187_80, u187_81, u187_84, u187_85, u187_88, u187_89z, u187_89b, u187_90, u187_91, u187_94, u187_95, u187_98, u187_99z, u187_99b, u187_100, u187_101, u187_104, u187_105, u187_108, u187_109z, u187_109b, u187_110, u187_111, u187_114, u187_115, u187_118, u187_119, u187_122, eq_self, q_nl0, q_nlI, q_nlR, not_false_eq_true, q_nz0, q_nz1, q_zv0, q_zv1, q_tl1, q_tl0, q_wif, q_swc, q_swn, List.cons_append, List.nil_append, if_true, if_false, e10, e01, Bool.false_eq_true, sh_195, sh_198, sh_199, sh_200, sh_201, sh_202, sh_203, sh_204, sh_205, sh_216, sh_217, sh_218, gR_sI, p_195_11 hp, p_195_12 hp, p_195_13 hp, p_195_14 hp, p_195_15 hp, p_195_16 hp, p_195_17 hp, p_195_18 hp, p_195_29 hp, p_195_30 hp, p_195_31 hp, m2, cR, vn0, hb, e5, gI_sI, Nat.reduceEqDiff, false_and]
end MCIT
