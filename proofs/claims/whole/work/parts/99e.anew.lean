/-! THE MODEL'S CITY CALL -/
/-- the state at a city's beginning; f: what lies behind it -/
def aNew (τ : CT) (f : Nat → Int32) : Nat → Int32 := fun k => if k = 19 then nI (τ 0 5) else if k = 14 then nI (τ 0 6) else if k < τ 0 1 then nI (τ 4 k) else if k < 20 then 0 else f k
def anZ (f : Nat → Int32) (i : Nat) : Nat → Int32 := fun k => if k < i then 0 else f k
def anL (τ : CT) (f : Nat → Int32) (i : Nat) : Nat → Int32 := fun k => if k < i then nI (τ 4 k) else if k < 20 then 0 else f k
def boZ (f : Nat → Int32) (i : Nat) : Nat → Int32 := fun k => if k < i then 0 else f k
section ANEW
variable {X : XT} {d b L : Nat} {h : HT} {τ : CT} {V : Nat → Nat}
theorem k_anew (hp : Ptr h) (hb : b < 2) (h40 : m_gI h 195 40 = nI b) (h199 : m_gI h 199 b = nI (τ 0 1)) (h7 : τ 0 1 ≤ 7) (h209 : ∀ m, m < τ 0 1 → m_gI h 209 (7 * b + m) = nI (τ 4 m)) (h205 : m_gI h 205 b = nI (τ 0 6)) (h204 : m_gI h 204 b = nI (τ 0 5)) (Q : QT) : wq X (d + 1) 188 0 [some (.ref 195), none] [] h Q = Q none (hRw (m_sI (m_sI (m_sI (hRw h 227 (aNew τ (m_gI h 227))) 195 50 0) 195 51 0) 195 62 0) 237 (boZ (m_gI h 237) 3)) := by
  have m2 : m_in (nI b) 2 = true := q_in hb (by decide)
  have cb : (nI b).toNatClampNeg = b := q_cl (by omega)
  have vn0 : vp_nar .boolean 0 = 0 := by decide
  have pz : ∀ f, Ptr (hRw h 227 f) := fun f => hp
  have g227 : ∀ f c k, c ≠ 227 → m_gI (hRw h 227 f) c k = m_gI h c k := fun f c k n => by rw [gI_hRw, if_neg n]
  -- all nought
  have z0 : hRw h 227 (anZ (m_gI h 227) 0) = h := by
    have : anZ (m_gI h 227) 0 = m_gI h 227 := funext fun k => if_neg (by omega)
    rw [this, hRw_id]
  have l1 := q_loop (fun i => wq X (d + 1) 188 2 [some (.ref 195), some (.int (nI i))] [] (hRw h 227 (anZ (m_gI h 227) i)) Q) 20 (fun i hi => by
    have c1 : (nI i < 20) = True := eq_true (nI_lt (b := 20) hi (by decide))
    have c2 : m_in (nI i) 20 = true := q_in hi (by decide)
    have c3 : (nI i).toNatClampNeg = i := q_cl (by omega)
    have eu : up (anZ (m_gI h 227) i) i 0 = anZ (m_gI h 227) (i + 1) := funext fun k => by
      show (if k = i then 0 else if k < i then 0 else _) = if k < i + 1 then 0 else _
      by_cases x : k = i
      · rw [if_pos x, if_pos (by omega)]
      · rw [if_neg x]
        by_cases y : k < i
        · rw [if_pos y, if_pos (by omega)]
        · rw [if_neg y, if_neg (show ¬ k < i + 1 by omega)]
    show wq X (d + 1) 188 2 _ [] _ Q = wq X (d + 1) 188 2 [some (.ref 195), some (.int (nI (i + 1)))] [] (hRw h 227 (anZ (m_gI h 227) (i + 1))) Q
    generalize hz : wq X (d + 1) 188 2 [some (.ref 195), some (.int (nI (i + 1)))] [] (hRw h 227 (anZ (m_gI h 227) (i + 1))) Q = Z
    rw [u188_2]
    simp only [u188_3, u188_5, u188_8, u188_9, u188_12, u188_13, u188_14, u188_15, u188_18, eq_self, q_nl0, q_nlI, q_nlR, not_false_eq_true, q_nz0, q_nz1, q_zv0, q_zv1, q_tl1, q_tl0, q_wif, q_swc, q_swn, List.cons_append, List.nil_append, if_true, if_false, e10, e01, Bool.false_eq_true, sh_195, sh_227, p_195_47 (pz _), c1, c2, c3, sI_hRw, eu, nI_1]
    exact hz)
  -- the loaves
  have z1 : anZ (m_gI h 227) 20 = anL τ (m_gI h 227) 0 := funext fun k => (if_neg (Nat.not_lt_zero k)).symm
  have l2 := q_loop (fun i => wq X (d + 1) 188 23 [some (.ref 195), some (.int (nI i))] [] (hRw h 227 (anL τ (m_gI h 227) i)) Q) (τ 0 1) (fun i hi => by
    have c1 : (nI i < nI (τ 0 1)) = True := eq_true (nI_lt hi (by omega))
    have c2 : m_in (nI i) 20 = true := q_in (by omega) (by decide)
    have c3 : (nI i).toNatClampNeg = i := q_cl (by omega)
    have c4 : m_in (nI (7 * b + i)) 14 = true := q_in (by omega) (by decide)
    have c5 : (nI (7 * b + i)).toNatClampNeg = 7 * b + i := q_cl (by omega)
    have e0 : (0 : Int32) + nI i = nI i := Int32.zero_add _
    have eu : up (anL τ (m_gI h 227) i) i (nI (τ 4 i)) = anL τ (m_gI h 227) (i + 1) := funext fun k => by
      show (if k = i then _ else if k < i then _ else _) = if k < i + 1 then _ else _
      by_cases x : k = i
      · rw [if_pos x, if_pos (by omega), x]
      · rw [if_neg x]
        by_cases y : k < i
        · rw [if_pos y, if_pos (by omega)]
        · rw [if_neg y, if_neg (show ¬ k < i + 1 by omega)]
    show wq X (d + 1) 188 23 _ [] _ Q = wq X (d + 1) 188 23 [some (.ref 195), some (.int (nI (i + 1)))] [] (hRw h 227 (anL τ (m_gI h 227) (i + 1))) Q
    generalize hz : wq X (d + 1) 188 23 [some (.ref 195), some (.int (nI (i + 1)))] [] (hRw h 227 (anL τ (m_gI h 227) (i + 1))) Q = Z
    rw [u188_23]
    simp only [u188_24, u188_25, u188_28, u188_31, u188_32, u188_35, u188_36, u188_37, u188_38, u188_39, u188_42, u188_44, u188_45, u188_48, u188_49, u188_50, u188_51, u188_52, u188_53, u188_56, u189_0, u189_1, u189_4, u189_5, u189_8, u189_9, eq_self, q_nl0, q_nlI, q_nlR, not_false_eq_true, q_nz0, q_nz1, q_zv0, q_zv1, q_tl1, q_tl0, q_wif, q_swc, q_swn, List.cons_append, List.nil_append, if_true, if_false, e10, e01, Bool.false_eq_true, sh_195, sh_227, sh_199, sh_209, p_195_47 (pz _), p_195_12 (pz _), p_195_22 (pz _), g227 _ 195 _ (by decide), g227 _ 199 _ (by decide), g227 _ 209 _ (by decide), h40, m2, cb, h199, nI_7b, c1, c2, c3, c4, c5, e0, h209 i hi, sI_hRw, eu, nI_1, Option.toList]
    exact hz)
  have eA : up (up (anL τ (m_gI h 227) (τ 0 1)) 14 (nI (τ 0 6))) 19 (nI (τ 0 5)) = aNew τ (m_gI h 227) := rfl
  -- the boxes
  obtain ⟨g, eg⟩ : ∃ g, g = m_sI (m_sI (m_sI (hRw h 227 (aNew τ (m_gI h 227))) 195 50 0) 195 51 0) 195 62 0 := ⟨_, rfl⟩
  have pg : ∀ f, Ptr (hRw g 237 f) := fun f => by
    rw [eg]
    exact hp
  have g237 : m_gI g 237 = m_gI h 237 := by
    rw [eg]
    funext k
    rw [gI_sI, if_neg (by omega), gI_sI, if_neg (by omega), gI_sI, if_neg (by omega), g227 _ _ _ (by decide)]
  have z3 : hRw g 237 (boZ (m_gI h 237) 0) = g := by
    have : boZ (m_gI h 237) 0 = m_gI g 237 := funext fun k => (if_neg (Nat.not_lt_zero k)).trans (by rw [g237])
    rw [this, hRw_id]
  have l3 := q_loop (fun i => wq X (d + 1) 188 108 [some (.ref 195), some (.int (nI i))] [] (hRw g 237 (boZ (m_gI h 237) i)) Q) 3 (fun i hi => by
    have c1 : (nI i < 3) = True := eq_true (nI_lt (b := 3) hi (by decide))
    have c2 : m_in (nI i) 3 = true := q_in hi (by decide)
    have c3 : (nI i).toNatClampNeg = i := q_cl (by omega)
    have eu : up (boZ (m_gI h 237) i) i 0 = boZ (m_gI h 237) (i + 1) := funext fun k => by
      show (if k = i then 0 else if k < i then 0 else _) = if k < i + 1 then 0 else _
      by_cases x : k = i
      · rw [if_pos x, if_pos (by omega)]
      · rw [if_neg x]
        by_cases y : k < i
        · rw [if_pos y, if_pos (by omega)]
        · rw [if_neg y, if_neg (show ¬ k < i + 1 by omega)]
    show wq X (d + 1) 188 108 _ [] _ Q = wq X (d + 1) 188 108 [some (.ref 195), some (.int (nI (i + 1)))] [] (hRw g 237 (boZ (m_gI h 237) (i + 1))) Q
    generalize hz : wq X (d + 1) 188 108 [some (.ref 195), some (.int (nI (i + 1)))] [] (hRw g 237 (boZ (m_gI h 237) (i + 1))) Q = Z
    rw [u188_108]
    simp only [u188_109, u188_110, u188_113, u188_114, u188_117, u188_118, u188_119z, u188_119b, u188_120, u188_123, eq_self, q_nl0, q_nlI, q_nlR, not_false_eq_true, q_nz0, q_nz1, q_zv0, q_zv1, q_tl1, q_tl0, q_wif, q_swc, q_swn, List.cons_append, List.nil_append, if_true, if_false, e10, e01, Bool.false_eq_true, sh_195, sh_237, p_195_66 (pg _), c1, c2, c3, vn0, sI_hRw, eu, nI_1]
    exact hz)
  rw [u188_0, u188_1]
  refine Eq.trans (b := wq X (d + 1) 188 2 [some (.ref 195), some (.int (nI 0))] [] (hRw h 227 (anZ (m_gI h 227) 0)) Q) (by rw [z0]; rfl) (l1.trans ?_)
  have d1 : (nI 20 < (20 : Int32)) = False := eq_false (by decide)
  rw [u188_2]
  simp only [u188_3, u188_5, eq_self, q_nl0, q_nlI, q_nlR, not_false_eq_true, q_nz0, q_nz1, q_zv0, q_zv1, q_tl1, q_tl0, q_wif, q_swc, q_swn, List.cons_append, List.nil_append, if_true, if_false, e10, e01, Bool.false_eq_true, d1]
  rw [u188_21, u188_22, z1]
  refine Eq.trans (b := wq X (d + 1) 188 23 [some (.ref 195), some (.int (nI 0))] [] (hRw h 227 (anL τ (m_gI h 227) 0)) Q) rfl (l2.trans ?_)
  have d2 : (nI (τ 0 1) < nI (τ 0 1)) = False := eq_false (nI_nlt (Nat.le_refl _) (by omega))
  rw [u188_23]
  simp only [u188_24, u188_25, u188_28, u188_59, u188_60, u188_63, u188_65, u188_66, u188_69, u188_70, u188_73, u188_74, u188_75, u188_76, u188_79, u188_81, u188_82, u188_85, u188_86, u188_89, u188_90, u188_91, u188_92, u188_93, u188_96, u188_97, u188_98, u188_101, u188_102, u188_103, u189_0, u189_1, u189_4, u189_5, u189_8, u189_9, eq_self, q_nl0, q_nlI, q_nlR, not_false_eq_true, q_nz0, q_nz1, q_zv0, q_zv1, q_tl1, q_tl0, q_wif, q_swc, q_swn, List.cons_append, List.nil_append, if_true, if_false, e10, e01, Bool.false_eq_true, sh_195, sh_227, sh_199, sh_204, sh_205, p_195_47 (pz _), p_195_12 (pz _), p_195_17 (pz _), p_195_18 (pz _), g227 _ 195 _ (by decide), g227 _ 199 _ (by decide), g227 _ 204 _ (by decide), g227 _ 205 _ (by decide), h40, m2, cb, h199, h205, h204, d2, sI_hRw, eA, show m_in 14 20 = true by decide, show m_in 19 20 = true by decide, show (14 : Int32).toNatClampNeg = 14 by decide, show (19 : Int32).toNatClampNeg = 19 by decide, Option.toList]
  rw [← eg, u188_106, u188_107]
  refine Eq.trans (b := wq X (d + 1) 188 108 [some (.ref 195), some (.int (nI 0))] [] (hRw g 237 (boZ (m_gI h 237) 0)) Q) (by rw [z3]; rfl) (l3.trans ?_)
  have d3 : (nI 3 < (3 : Int32)) = False := eq_false (by decide)
  rw [u188_108]
  simp only [u188_109, u188_110, u188_126, eq_self, q_nl0, q_nlI, q_nlR, not_false_eq_true, q_nz0, q_nz1, q_zv0, q_zv1, q_tl1, q_tl0, q_wif, q_swc, q_swn, List.cons_append, List.nil_append, if_true, if_false, e10, e01, Bool.false_eq_true, d3]
end ANEW
