/-! the model: going home -/
def aHomeL (A : Nat → Int32) (n g i : Nat) : Nat → Int32 := fun k => if k = 14 then nI (n &&& (127 ^^^ g)) else if 7 ≤ k ∧ k < 7 + i ∧ g.testBit (k - 7) = true then 0 else A k
def aHome (τ : CT) (A : Nat → Int32) (n g : Nat) : Nat → Int32 := aHomeL A n g (τ 0 1)
theorem aHomeL_0 {A : Nat → Int32} {n g : Nat} : aHomeL A n g 0 = up A 14 (nI (n &&& (127 ^^^ g))) := by
  funext k
  show (if k = 14 then _ else if 7 ≤ k ∧ k < 7 + 0 ∧ g.testBit (k - 7) = true then 0 else A k) = if k = 14 then _ else A k
  by_cases z : k = 14
  · rw [if_pos z, if_pos z]
  · rw [if_neg z, if_neg z, if_neg (by omega)]
theorem aHomeL_s {A : Nat → Int32} {n g i : Nat} (hi : i < 7) : aHomeL A n g (i + 1) = if g.testBit i = true then up (aHomeL A n g i) (7 + i) 0 else aHomeL A n g i := by
  funext k
  by_cases w : g.testBit i = true
  · rw [if_pos w]
    show (if k = 14 then nI (n &&& (127 ^^^ g)) else if 7 ≤ k ∧ k < 7 + (i + 1) ∧ g.testBit (k - 7) = true then 0 else A k) = if k = 7 + i then 0 else if k = 14 then nI (n &&& (127 ^^^ g)) else if 7 ≤ k ∧ k < 7 + i ∧ g.testBit (k - 7) = true then 0 else A k
    by_cases z : k = 7 + i
    · have hz : k - 7 = i := by omega
      rw [if_pos z, if_neg (by omega), if_pos ⟨by omega, by omega, by rw [hz]; exact w⟩]
    · rw [if_neg z]
      by_cases y : k = 14
      · rw [if_pos y, if_pos y]
      · rw [if_neg y, if_neg y]
        by_cases v : 7 ≤ k ∧ k < 7 + i ∧ g.testBit (k - 7) = true
        · rw [if_pos v, if_pos ⟨v.1, by omega, v.2.2⟩]
        · rw [if_neg v, if_neg (fun u => v ⟨u.1, by omega, u.2.2⟩)]
  · rw [if_neg w]
    show (if k = 14 then nI (n &&& (127 ^^^ g)) else if 7 ≤ k ∧ k < 7 + (i + 1) ∧ g.testBit (k - 7) = true then 0 else A k) = if k = 14 then nI (n &&& (127 ^^^ g)) else if 7 ≤ k ∧ k < 7 + i ∧ g.testBit (k - 7) = true then 0 else A k
    by_cases y : k = 14
    · rw [if_pos y, if_pos y]
    · rw [if_neg y, if_neg y]
      by_cases v : 7 ≤ k ∧ k < 7 + i ∧ g.testBit (k - 7) = true
      · rw [if_pos v, if_pos ⟨v.1, by omega, v.2.2⟩]
      · rw [if_neg v, if_neg]
        rintro ⟨u1, u2, u3⟩
        by_cases x : k = 7 + i
        · rw [show k - 7 = i by omega] at u3
          exact w u3
        · exact v ⟨u1, by omega, u3⟩
theorem k_goHome {X : XT} {d b n g : Nat} {h : HT} {Q : QT} {τ : CT} {A P : Nat → Int32} {w o : Int32} (H : MTown h b τ) (hn : n < 128) (hg : g < 128) (ho : A 14 = nI n) : wq X (d + 1) 255 0 [some (.ref 195), some (.int (nI g)), none] [] (hK h A P w o) Q = Q none (hK h (aHome τ A n g) P w o) := by
  have h7 := o_mn (mt_ok H)
  have hp := mt_p H
  have HK : ∀ A, MTown (hK h A P w o) b τ := fun A => H
  simp only [u255_0, u255_1, u255_4, u255_6, u255_7, u255_8, u255_9, u255_10, u255_11, u255_12, u255_13, u255_14, eq_self, q_nl0, q_nlI, q_nlR, not_false_eq_true, q_nz0, q_nz1, q_zv0, q_zv1, q_tl1, q_tl0, q_wif, q_swc, q_swn, List.cons_append, List.nil_append, sh_195, sh_227, gR_hK, p_195_47 hp, show m_in 14 20 = true by decide, show (14 : Int32).toNatClampNeg = 14 by decide, gI_hK227, ho, nI_not n hn g hg, sI_hK227, ← aHomeL_0]
  refine (q_loop (fun i => wq X (d + 1) 255 15 [some (.ref 195), some (.int (nI g)), some (.int (nI i))] [] (hK h (aHomeL A n g i) P w o) Q) (τ 0 1) ?_).trans ?_
  · intro i hi
    show wq X (d + 1) 255 15 _ _ _ _ = _
    rw [u255_15]
    have e1 : (nI i < nI (τ 0 1)) = True := eq_true (nI_lt hi (by omega))
    have e3 : m_in (nI (7 + i)) 20 = true := q_in (by omega) (by decide)
    have e4 : (nI (7 + i)).toNatClampNeg = 7 + i := q_cl (by omega)
    have e5 : (7 : Int32) + nI i = nI (7 + i) := nI_add 7 i
    simp only [u255_16, u255_17, u255_20, u255_23, u255_24, u255_25, u255_28, u255_31, u255_32, u255_35, u255_37, u255_38, u255_39, u255_40, u255_41, u255_44, eq_self, q_nl0, q_nlI, q_nlR, not_false_eq_true, q_nz0, q_nz1, q_zv0, q_zv1, q_tl1, q_tl0, q_wif, q_swc, q_swn, List.cons_append, List.nil_append, sh_195, sh_227, k_many (HK _), e1, if_true, k_has, nI_bit4 g hg i (by omega), gR_hK, p_195_47 hp, e5, e3, e4, sI_hK227, nI_1]
    rw [aHomeL_s (show i < 7 by omega)]
    by_cases z : g.testBit i = true
    · rw [if_pos z, if_pos z, if_neg (by decide)]
    · rw [if_neg z, if_neg z, if_pos rfl]
  · rw [u255_15]
    simp only [u255_16, u255_17, u255_20, u255_23, u255_24, u255_25, u255_28, u255_31, u255_32, u255_35, u255_37, u255_38, u255_39, u255_40, u255_41, u255_44, u255_47, eq_self, q_nl0, q_nlI, q_nlR, not_false_eq_true, q_nz0, q_nz1, q_zv0, q_zv1, q_tl1, q_tl0, q_wif, q_swc, q_swn, List.cons_append, List.nil_append, sh_195, k_many (HK _), eq_false (nI_nlt (Nat.le_refl (τ 0 1)) (by omega)), if_false]
    rfl
