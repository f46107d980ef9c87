/-! the model's day, joined -/
def aSeed (A : Nat → Int32) : Int32 := 137 * A 19 + 71 - (137 * A 19 + 71) / 1000 * 1000
def sOdd (τ : CT) (g : Nat) : Int32 := if 100 < nI (τ 0 3 * pcN (sShort τ g)) then 100 else nI (τ 0 3 * pcN (sShort τ g))
def aWalk (A : Nat → Int32) (g : Nat) : Nat → Int32 := up A 14 (nI g)
def aMid (τ : CT) (A : Nat → Int32) (g : Nat) : Nat → Int32 := up (up (aEatL (aWalk A g) g (τ 0 1)) 16 (A 16 + nI (sLoss τ g))) 19 (aSeed A)
def aFoe (τ : CT) (A : Nat → Int32) (g : Nat) : Nat → Int32 := if aSeed A - aSeed A / 100 * 100 < sOdd τ g then up (up (aMid τ A g) 16 (A 16 + nI (sLoss τ g) + nI (τ 0 4))) 17 (A 17 + 1) else aMid τ A g
def aAge (τ : CT) (A : Nat → Int32) (g : Nat) : Nat → Int32 := aAgeL (aFoe τ A g) g (τ 0 1)
theorem k_dayA {X : XT} {d b n : Nat} {h : HT} {Q : QT} {τ : CT} {A P : Nat → Int32} {w o : Int32} (H : MTown h b τ) (hn : n < 128) (ho : A 14 = nI n) : wq X (d + 6) 260 0 [some (.ref 195), none, none] [] (hK h A P w o) Q = wq X (d + 6) 260 74 [some (.ref 195), some (.int (nI (τ 0 1))), none] [] (hK h (aEatL (aWalk A (n ||| sFol τ n)) (n ||| sFol τ n) (τ 0 1)) P w o) Q := by
  have hp := mt_p H
  have HK : ∀ A, MTown (hK h A P w o) b τ := fun A => H
  have hu : n ||| sFol τ n < 128 := Nat.or_lt_two_pow (n := 7) hn (sFol_lt (mt_ok H) n)
  simp only [u260_0, u260_1, u260_4, u260_6, u260_7, u260_8, u260_9, u260_10, u260_13, u260_15, u260_16, u260_19, u260_20, u260_21, u260_22, eq_self, q_nl0, q_nlI, q_nlR, not_false_eq_true, q_nz0, q_nz1, q_zv0, q_zv1, q_tl1, q_tl0, q_wif, q_swc, q_swn, List.cons_append, List.nil_append, sh_195, sh_227, gR_hK, p_195_47 hp, show m_in 14 20 = true by decide, show (14 : Int32).toNatClampNeg = 14 by decide, gI_hK227, ho, k_followers (HK _) hn, nI_or, sI_hK227]
  exact k_eatL (d := d + 1) (A := aWalk A (n ||| sFol τ n)) H hu up_s
