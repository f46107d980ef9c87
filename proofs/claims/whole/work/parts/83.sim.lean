/-! THE MODEL READS A FORMULA AS THE CLASS DOES -/
theorem f_same {X : XT} {d R L z w z' w' : Nat} {h g : HT} {V : Nat → Nat} {S S' : SF} {P P' : Nat → Nat × Nat} {out : RF} (H : KF h R L V S z P w) (p : PW P z) (hc : rkC V L S.1 = 4) (hc2 : cm P z = true) (G : KF g R L V S' z' P' w') (p' : PW P' z') (hs : S'.1 = S.1) (hc2' : cm P' z' = true) (F : FinM X d R L V g 0 out) : FinM X d R L V h 0 out := by
  obtain ⟨g1, a1, a2, a3⟩ := f_cmp (X := X) (d := d) H p hc hc2
  obtain ⟨g2, b1, b2, b3⟩ := f_cmp (X := X) (d := d) G p' (by rw [hs]; exact hc) hc2'
  obtain ⟨g3, c1, c2, c3⟩ := F
  have e : g3 = g2 := by
    have q := (c3 (fun _ x => x = g2)).symm.trans (b3 (fun _ x => x = g2))
    exact q.mpr rfl
  subst e
  have b2 : KBd g3 (kdO V L S'.1 2, S'.1) := b2
  rw [hs] at b2
  refine ⟨g1, a1, ?_, a3⟩
  have a2 : KBd g1 (kdO V L S.1 2, S.1) := a2
  cases out with
  | inl e =>
    have c2 : KBd g3 e := c2
    exact ⟨a2.1.trans (b2.1.symm.trans c2.1), c2.2.1, a2.2.2.1.trans (b2.2.2.1.symm.trans c2.2.2.1), a2.2.2.2⟩
  | inr S2 =>
    obtain ⟨P2, w2, k⟩ := c2
    have q := b2.1.symm.trans k.2.2.1.1
    have := (nI_eq (a := (kdO V L S.1 2, S.1).1) (b := 0) (by have := b2.2.1.2; omega) (by decide)).mp q
    have := b2.2.1.1
    omega
theorem f_pop2 {X : XT} {d R L z w t : Nat} {h : HT} {V : Nat → Nat} {S : SF} {P : Nat → Nat × Nat} {out : RF} (H : KF h R L V S z P w) (p : PW P z) (hz : 2 ≤ z) (ht : (P (z - 1)).1 = t) (t6 : t ≤ 6) (hr : rkC V L S.1 ≤ t) (hw : t = 3 → 1 ≤ w) (hn : S.2.2.1 < 560) (hc : ¬ (rkC V L S.1 = 4 ∧ t = 4)) (F : ∀ g, KF g R L V (adS (P (z - 1)).2 0 S) (z - 1) P (if t = 3 then w - 1 else w) → FinM X d R L V g 0 out) : FinM X d R L V h 0 out := by
  by_cases y : rkC V L S.1 = 4 ∧ cm P z = true
  · have t56 : t = 5 ∨ t = 6 := by
      have : t ≠ 4 := fun q => hc ⟨y.1, q⟩
      omega
    have ec : cm P z = cm P (z - 1) := by
      have e : cm P (z - 1 + 1) = if (P (z - 1)).1 = 5 ∨ (P (z - 1)).1 = 6 then cm P (z - 1) else decide ((P (z - 1)).1 = 4) := rfl
      rw [show z - 1 + 1 = z by omega, ht, if_pos t56] at e
      exact e
    obtain ⟨g, a1, a2, a3⟩ := k_pop (X := X) (d := d) (r := rkC V L S.1) H p.1 ht t6 hr hw hn
    exact f_same H p y.1 y.2 a2 ⟨by omega, p.2.1, fun i hi => p.2.2 i (by omega)⟩ adS_n.1 (by rw [← ec]; exact y.2) (F g a2)
  · exact f_pop H p hz ht t6 hr hw hn y F
/-- what is asked of how it goes on behind a level's reading -/
def HB (X : XT) (d R L : Nat) (V : Nat → Nat) (z : Nat) (P : Nat → Nat × Nat) (w l : Nat) (out : RF) : RF → Prop
  | .inl e => out = .inl e
  | .inr S1 => (l ≤ 2 ∧ rkC V L S1.1 = 4 → out = .inl (kdO V L S1.1 2, S1.1)) ∧ (¬ (l ≤ 2 ∧ rkC V L S1.1 = 4) → ∀ g, KF g R L V S1 z P w → FinM X d R L V g 0 out)
/-- the top of the pile fits the level -/
def TO (V : Nat → Nat) (L l s t : Nat) : Prop := (l < 5 → t < rkL l ∨ 7 ≤ t) ∧ (2 < l → ntB V L s t = false)
/-- level l is read by the model as f says -/
def LA (X : XT) (d R L : Nat) (V : Nat → Nat) (f l w : Nat) : Prop := ∀ z P h S out, PW P z → z ≤ 6 * w + l + 1 → S.2.2.1 ≤ 9 * S.2.1 → KF h R L V S z P w → TO V L l S.1 (P (z - 1)).1 → HB X d R L V z P w l out (lev V L f l w S) → FinM X d R L V h 1 out
theorem pu_top {P : Nat → Nat × Nat} {z a b : Nat} : pu P z a b (z + 1 - 1) = (a, b) := if_pos (by omega)
theorem cm_lo {P : Nat → Nat × Nat} {z t : Nat} (hz : 1 ≤ z) (ht : (P (z - 1)).1 = t) (h : t < 4 ∨ 7 ≤ t) : cm P z = false := by
  have e : cm P (z - 1 + 1) = if (P (z - 1)).1 = 5 ∨ (P (z - 1)).1 = 6 then cm P (z - 1) else decide ((P (z - 1)).1 = 4) := rfl
  rw [show z - 1 + 1 = z by omega, ht, if_neg (by omega)] at e
  rw [e]
  exact decide_eq_false (by omega)
/-- a state with the pile's new top popped has its old pile -/
theorem KF_pu {R L z w a b : Nat} {h : HT} {V : Nat → Nat} {S : SF} {P : Nat → Nat × Nat} (H : KF h R L V S z (pu P z a b) w) : KF h R L V S z P w := by
  obtain ⟨H1, H2, H3, H4, H5, H6, H7, H8, H9⟩ := H
  refine ⟨H1, H2, H3, H4, H5, H6, H7, fun i hi => ?_, H9⟩
  have q := H8 i hi
  have e : pu P z a b i = P i := if_neg (by omega)
  rw [e] at q
  exact q
theorem k_lo {X : XT} {d R L f l w z : Nat} {V : Nat → Nat} {P : Nat → Nat × Nat} {out : RF} (hv : ∀ i, i < L → V i < 256) (hl : l < 5) (hw : w ≤ 7) (hm : 6 * (8 - w) ≤ f + (l + 1)) (ih : LA X d R L V f (l + 1) w) (p : PW P z) (hz : z ≤ 6 * w + l + 1) (ht : (P (z - 1)).1 < rkL l ∨ 7 ≤ (P (z - 1)).1) : ∀ k h S, (l = 2 → k ≤ 1) → S.2.2.1 ≤ 9 * S.2.1 → KF h R L V S z P w → ¬ (l ≤ 1 ∧ rkC V L S.1 = 4) → (l = 2 → k = 0 → rkC V L S.1 ≠ 4) → HB X d R L V z P w l out (lo (lev V L f) V L l w k (.inr S)) → FinM X d R L V h 0 out
  | 0, h, S, h2, hn, H, ns, ns2, B => by
    refine B.2 (fun q => ?_) h H
    by_cases y : l = 2
    · exact ns2 y rfl q.2
    · exact ns ⟨by omega, q.2⟩
  | k + 1, h, S, h2, hn, H, ns, ns2, B => by
    have hk := k_lo (X := X) (d := d) (out := out) hv hl hw hm ih p hz ht k
    have ro := rk_op (V := V) (L := L) (s := S.1) hv l hl
    by_cases z0 : opC V L S.1 l = 0
    · rw [show lo (lev V L f) V L l w (k + 1) (.inr S) = .inr S from if_pos z0] at B
      refine B.2 (fun q => ?_) h H
      by_cases y : l = 2
      · refine (ro.1.mpr ?_) z0
        rw [q.2, y]
        rfl
      · exact ns ⟨by omega, q.2⟩
    · have er := ro.1.mp z0
      have es := ro.2 z0
      rw [show lo (lev V L f) V L l w (k + 1) (.inr S) = lo (lev V L f) V L l w k (adR (opC V L S.1 l) 0 (lev V L f (l + 1) w (avS V L S))) from if_neg z0] at B
      have rl : 0 < rkL l ∧ rkL l ≤ 6 ∧ rkL l ≠ 3 ∧ (l = 2 ↔ rkL l = 4) ∧ rkB (l + 1) = rkL l ∧ (l + 1 < 5 → rkL l < rkL (l + 1)) ∧ (2 ≤ l → bg (rkL l) = false) := by
        have hl' : l = 0 ∨ l = 1 ∨ l = 2 ∨ l = 3 ∨ l = 4 := by omega
        rcases hl' with rfl | rfl | rfl | rfl | rfl <;> decide
      refine f_op H p (by omega) rfl (by rw [er]; exact rl.1) (by rw [er]; omega) ?_ (fun g G => ?_)
      · rintro ⟨q1, q2⟩
        rw [er] at q1
        rw [cm_lo p.1 rfl (by omega)] at q2
        cases q2
      · rw [er, es] at G
        have p1 : PW (pu P z (rkL l) (opC V L S.1 l)) (z + 1) := PW_pu p (by omega)
        refine ih (z + 1) _ g (avS V L S) out p1 (by omega) hn G ?_ ?_
        · rw [pu_top]
          refine ⟨fun q => Or.inl (rl.2.2.2.2.2.1 q), fun q => ?_⟩
          show (bg (rkL l) && isW V L (avS V L S).1 18) = false
          rw [rl.2.2.2.2.2.2 (by omega), Bool.false_and]
        · cases q : lev V L f (l + 1) w (avS V L S) with
          | inl e =>
            rw [q] at B
            have : lo (lev V L f) V L l w k (adR (opC V L S.1 l) 0 (.inl e)) = .inl e := by cases k <;> rfl
            rw [this] at B
            exact B
          | inr S2 =>
            rw [q] at B
            have B : HB X d R L V z P w l out (lo (lev V L f) V L l w k (.inr (adS (opC V L S.1 l) 0 S2))) := B
            have m := adS_n (k := opC V L S.1 l) (v := 0) (S := S2)
            have gb := lev_n f (l + 1) w _ _ q hw (by omega) (by omega)
            have tb := lev_TB hv f (l + 1) w _ _ q hw (by omega) (by omega)
            -- where the loop ends at once
            have stop : rkC V L S2.1 ≠ rkL l → lo (lev V L f) V L l w k (.inr (adS (opC V L S.1 l) 0 S2)) = .inr (adS (opC V L S.1 l) 0 S2) := fun ne => by
              cases k with
              | zero => rfl
              | succ k =>
                refine if_pos ?_
                rw [m.1]
                exact Classical.byContradiction (fun o => ne ((rk_op (s := S2.1) hv l hl).1.mp o))
            refine ⟨fun st => ?_, fun nst g2 G2 => ?_⟩
            · have e := stop (by rw [st.2]; intro q; have := rl.2.2.2.1.mpr q.symm; omega)
              rw [e] at B
              have := B.1 ⟨by omega, by rw [m.1]; exact st.2⟩
              rw [m.1] at this
              exact this
            · have r2 := tb nst
              rw [rl.2.2.2.2.1] at r2
              have n2 : S2.2.2.1 + 1 ≤ 9 * S2.2.1 := by
                obtain ⟨b1, b2, b3⟩ := gb
                have b1 : S.2.1 < S2.2.1 := b1
                have b3 : S2.2.2.1 + 1 ≤ S.2.2.1 + (9 - w) * (S2.2.1 - S.2.1) := b3
                have : (9 - w) * (S2.2.1 - S.2.1) ≤ 9 * (S2.2.1 - S.2.1) := Nat.mul_le_mul (by omega) (Nat.le_refl _)
                omega
              by_cases y : l = 2 ∧ rkC V L S2.1 = 4
              · have k0 : k = 0 := by have := h2 y.1; omega
                subst k0
                have e := B.1 ⟨by omega, by rw [m.1]; exact y.2⟩
                rw [m.1] at e
                rw [e]
                refine f_cmp G2 p1 y.2 ?_
                show (if (pu P z (rkL l) (opC V L S.1 l) z).1 = 5 ∨ (pu P z (rkL l) (opC V L S.1 l) z).1 = 6 then _ else decide ((pu P z (rkL l) (opC V L S.1 l) z).1 = 4)) = true
                rw [show pu P z (rkL l) (opC V L S.1 l) z = (rkL l, opC V L S.1 l) from if_pos rfl, y.1]
                rfl
              · refine f_pop2 G2 p1 (by have := p.1; omega) (t := rkL l) (by rw [pu_top]) rl.2.1 r2 (fun q => absurd q rl.2.2.1) (by have := gb.2.1; omega) (fun q => y ⟨rl.2.2.2.1.mpr q.2, q.1⟩) (fun g3 G3 => ?_)
                rw [pu_top, if_neg rl.2.2.1, show z + 1 - 1 = z by omega] at G3
                refine hk g3 (adS (opC V L S.1 l) 0 S2) (fun q => by have := h2 q; omega) (by rw [m.2.1]; omega) (KF_pu G3) ?_ ?_ B
                · rw [m.1]
                  exact fun q => nst ⟨by omega, q.2⟩
                · rw [m.1]
                  exact fun q _ q2 => y ⟨q, q2⟩
theorem bg_1 {t : Nat} (h : t ≤ 3 ∨ 7 ≤ t) : bg t = true := decide_eq_true h
theorem KF_9 {h : HT} {R L z w : Nat} {V : Nat → Nat} {S : SF} {P : Nat → Nat × Nat} (H : KF h R L V S z P w) (hn : S.2.2.1 ≤ 9 * S.2.1) : S.2.2.1 < 560 := by
  have := H.2.2.2.1.2.2
  omega
theorem k_lev {X : XT} {d R L : Nat} {V : Nat → Nat} (hv : ∀ i, i < L → V i < 256) : ∀ f l w, 6 * (8 - w) ≤ f + l → l ≤ 5 → w ≤ 7 → LA X d R L V f l w
  | 0, l, w, hm, hl, hw => by omega
  | f + 1, l, w, hm, hl, hw => by
    have ih := k_lev (X := X) (d := d) (R := R) (L := L) hv f
    intro z P h S out p hz hn H to B
    obtain ⟨to1, to2⟩ := to
    have hz9 : z < 90 := by omega
    have t8 : (P (z - 1)).1 ≤ 8 := p.2.2 _ (by have := p.1; omega)
    unfold lev at B
    by_cases h5 : 5 ≤ l
    · rw [if_pos h5] at B
      have hl5 : l = 5 := by omega
      subst hl5
      have nt := to2 (by decide)
      unfold un at B
      by_cases zb : unB V L w S = true
      · rw [if_pos zb] at B
        have um : ubM V L w (P (z - 1)).1 S = true := by
          unfold ubM
          rw [if_neg (by rw [nt]; decide)]
          exact zb
        obtain ⟨g, a1, a2, a3⟩ := k_uBad (X := X) (d := d) H p.1 rfl t8 hw um
        have B : out = .inl (kdO V L S.1 2, S.1) := B
        rw [B]
        exact f_W H p.1 a1 a3 (f_bad a2)
      · have zb' : unB V L w S = false := by simpa using zb
        have nb := of_decide_eq_false zb'
        rw [if_neg zb] at B
        by_cases zo : isG V L S.1 40 = true
        · rw [if_pos zo] at B
          have w6 : w ≤ 6 := Nat.le_of_not_lt (fun q => nb (Or.inr (Or.inl ⟨zo, q⟩)))
          obtain ⟨g, a1, a2, a3⟩ := k_uBr (X := X) (d := d) H p.1 hz9 rfl t8 hw nt zb' zo
          refine f_W H p.1 a1 a3 ?_
          have p1 : PW (pu P z 7 126) (z + 1) := PW_pu p (by decide)
          refine ih 0 (w + 1) (by omega) (by omega) (by omega) (z + 1) _ g (avS V L (upU S)) out p1 (by omega) (show S.2.2.1 ≤ 9 * (S.2.1 + 1) by omega) a2 ⟨fun _ => by rw [pu_top]; exact Or.inr (Nat.le_refl 7), fun q => by omega⟩ ?_
          cases q : lev V L f 0 (w + 1) (avS V L (upU S)) with
          | inl e =>
            rw [q] at B
            exact B
          | inr S2 =>
            rw [q] at B
            have tb := lev_TB hv f 0 (w + 1) _ _ q (by omega) (by omega) (by omega)
            refine ⟨fun st => ?_, fun nst g2 G2 => ?_⟩
            · -- a second relation sign
              have y : isG V L S2.1 41 = false := by
                cases y : isG V L S2.1 41 with
                | false => rfl
                | true =>
                  exfalso
                  have y := of_decide_eq_true y
                  have o := (rk_op (s := S2.1) hv 2 (by decide)).1.mpr st.2
                  have hsl : S2.1 < L := tK_0 (V := V) (L := L) (s := S2.1) (by omega)
                  have e : opC V L S2.1 2 = if tK V L S2.1 = 3 ∧ nI (V S2.1) ∈ m_tx 21 then V S2.1 else 0 := rfl
                  by_cases x : tK V L S2.1 = 3 ∧ nI (V S2.1) ∈ m_tx 21
                  · have := (tx21 _ (hv _ hsl)).mp x.2
                    omega
                  · rw [if_neg x] at e
                    exact o e
              rw [show exG V L 41 (.inr S2) = rfS V L 2 S2 from if_neg (by rw [y]; decide)] at B
              exact B
            · have r0 : rkC V L S2.1 = 0 := Nat.le_zero.mp (tb nst)
              refine f_close G2 p1 (by omega) (by rw [pu_top]) r0 (fun y g3 G3 => ?_) (fun y => ?_)
              · rw [show exG V L 41 (.inr S2) = .inr (avS V L S2) from if_pos y] at B
                rw [show z + 1 - 1 = z by omega, show w + 1 - 1 = w by omega] at G3
                exact B.2 (fun q => by omega) g3 (KF_pu G3)
              · rw [show exG V L 41 (.inr S2) = rfS V L 2 S2 from if_neg (by rw [y]; decide)] at B
                exact B
        · have zo' : isG V L S.1 40 = false := by simpa using zo
          rw [if_neg zo] at B
          obtain ⟨g, a1, a2, a3⟩ := k_uLeaf (X := X) (d := d) H p.1 rfl t8 hw (KF_9 H hn) nt zb' zo'
          exact f_W H p.1 a1 a3 (B.2 (fun q => by omega) g a2)
    · rw [if_neg h5] at B
      have hl5 : l < 5 := by omega
      by_cases zn : l = 2 ∧ isW V L S.1 18 = true
      · rw [if_pos zn] at B
        have tl : (P (z - 1)).1 ≤ 3 ∨ 7 ≤ (P (z - 1)).1 := by
          have q := to1 hl5
          rw [zn.1] at q
          have q : (P (z - 1)).1 < 4 ∨ 7 ≤ (P (z - 1)).1 := q
          omega
        have nt : ntB V L S.1 (P (z - 1)).1 = true := by
          unfold ntB
          rw [bg_1 tl, zn.2]
          rfl
        by_cases y : 6 < w
        · rw [if_pos y] at B
          have um : ubM V L w (P (z - 1)).1 S = true := by
            unfold ubM
            rw [if_pos nt]
            exact decide_eq_true (by omega)
          obtain ⟨g, a1, a2, a3⟩ := k_uBad (X := X) (d := d) H p.1 rfl t8 hw um
          have B : out = .inl (kdO V L S.1 2, S.1) := B
          rw [B]
          exact f_W H p.1 a1 a3 (f_bad a2)
        · rw [if_neg y] at B
          obtain ⟨g, a1, a2, a3⟩ := k_uNot (X := X) (d := d) H p.1 hz9 rfl t8 (by omega) nt
          refine f_W H p.1 a1 a3 ?_
          have p1 : PW (pu P z 3 126) (z + 1) := PW_pu p (by decide)
          refine ih 2 (w + 1) (by omega) (by omega) (by omega) (z + 1) _ g (avS V L S) out p1 (by omega) hn a2 ⟨fun _ => by rw [pu_top]; exact Or.inl (show 3 < 4 by decide), fun q => by omega⟩ ?_
          cases q : lev V L f 2 (w + 1) (avS V L S) with
          | inl e =>
            rw [q] at B
            exact B
          | inr S2 =>
            rw [q] at B
            have B : HB X d R L V z P w l out (.inr (adS 126 0 S2)) := B
            have m := adS_n (k := 126) (v := 0) (S := S2)
            have tb := lev_TB hv f 2 (w + 1) _ _ q (by omega) (by omega) (by omega)
            have gb := lev_n f 2 (w + 1) _ _ q (by omega) (by omega) (by omega)
            refine ⟨fun st => ?_, fun nst g2 G2 => ?_⟩
            · have := B.1 ⟨by omega, by rw [m.1]; exact st.2⟩
              rw [m.1] at this
              exact this
            · have r2 : rkC V L S2.1 ≤ 2 := tb nst
              have n2 : S2.2.2.1 < 560 := by
                refine KF_9 G2 ?_
                obtain ⟨b1, b2, b3⟩ := gb
                have b1 : S.2.1 < S2.2.1 := b1
                have b3 : S2.2.2.1 + 1 ≤ S.2.2.1 + (9 - (w + 1)) * (S2.2.1 - S.2.1) := b3
                have : (9 - (w + 1)) * (S2.2.1 - S.2.1) ≤ 9 * (S2.2.1 - S.2.1) := Nat.mul_le_mul (by omega) (Nat.le_refl _)
                omega
              refine f_pop2 G2 p1 (by have := p.1; omega) (t := 3) (by rw [pu_top]) (by decide) (by omega) (fun _ => by omega) n2 (fun q => by omega) (fun g3 G3 => ?_)
              rw [pu_top, if_pos rfl, show z + 1 - 1 = z by omega, show w + 1 - 1 = w by omega] at G3
              exact B.2 (fun q => by rw [m.1] at q; omega) g3 (KF_pu G3)
      · rw [if_neg zn] at B
        -- the first operand, then the loop
        have ihl := ih (l + 1) w (by omega) (by omega) hw
        have tl := to1 hl5
        have nt' : 2 < l + 1 → ntB V L S.1 (P (z - 1)).1 = false := fun q => by
          by_cases y : 2 < l
          · exact to2 y
          · have l2 : l = 2 := by omega
            have : isW V L S.1 18 = false := by
              cases x : isW V L S.1 18 with
              | false => rfl
              | true => exact absurd ⟨l2, x⟩ zn
            unfold ntB
            rw [this, Bool.and_false]
        have rls : l + 1 < 5 → rkL l < rkL (l + 1) := by
          have hl' : l = 0 ∨ l = 1 ∨ l = 2 ∨ l = 3 ∨ l = 4 := by omega
          rcases hl' with rfl | rfl | rfl | rfl | rfl <;> decide
        refine ihl z P h S out p (by omega) hn H ⟨fun q => by have := rls q; omega, nt'⟩ ?_
        cases q : lev V L f (l + 1) w S with
        | inl e =>
          rw [q] at B
          have : lo (lev V L f) V L l w (if l = 2 then 1 else 30) (.inl e) = .inl e := by
            split <;> rfl
          rw [this] at B
          exact B
        | inr S2 =>
          rw [q] at B
          have gb := lev_n f (l + 1) w _ _ q hw (by omega) (by omega)
          have n2 : S2.2.2.1 ≤ 9 * S2.2.1 := by
            obtain ⟨b1, b2, b3⟩ := gb
            have : (9 - w) * (S2.2.1 - S.2.1) ≤ 9 * (S2.2.1 - S.2.1) := Nat.mul_le_mul (by omega) (Nat.le_refl _)
            omega
          refine ⟨fun st => ?_, fun nst g2 G2 => ?_⟩
          · -- a second relation sign already
            have o : opC V L S2.1 l = 0 := by
              refine Classical.byContradiction (fun o => ?_)
              have := (rk_op (s := S2.1) hv l hl5).1.mp o
              rw [st.2] at this
              have hl' : l = 0 ∨ l = 1 := by omega
              rcases hl' with rfl | rfl <;> cases this
            have : lo (lev V L f) V L l w (if l = 2 then 1 else 30) (.inr S2) = .inr S2 := by
              split
              · exact if_pos o
              · exact if_pos o
            rw [this] at B
            exact B.1 ⟨by omega, st.2⟩
          · exact k_lo hv hl5 hw (by omega) ihl p (by omega) tl (if l = 2 then 1 else 30) g2 S2 (fun e => by rw [if_pos e]; exact Nat.le_refl 1) n2 G2 (fun e => nst ⟨by omega, e.2⟩) (fun e e0 => by rw [if_pos e] at e0; cases e0) B
