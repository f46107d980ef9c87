/-! WHAT LINES KEEP TO -/
theorem lo_s {V : Nat → Nat} {L l w : Nat} {g : Nat → Nat → SF → RF} (hg : ∀ S S1, g (l + 1) w S = .inr S1 → S.1 ≤ S1.1) : ∀ k r S1 s, lo g V L l w k r = .inr S1 → (∀ S, r = .inr S → s ≤ S.1) → s ≤ S1.1
  | 0, r, S1, s, h, H => H S1 h
  | k + 1, .inl e, S1, s, h, H => by cases h
  | k + 1, .inr S, S1, s, h, H => by
    have hS := H S rfl
    by_cases z : opC V L S.1 l = 0
    · rw [show lo g V L l w (k + 1) (.inr S) = .inr S from if_pos z] at h
      cases h
      exact hS
    · rw [show lo g V L l w (k + 1) (.inr S) = lo g V L l w k (adR (opC V L S.1 l) 0 (g (l + 1) w (avS V L S))) from if_neg z] at h
      refine lo_s hg k _ S1 s h (fun S' e => ?_)
      cases q : g (l + 1) w (avS V L S) with
      | inl e' =>
        rw [q] at e
        cases e
      | inr S2 =>
        rw [q] at e
        have e : adS (opC V L S.1 l) 0 S2 = S' := by
          injection e
        have b := hg _ _ q
        have m := adS_n (k := opC V L S.1 l) (v := 0) (S := S2)
        rw [e] at m
        have := nx_ge (V := V) (L := L) (s := S.1)
        have b : nx V L S.1 ≤ S2.1 := b
        rw [m.1]
        omega
theorem lev_s {V : Nat → Nat} {L : Nat} : ∀ f l w S S1, lev V L f l w S = .inr S1 → S.1 ≤ S1.1
  | 0, l, w, S, S1, h => by cases h
  | f + 1, l, w, S, S1, h => by
    have ih := lev_s (V := V) (L := L) f
    have n1 := nx_ge (V := V) (L := L) (s := S.1)
    unfold lev at h
    by_cases h5 : 5 ≤ l
    · rw [if_pos h5] at h
      unfold un at h
      by_cases zb : unB V L w S = true
      · rw [if_pos zb] at h
        cases h
      · rw [if_neg zb] at h
        by_cases zo : isG V L S.1 40 = true
        · rw [if_pos zo] at h
          cases q : lev V L f 0 (w + 1) (avS V L (upU S)) with
          | inl e =>
            rw [q] at h
            cases h
          | inr S2 =>
            rw [q] at h
            have b : nx V L S.1 ≤ S2.1 := ih _ _ _ _ q
            have n2 := nx_ge (V := V) (L := L) (s := S2.1)
            by_cases zg : isG V L S2.1 41 = true
            · rw [show exG V L 41 (.inr S2) = .inr (avS V L S2) from if_pos zg] at h
              cases h
              show S.1 ≤ nx V L S2.1
              omega
            · rw [show exG V L 41 (.inr S2) = rfS V L 2 S2 from if_neg zg] at h
              cases h
        · rw [if_neg zo] at h
          cases h
          have m := adS_n (k := if kuC V L S.1 = 0 then 110 else kuC V L S.1) (v := if kuC V L S.1 = 0 then dN V S.1 (nDg V L S.1) else 0) (S := upU S)
          show S.1 ≤ nx V L (adS _ _ (upU S)).1
          rw [m.1]
          exact n1
    · rw [if_neg h5] at h
      by_cases hn : l = 2 ∧ isW V L S.1 18 = true
      · rw [if_pos hn] at h
        by_cases hw : 6 < w
        · rw [if_pos hw] at h
          cases h
        · rw [if_neg hw] at h
          cases q : lev V L f 2 (w + 1) (avS V L S) with
          | inl e =>
            rw [q] at h
            cases h
          | inr S2 =>
            rw [q] at h
            have e : adS 126 0 S2 = S1 := by
              injection h
            have b : nx V L S.1 ≤ S2.1 := ih _ _ _ _ q
            have m := adS_n (k := 126) (v := 0) (S := S2)
            rw [e] at m
            rw [m.1]
            omega
      · rw [if_neg hn] at h
        exact lo_s (fun S S1 => ih _ _ S S1) _ _ S1 S.1 h (fun S' e => ih _ _ _ _ e)
theorem fH_cg {τ τ' : CT} (e : ∀ i, τ' 9 i = τ 9 i) : ∀ n, fH τ' n = fH τ n
  | 0 => rfl
  | n + 1 => by
    show (if τ' 9 n ∈ fOps then fH τ' n + 1 else if τ' 9 n = 126 then fH τ' n else fH τ' n - 1) = if τ 9 n ∈ fOps then fH τ n + 1 else if τ 9 n = 126 then fH τ n else fH τ n - 1
    rw [fH_cg e n, e n]
theorem fOk_cg {τ τ' : CT} (e0 : τ' 0 9 = τ 0 9) (e1 : ∀ i, τ' 9 i = τ 9 i) (e2 : ∀ i, τ' 10 i = τ 10 i) (H : fOk τ) : fOk τ' := by
  unfold fOk at *
  simp only [fH_cg e1, e0, e1, e2]
  exact H
theorem fH_hF {τ : CT} {S : Nat × Nat × (Nat → Nat × Nat)} : ∀ n, fH (upB τ S) n = hF S.2.2 n
  | 0 => rfl
  | n + 1 => by
    show (if (S.2.2 n).1 ∈ fOps then fH (upB τ S) n + 1 else if (S.2.2 n).1 = 126 then fH (upB τ S) n else fH (upB τ S) n - 1) = if (S.2.2 n).1 ∈ fOps then hF S.2.2 n + 1 else if (S.2.2 n).1 = 126 then hF S.2.2 n else hF S.2.2 n - 1
    rw [fH_hF n]
theorem ite_le {p : Prop} [Decidable p] {a b n : Nat} (ha : a ≤ n) (hb : b ≤ n) : (if p then a else b) ≤ n := by split <;> assumption
theorem ite_lt {p : Prop} [Decidable p] {a b n : Nat} (ha : a < n) (hb : b < n) : (if p then a else b) < n := by split <;> assumption
theorem lOk_0 : lOk (fun _ _ => 0) := by
  refine ⟨⟨by decide, by decide, by decide, by decide, by decide, by decide, by decide, by decide, fun _ => Nat.zero_le _, fun _ => Nat.zero_le _, fun _ => (by decide : 0 < 16), fun _ => Nat.zero_le _, fun _ => Nat.zero_le _, fun _ => Nat.zero_le _, fun _ => Nat.zero_le _, fun _ => Nat.zero_le _⟩, ⟨fun _ => (by decide : 0 < 2 ^ 40), fun _ => (by decide : 0 < 2 ^ 40), fun _ => (by decide : 0 < 2 ^ 40)⟩, ⟨by decide, by decide, by decide⟩, fun _ => ⟨rfl, rfl⟩, fun q => (nomatch q), ⟨by decide, fun i hi => absurd hi (Nat.not_lt_zero _), fun q => absurd q (Nat.lt_irrefl _)⟩, by decide, by decide⟩
section KEEP
variable {V : Nat → Nat} {L s s' : Nat} {τ τ' : CT}
theorem fiL_i {r : RP} (e : fiL r τ = .inr (s', τ')) : r = .inr s' ∧ τ' = τ := by
  cases r with
  | inl x => cases e
  | inr x =>
    cases e
    exact ⟨rfl, rfl⟩
theorem liC_i (O : lOk τ) (e : liC V L s τ = .inr (s', τ')) : lOk τ' ∧ s ≤ s' := by
  unfold liC at e
  by_cases full : 4 ≤ τ 0 0
  · rw [if_pos full] at e
    cases e
  · rw [if_neg full] at e
    obtain ⟨q, rfl⟩ := fiL_i e
    have b1 : (cP1 V L s τ).2 ≤ 7 := nuP_m
    have b2 : (cP2 V L s τ).2 ≤ 99 := nuP_m
    obtain ⟨x1, y1, -, -, z1, -⟩ := nuP_i q
    obtain ⟨x2, y2, -, z2⟩ := exW_i y1
    obtain ⟨x3, y3, -, -, z3, -⟩ := nuP_i y2
    obtain ⟨x4, y4, -, z4⟩ := exW_i y3
    have i1 := nmP_w y4
    have w40 := wd_40 (isN_1 i1)
    obtain ⟨O1, O2, O3, O4, O5, O6, O7, O8⟩ := O
    obtain ⟨p1, p2, p3, p4, p5, p6, p7, p8, p9, p10, p11, p12, p13, p14, p15, p16⟩ := O1
    refine ⟨⟨⟨show τ 0 0 + 1 ≤ 4 by omega, p2, p3, p4, p5, p6, p7, p8, fun c => (ite_le b1 (p9 c) : (if c = τ 0 0 then _ else τ 1 c) ≤ 7), fun c => (ite_le b2 (p10 c) : (if c = τ 0 0 then _ else τ 2 c) ≤ 99), p11, p12, p13, p14, p15, p16⟩, ⟨fun c => (ite_lt w40 (O2.1 c) : (if c = τ 0 0 then _ else τ 11 c) < 2 ^ 40), O2.2.1, O2.2.2⟩, O3, O4, O5, fOk_cg (τ := τ) rfl (fun _ => rfl) (fun _ => rfl) O6, O7, O8⟩, ?_⟩
    have e4 : s ≤ x4 := by
      rw [show cP0 V L s τ = _ from if_pos i1] at y4
      split at y4
      · cases y4
      · cases y4
        have := nx_ge (V := V) (L := L) (s := s)
        have := nx_ge (V := V) (L := L) (s := nx V L s)
        omega
    have := nx_ge (V := V) (L := L) (s := x1)
    have := nx_ge (V := V) (L := L) (s := x2)
    have := nx_ge (V := V) (L := L) (s := x3)
    have := nx_ge (V := V) (L := L) (s := x4)
    omega
theorem liD_i (O : lOk τ) (e : liD V L s τ = .inr (s', τ')) : lOk τ' ∧ s ≤ s' := by
  unfold liD at e
  by_cases full : 5 ≤ τ 0 2
  · rw [if_pos full] at e
    cases e
  · rw [if_neg full] at e
    obtain ⟨q, rfl⟩ := fiL_i e
    have b1 : (dP1 V L s τ).2 ≤ 999 := nuP_m
    have b2 : (dP2 V L s τ).2 ≤ 99 := nuP_m
    obtain ⟨x1, y1, -, -, z1, -⟩ := nuP_i q
    obtain ⟨x2, y2, -, z2⟩ := exW_i y1
    obtain ⟨x3, y3, -, -, z3, -⟩ := nuP_i y2
    obtain ⟨x4, y4, -, z4⟩ := exW_i y3
    have i1 := nmP_w y4
    have w40 := wd_40 (isN_1 i1)
    obtain ⟨O1, O2, O3, O4, O5, O6, O7, O8⟩ := O
    obtain ⟨p1, p2, p3, p4, p5, p6, p7, p8, p9, p10, p11, p12, p13, p14, p15, p16⟩ := O1
    refine ⟨⟨⟨p1, p2, show τ 0 2 + 1 ≤ 5 by omega, p4, p5, p6, p7, p8, p9, p10, p11, p12, p13, p14, fun c => (ite_le b1 (p15 c) : (if c = τ 0 2 then _ else τ 7 c) ≤ 999), fun c => (ite_le b2 (p16 c) : (if c = τ 0 2 then _ else τ 8 c) ≤ 99)⟩, ⟨O2.1, O2.2.1, fun c => (ite_lt w40 (O2.2.2 c) : (if c = τ 0 2 then _ else τ 13 c) < 2 ^ 40)⟩, O3, O4, O5, fOk_cg (τ := τ) rfl (fun _ => rfl) (fun _ => rfl) O6, O7, O8⟩, ?_⟩
    have e4 : s ≤ x4 := by
      rw [show dP0 V L s τ = _ from if_pos i1] at y4
      split at y4
      · cases y4
      · cases y4
        have := nx_ge (V := V) (L := L) (s := s)
        have := nx_ge (V := V) (L := L) (s := nx V L s)
        omega
    have := nx_ge (V := V) (L := L) (s := x1)
    have := nx_ge (V := V) (L := L) (s := x2)
    have := nx_ge (V := V) (L := L) (s := x3)
    have := nx_ge (V := V) (L := L) (s := x4)
    omega
theorem crL_16 {ν : Nat → Nat} {n : Nat} (hn : n ≤ 4) : ∀ k t (r : RP), t < 16 → (crL V L ν n k t r).2 < 16
  | 0, t, r, h => h
  | k + 1, t, .inl e, h => h
  | k + 1, t, .inr s, h => by
    by_cases z : isN V L s = true
    · rw [show crL V L ν n (k + 1) t (.inr s) = crL V L ν n k (t ||| (cnP V L ν n t (.inr s)).2) (cnP V L ν n t (.inr s)).1 from if_pos z]
      exact crL_16 hn k _ _ (or_16 h (cnP_16 hn))
    · rw [show crL V L ν n (k + 1) t (.inr s) = (.inr s, t) from if_neg z]
      exact h
theorem liM_i (O : lOk τ) (e : liM V L s τ = .inr (s', τ')) : lOk τ' ∧ s ≤ s' := by
  unfold liM at e
  by_cases full : 7 ≤ τ 0 1
  · rw [if_pos full] at e
    cases e
  · rw [if_neg full] at e
    obtain ⟨q, rfl⟩ := fiL_i e
    have b3 : (mP3 V L s τ).2 ≤ 20 := nuP_m
    have b4 : (mP4 V L s τ).2 ≤ 99 := nuP_m
    have b5 : (mP5 V L s τ).2 ≤ 6 := otP_m
    have m := mP_i q
    have w40 := wd_40 (isN_1 m.1)
    obtain ⟨O1, O2, O3, O4, O5, O6, O7, O8⟩ := O
    obtain ⟨p1, p2, p3, p4, p5, p6, p7, p8, p9, p10, p11, p12, p13, p14, p15, p16⟩ := O1
    have b2 : (mP2 V L s τ).2 < 16 := crL_16 p1 _ _ _ (cnP_16 p1)
    refine ⟨⟨⟨p1, show τ 0 1 + 1 ≤ 7 by omega, p3, p4, p5, p6, ?_, p8, p9, p10, fun c => (ite_lt b2 (p11 c) : (if c = τ 0 1 then _ else τ 3 c) < 16), fun c => (ite_le b3 (p12 c) : (if c = τ 0 1 then _ else τ 4 c) ≤ 20), fun c => (ite_le b4 (p13 c) : (if c = τ 0 1 then _ else τ 5 c) ≤ 99), fun c => (ite_le b5 (p14 c) : (if c = τ 0 1 then _ else τ 6 c) ≤ 6), p15, p16⟩, ⟨O2.1, fun c => (ite_lt w40 (O2.2.1 c) : (if c = τ 0 1 then _ else τ 12 c) < 2 ^ 40), O2.2.2⟩, O3, O4, O5, fOk_cg (τ := τ) rfl (fun _ => rfl) (fun _ => rfl) O6, O7, O8⟩, m.2⟩
    show (if (mP6 V L s τ).2 = 1 then τ 0 6 ||| 2 ^ τ 0 1 else τ 0 6) ≤ 2 ^ (τ 0 1 + 1) - 1
    have h1 : τ 0 6 ≤ 2 ^ τ 0 1 - 1 := p7
    have h2 := Nat.two_pow_pos (τ 0 1)
    have h3 : 2 ^ (τ 0 1 + 1) = 2 ^ τ 0 1 * 2 := Nat.pow_succ 2 (τ 0 1)
    have h4 : τ 0 6 ||| 2 ^ τ 0 1 < 2 ^ (τ 0 1 + 1) := Nat.or_lt_two_pow (by omega) (by omega)
    split <;> omega
theorem liB_i (hv : ∀ i, i < L → V i < 256) (O : lOk τ) (e : liB V L s τ = .inr (s', τ')) : lOk τ' ∧ s ≤ s' := by
  unfold liB at e
  cases q : lev V L 48 0 0 (nx V L s, 0, 0, fun _ => (0, 0)) with
  | inl x =>
    rw [q] at e
    cases e
  | inr S =>
    rw [q] at e
    have e1 : S.1 = s' := congrArg Prod.fst (Sum.inr.inj e)
    have e2 : upB τ S.2 = τ' := congrArg Prod.snd (Sum.inr.inj e)
    have n1 := nx_ge (V := V) (L := L) (s := s)
    have s1 : nx V L s ≤ S.1 := lev_s _ _ _ _ _ q
    have gb := lev_n 48 0 0 _ _ q (by decide) (by decide) (by decide)
    have hi0 : HI (nx V L s, 0, 0, fun _ => (0, 0)) := ⟨fun i hi => absurd hi (Nat.not_lt_zero _), Nat.zero_le _, Nat.zero_le _⟩
    obtain ⟨hi, hn⟩ := lev_h hv 48 0 0 _ _ hi0 q (by decide) (by decide) (by decide)
    have hn : hF S.2.2.2 S.2.2.1 = 1 := hn
    have u30 := gb.2.1
    have c9 := hi.2.2
    have pos : 0 < S.2.2.1 := by
      rcases Nat.eq_zero_or_pos S.2.2.1 with z | z
      · rw [z] at hn
        cases hn
      · exact z
    rw [← e2]
    obtain ⟨O1, O2, O3, O4, O5, O6, O7, O8⟩ := O
    obtain ⟨p1, p2, p3, p4, p5, p6, p7, p8, p9, p10, p11, p12, p13, p14, p15, p16⟩ := O1
    refine ⟨⟨⟨p1, p2, p3, p4, p5, p6, p7, Nat.le_refl 1, p9, p10, p11, p12, p13, p14, p15, p16⟩, O2, ⟨Nat.le_refl 1, O3.2⟩, fun w => (nomatch w), fun _ => pos, ⟨show S.2.2.1 ≤ 1600 by omega, fun i hi' => ?_, fun _ => ?_⟩, u30, show S.2.2.1 ≤ 560 by omega⟩, by omega⟩
    · have h1 := hi.1 i hi'
      rw [fH_hF]
      exact h1
    · rw [fH_hF]
      exact hn
theorem liF_i (O : lOk τ) (e : liF V L s τ = .inr (s', τ')) : lOk τ' ∧ s ≤ s' := by
  obtain ⟨q, rfl⟩ := fiL_i e
  have b1 : (fP1 V L s).2 ≤ 100 := nuP_m
  have b2 : (fP2 V L s).2 ≤ 999 := nuP_m
  obtain ⟨x1, y1, -, -, z1, -⟩ := nuP_i q
  obtain ⟨x2, y2, -, z2⟩ := exW_i y1
  obtain ⟨x3, y3, -, -, z3, -⟩ := nuP_i y2
  obtain ⟨x4, y4, -, z4⟩ := exW_i y3
  cases y4
  obtain ⟨O1, O2, O3, O4, O5, O6, O7, O8⟩ := O
  obtain ⟨p1, p2, p3, p4, p5, p6, p7, p8, p9, p10, p11, p12, p13, p14, p15, p16⟩ := O1
  refine ⟨⟨⟨p1, p2, p3, b1, b2, p6, p7, p8, p9, p10, p11, p12, p13, p14, p15, p16⟩, O2, ⟨O3.1, Nat.le_refl 1, O3.2.2⟩, O4, O5, fOk_cg (τ := τ) rfl (fun _ => rfl) (fun _ => rfl) O6, O7, O8⟩, ?_⟩
  have := nx_ge (V := V) (L := L) (s := x1)
  have := nx_ge (V := V) (L := L) (s := x2)
  have := nx_ge (V := V) (L := L) (s := x3)
  have := nx_ge (V := V) (L := L) (s := s)
  omega
theorem liW_i (O : lOk τ) (e : liW V L s τ = .inr (s', τ')) : lOk τ' ∧ s ≤ s' := by
  obtain ⟨q, rfl⟩ := fiL_i e
  have b1 : (nuP V L 999 (exW V L 26 (.inr s))).2 ≤ 999 := nuP_m
  obtain ⟨x3, y3, -, -, z3, -⟩ := nuP_i q
  obtain ⟨x4, y4, -, z4⟩ := exW_i y3
  cases y4
  obtain ⟨O1, O2, O3, O4, O5, O6, O7, O8⟩ := O
  obtain ⟨p1, p2, p3, p4, p5, p6, p7, p8, p9, p10, p11, p12, p13, p14, p15, p16⟩ := O1
  refine ⟨⟨⟨p1, p2, p3, p4, p5, b1, p7, p8, p9, p10, p11, p12, p13, p14, p15, p16⟩, O2, ⟨O3.1, O3.2.1, Nat.le_refl 1⟩, O4, O5, fOk_cg (τ := τ) rfl (fun _ => rfl) (fun _ => rfl) O6, O7, O8⟩, ?_⟩
  have := nx_ge (V := V) (L := L) (s := x3)
  have := nx_ge (V := V) (L := L) (s := s)
  omega
theorem liX_i (hv : ∀ i, i < L → V i < 256) (O : lOk τ) (e : liX V L s τ = .inr (s', τ')) : lOk τ' ∧ s ≤ s' := by
  unfold liX at e
  split at e
  · exact liC_i O e
  · split at e
    · exact liM_i O e
    · split at e
      · exact liD_i O e
      · split at e
        · exact liB_i hv O e
        · split at e
          · exact liF_i O e
          · split at e
            · exact liW_i O e
            · cases e
/-- a good line goes on, and keeps to it -/
theorem exL_i (hv : ∀ i, i < L → V i < 256) (O : lOk τ) (e : exL V L 59 (liX V L s τ) = .inr (s', τ')) : lOk τ' ∧ s + 1 ≤ s' := by
  cases q : liX V L s τ with
  | inl x =>
    rw [q] at e
    cases e
  | inr p =>
    rw [q] at e
    obtain ⟨s1, τ1⟩ := p
    obtain ⟨o, g⟩ := liX_i hv O q
    by_cases z : isG V L s1 59 = true
    · rw [show exL V L 59 (.inr (s1, τ1)) = .inr (nx V L s1, τ1) from if_pos z] at e
      cases e
      have := nx_gt z
      exact ⟨o, by omega⟩
    · rw [show exL V L 59 (.inr (s1, τ1)) = .inl (kdO V L s1 2, s1) from if_neg z] at e
      cases e
theorem rdL_i (hv : ∀ i, i < L → V i < 256) : ∀ f (r : RL), (∀ q, r = .inr q → lOk q.2) → ∀ q, rdL V L f r = .inr q → lOk q.2
  | 0, r, H, q, e => H q e
  | f + 1, .inl x, H, q, e => by cases e
  | f + 1, .inr p, H, q, e => by
    by_cases z : tK V L p.1 = 0
    · rw [show rdL V L (f + 1) (.inr p) = .inr p from if_pos z] at e
      cases e
      exact H p rfl
    · rw [show rdL V L (f + 1) (.inr p) = rdL V L f (exL V L 59 (liX V L p.1 p.2)) from if_neg z] at e
      exact rdL_i hv f _ (fun q' e' => (exL_i hv (H p rfl) (s' := q'.1) (τ' := q'.2) e').1) q e
end KEEP
