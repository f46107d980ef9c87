/-! CITY keeps both alike -/
theorem aNew_ok {τ : CT} {f : Nat → Int32} (O : lOk τ) : aOk τ 999 (aNew τ f) := by
  obtain ⟨⟨p1, p2, p3, p4, p5, p6, p7, -⟩, -⟩ := O
  have h2 := Nat.two_pow_pos (τ 0 1)
  have h7 := p2_7 p2
  have p7 : τ 0 6 ≤ 2 ^ τ 0 1 - 1 := p7
  have e14 : aNew τ f 14 = nI (τ 0 6) := rfl
  have en : aN (aNew τ f) = τ 0 6 := by
    unfold aN
    rw [e14]
    exact q_cl (by omega)
  have e15 : aNew τ f 15 = 0 := by
    show (if 15 < τ 0 1 then _ else (0 : Int32)) = 0
    exact if_neg (by omega)
  have e18 : aNew τ f 18 = 0 := by
    show (if 18 < τ 0 1 then _ else (0 : Int32)) = 0
    exact if_neg (by omega)
  refine ⟨⟨by rw [en, e14], by rw [en]; omega⟩, ⟨0, Nat.two_pow_pos _, e15⟩, ⟨τ 0 5, by omega, rfl⟩, 0, Nat.zero_le _, e18, fun m hm => ⟨0, Nat.le_refl _, ?_, fun _ => rfl⟩⟩
  show (if 7 + m = 19 then _ else if 7 + m = 14 then _ else if 7 + m < τ 0 1 then _ else if 7 + m < 20 then (0 : Int32) else f (7 + m)) = 0
  rw [if_neg (by omega), if_neg (by omega), if_neg (by omega), if_pos (by omega)]
theorem rNew_ok {τ : CT} {f : Nat → Int32} {h : HT} {C : Nat} (O : lOk τ) (H : CCity h C τ) : Rep τ (rNew h C) (aNew τ f) := by
  obtain ⟨⟨p1, p2, p3, p4, p5, p6, p7, -⟩, -⟩ := O
  refine ⟨⟨?_, ?_, ?_, ?_, ?_, ?_⟩, fun m hm => ?_, fun m hm _ => ?_⟩
  · exact H.1.2.2.2.2.2.2
  · show (0 : Int32) = if 16 < τ 0 1 then _ else (0 : Int32)
    exact (if_neg (by omega)).symm
  · show (0 : Int32) = if 17 < τ 0 1 then _ else (0 : Int32)
    exact (if_neg (by omega)).symm
  · show (0 : Int32) = if 15 < τ 0 1 then _ else (0 : Int32)
    exact (if_neg (by omega)).symm
  · show (0 : Int32) = if 18 < τ 0 1 then _ else (0 : Int32)
    exact (if_neg (by omega)).symm
  · exact H.1.2.2.2.2.2.1
  · show (if m < 7 then m_gI h (C + 5) m else _) = if m = 19 then _ else if m = 14 then _ else if m < τ 0 1 then _ else if m < 20 then (0 : Int32) else f m
    rw [if_pos (by omega), if_neg (by omega), if_neg (by omega), if_pos hm]
    exact H.2.2.2.2.2.1 m hm
  · show (if m < 7 then (0 : Int32) else _) = if 7 + m = 19 then _ else if 7 + m = 14 then _ else if 7 + m < τ 0 1 then _ else if 7 + m < 20 then (0 : Int32) else f (7 + m)
    rw [if_pos (by omega), if_neg (by omega), if_neg (by omega), if_neg (by omega), if_pos (by omega)]
theorem MCity_of {h g : HT} {b : Nat} {τ : CT} (O : cOk τ) (e : ∀ c k, 198 ≤ c → c ≤ 213 → (c ≤ 205 ∧ k = b ∨ c ≤ 207 ∧ 206 ≤ c ∧ 4 * b ≤ k ∧ k < 4 * b + 4 ∨ c ≤ 211 ∧ 208 ≤ c ∧ 7 * b ≤ k ∧ k < 7 * b + 7 ∨ 212 ≤ c ∧ 5 * b ≤ k ∧ k < 5 * b + 5) → m_gI g c k = m_gI h c k) (H : MCity h b τ) : MCity g b τ := by
  have h4 := o_cr O
  have h7 := o_mn O
  have h5 := o_dm O
  refine ⟨⟨?_, ?_, ?_, ?_, ?_, ?_, ?_, ?_⟩, fun i hi => ?_, fun i hi => ?_, fun i hi => ?_, fun i hi => ?_, fun i hi => ?_, fun i hi => ?_, fun i hi => ?_, fun i hi => ?_⟩
  · exact (e _ _ (by omega) (by omega) (by omega)).trans H.1.1
  · exact (e _ _ (by omega) (by omega) (by omega)).trans H.1.2.1
  · exact (e _ _ (by omega) (by omega) (by omega)).trans H.1.2.2.1
  · exact (e _ _ (by omega) (by omega) (by omega)).trans H.1.2.2.2.1
  · exact (e _ _ (by omega) (by omega) (by omega)).trans H.1.2.2.2.2.1
  · exact (e _ _ (by omega) (by omega) (by omega)).trans H.1.2.2.2.2.2.1
  · exact (e _ _ (by omega) (by omega) (by omega)).trans H.1.2.2.2.2.2.2.1
  · exact (e _ _ (by omega) (by omega) (by omega)).trans H.1.2.2.2.2.2.2.2
  · exact (e _ _ (by omega) (by omega) (by omega)).trans (H.2.1 i hi)
  · exact (e _ _ (by omega) (by omega) (by omega)).trans (H.2.2.1 i hi)
  · exact (e _ _ (by omega) (by omega) (by omega)).trans (H.2.2.2.1 i hi)
  · exact (e _ _ (by omega) (by omega) (by omega)).trans (H.2.2.2.2.1 i hi)
  · exact (e _ _ (by omega) (by omega) (by omega)).trans (H.2.2.2.2.2.1 i hi)
  · exact (e _ _ (by omega) (by omega) (by omega)).trans (H.2.2.2.2.2.2.1 i hi)
  · exact (e _ _ (by omega) (by omega) (by omega)).trans (H.2.2.2.2.2.2.2.1 i hi)
  · exact (e _ _ (by omega) (by omega) (by omega)).trans (H.2.2.2.2.2.2.2.2 i hi)
theorem KQ_T2 {h g : HT} {b f N : Nat} {τ : CT} {A : Nat → Int32} (a : FrT2 (1 - b) h g) (H : KQ h b f τ N A) : KQ g b f τ N A := by
  obtain ⟨⟨m1, m2, ⟨m3, m3'⟩, m4⟩, ⟨r1, r2, r3, r4, r5, r6⟩, hf, ha, hk⟩ := H
  refine ⟨⟨Ptr_of m1 a.1, m2, ⟨m3, (a.2 _ _ (by unfold exT exK; omega)).trans m3'⟩, MCity_of m2 (fun c k x y z => a.2 c k (by unfold exT exK; omega)) m4⟩, ⟨r1, (a.2 _ _ (by unfold exT exK; omega)).trans r2, fun z => (a.2 _ _ (by unfold exT exK; omega)).trans (r3 z), fun z => (a.2 _ _ (by unfold exT exK; omega)).trans (r4 z), fun i hi => (a.2 _ _ (by unfold exT exK; omega)).trans (r5 i hi), fun i hi => (a.2 _ _ (by unfold exT exK; omega)).trans (r6 i hi)⟩, hf, (funext fun k => a.2 227 k (by unfold exT exK; omega)).trans ha, hk⟩
theorem s_city {X : XT} {d : Nat} {h : HT} {σ : ST} (C : CI h σ) (K : KI h σ) (O : OKs σ) : Pi X (d + 111) 14 [some (.ref 1), none, none] 190 [some (.ref 195), none] h := by
  obtain ⟨τ, A, bh, ah, W, F, B, n, t, S, L, V, xx, yy⟩ := σ
  have K0 := K
  obtain ⟨⟨T, H, H1'⟩, ⟨o, HA⟩, H3, H4, H5, H6⟩ := C
  obtain ⟨O1, O2, O3, O4, O5, O6, O7, O8⟩ := O
  have iT := ct_T (cq_t H)
  have hT : T = 5 ∨ T = 23 := iT
  have iC : isT (28 - T) := by
    rcases hT with z | z
    · exact Or.inr (by omega)
    · exact Or.inl (by omega)
  have tp : Tp h L V := ⟨cq_p H, H5, O7, O8⟩
  cases q : rdA V L with
  | inl e =>
    obtain ⟨g, a1, a2, a3, a4, a5, a6⟩ := c_cityB (X := X) (d := d) tp H1' iC q
    have hi : Hi h g := ⟨fun c k => Or.inr (Or.inr (a1 c k)), fun c k x => a2 c k (by unfold exC; omega) (by omega)⟩
    have K1 := KI_hi hi K0
    obtain ⟨⟨b, f, KH⟩, KA, K3, K4, K5, K6⟩ := K1
    obtain ⟨g', b1, b2, b3, b4, b5⟩ := k_cityB (X := X) (d := d + 102) (mt_p KH.1) (mt_b KH.1) (mt_k KH.1) K5 O7 O8 q
    have lo : Lo g g' := ⟨funext fun c => funext fun k => b1.1 c k, fun c k x => b1.2 c k (by unfold exT exK; omega)⟩
    have CQ' : CQ g T τ 999 A := by
      refine ⟨⟨iT, Ptr_of (cq_p H) a1, cq_k H, CCity_of (fun j k h1 h2 h3 => a2 _ _ (by unfold exC; omega) (by omega)) (cq_t H).2.2.2⟩, cq_f H, (a1 1 2).trans (cq_T H), ?_, cq_a H⟩
      rw [gS_eq (fun c k h1 h2 => a2 c k (by unfold exC; omega) (by omega))]
      exact cq_r H
    have C1 : CI g (τ, A, bh, ah, W, F, B, n, t, S, 0, V, nI e.1, nI e.2) := ⟨⟨T, CQ', (a1 4 1).trans H1'⟩, ⟨o, CAct_eq (fun c k h1 h2 => a2 c k (by unfold exC; omega) (by omega)) HA⟩, CBox_eq (fun c k z => a2 c k (by unfold exC; omega) (by omega)) H3, CSig_eq (fun c k z => a2 c k (by unfold exC; omega) (by omega)) H4, ⟨a3, fun i hi => absurd hi (Nat.not_lt_zero _)⟩, a4, a5⟩
    refine ⟨-1, g, g', (τ, A, bh, ah, W, F, B, n, t, S, 0, V, nI e.1, nI e.2), ⟨O1, O2, O3, O4, O5, O6, Nat.zero_le _, fun i hi => absurd hi (Nat.not_lt_zero _)⟩, CI_lo lo C1, ⟨⟨b, f, KQ_T2 b1 KH⟩, KAct_eq (fun c k z => b1.2 c k (by unfold exT exK; omega)) KA, KBox_eq (fun c k z => b1.2 c k (by unfold exT exK; omega)) K3, KSig_eq (fun c k z => b1.2 c k (by unfold exT exK; omega)) K4, ⟨b2, fun i hi => absurd hi (Nat.not_lt_zero _)⟩, b3, b4⟩, a6, b5⟩
  | inr p =>
    obtain ⟨s, τ'⟩ := p
    have L1 : lOk τ' := rdA_ok O8 q
    obtain ⟨g, a1, a2, a3, a4, a5, a6, a7, a8, a9, a10, a11, ⟨h1, a12, a13⟩, a14⟩ := c_cityG (X := X) (d := d) tp H1' iC (cq_T H) iT q
    have hi : Hi h g := ⟨a1, fun c k x => a4 c k (by unfold exC; omega) (by omega) (by omega) (by omega) (by omega) (by omega)⟩
    have K1 := KI_hi hi K0
    obtain ⟨⟨b, f, KH⟩, KA, K3, K4, K5, K6⟩ := K1
    have hb := mt_b KH.1
    obtain ⟨g', f', b1, b2, b3, b4, b5, b6, b7, b8, b9, b10, b11, b12, b13, b14⟩ := k_cityG (X := X) (d := d + 102) (mt_p KH.1) hb (mt_k KH.1) K5 O7 O8 q
    have lo : Lo g g' := ⟨funext fun c => funext fun k => b1 c k, fun c k x => b3 c k x⟩
    have ak := aNew_ok (f := f') L1
    have CQ' : CQ g (28 - T) τ' 999 (aNew τ' f') := by
      refine ⟨⟨iC, Ptr_rf a1 (cq_p H), L1.1, a8⟩, L1.2.2.2.2.2.1, a2, ?_, ak⟩
      rw [a12]
      exact rNew_ok L1 a13
    have C1 : CI g (τ', aNew τ' f', 0, 0, W, fun _ => false, B, 0, t, S, 0, V, 0, -1) := by
      refine ⟨⟨28 - T, CQ', a3.trans (by omega)⟩, ⟨o, HA.1, ⟨?_, a9.1, a9.2⟩, fun j hj => absurd hj (Nat.not_lt_zero _), fun j _ hj => absurd hj (Nat.not_lt_zero _), fun z => absurd z (Nat.lt_irrefl _)⟩, fun j hj => ⟨a11 j hj, fun z => (nomatch z)⟩, ⟨a10, ?_, fun i hi => absurd hi (Nat.not_lt_zero _)⟩, ⟨a5, fun i hi => absurd hi (Nat.not_lt_zero _)⟩, a6, a7⟩
      · exact (a4 44 1 (by unfold exC; omega) (by omega) (by omega) (by omega) (by omega) (by omega)).trans HA.2.1.1
      · exact (a4 179 6 (by unfold exC; omega) (by omega) (by omega) (by omega) (by omega) (by omega)).trans H4.2.1
    refine ⟨nI (τ' 0 1), g, g', (τ', aNew τ' f', 0, 0, W, fun _ => false, B, 0, t, S, 0, V, 0, -1), ⟨by omega, fun j hj => absurd hj (Nat.not_lt_zero _), fun _ _ z => (nomatch z), Nat.zero_le _, O5, fun i hi => absurd hi (Nat.not_lt_zero _), Nat.zero_le _, fun i hi => absurd hi (Nat.not_lt_zero _)⟩, CI_lo lo C1, ⟨⟨1 - b, 560 * (1 - b), b12, b13, L1.2.2.2.2.2.1, b11, ak⟩, ⟨b7, b8, fun j hj => absurd hj (Nat.not_lt_zero _)⟩, fun j hj => ⟨b10 j hj, fun z => (nomatch z)⟩, ⟨b9, ?_, fun i hi => absurd hi (Nat.not_lt_zero _)⟩, ⟨b4, fun i hi => absurd hi (Nat.not_lt_zero _)⟩, b5, b6⟩, a14, b14⟩
    exact (b2 195 63 (by decide) (by unfold exT exK; omega) (by decide) (by decide) (by omega)).trans K4.2.1
