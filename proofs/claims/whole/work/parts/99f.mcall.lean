/-! CITY, as the model answers it -/
def txZ (f : Nat → Int32) (V : Nat → Nat) (i : Nat) : Nat → Int32 := fun k => if k < i then byI (V k) else f k
/-- what the call may change: the text, the bank that is read into; and behind a good one what belongs to a new city -/
def exT (R c k : Nat) : Prop := exK R c k ∨ c = 197 ∨ c = 195 ∧ (k = 2 ∨ k = 3 ∨ k = 41)
def FrT2 (R : Nat) (h g : HT) : Prop := (∀ c k, m_gR g c k = m_gR h c k) ∧ ∀ c k, ¬ exT R c k → m_gI g c k = m_gI h c k
theorem FrT2_L {R : Nat} {h g : HT} (a : FrL R h g) : FrT2 R h g := ⟨a.1, fun c k x => a.2.1 c k (fun y => x (Or.inl y))⟩
theorem FrT2_tr {R : Nat} {h g f : HT} (a : FrT2 R h g) (b : FrT2 R g f) : FrT2 R h f := ⟨fun c k => (b.1 c k).trans (a.1 c k), fun c k x => (b.2 c k x).trans (a.2 c k x)⟩
theorem FrT2_s {R c k : Nat} {h : HT} {v : Int32} (e : exT R c k) : FrT2 R h (m_sI h c k v) := ⟨fun _ _ => rfl, fun x j n => by
  rw [gI_sI, if_neg]
  rintro ⟨rfl, rfl⟩
  exact n e⟩
theorem nI_1sub {b : Nat} (hb : b < 2) : (1 : Int32) - nI b = nI (1 - b) := by
  have : ∀ b, b < 2 → (1 : Int32) - nI b = nI (1 - b) := by decide +kernel
  exact this b hb
section MCALL
variable {X : XT} {d b L : Nat} {h : HT} {V : Nat → Nat}
theorem k_cityA (hp : Ptr h) (hb : b < 2) (h40 : m_gI h 195 40 = nI b) (K : KTap h L V) (hL : L ≤ 1600) (hv : ∀ i, i < L → V i < 256) : ∃ g, FrT2 (1 - b) h g ∧ m_gI g 195 2 = 0 ∧ KLr g (1 - b) L V (rdA V L) ∧ m_gI g 195 41 = nI (1 - b) ∧ ∀ Q : QT, wq X (d + 9) 190 0 [some (.ref 195), none] [] h Q = wq X (d + 9) 190 95 [some (.ref 195), some (.int (nI L))] [] g Q := by
  have hR : 1 - b < 2 := by omega
  -- the text
  obtain ⟨h1, e1⟩ : ∃ h1, h1 = m_sI (m_sI (m_sI h 195 4 0) 195 5 (-1)) 195 3 (nI L) := ⟨_, rfl⟩
  have f1 : FrT2 (1 - b) h h1 := by
    rw [e1]
    exact FrT2_tr (FrT2_s (by unfold exT exK; omega)) (FrT2_tr (FrT2_s (by unfold exT exK; omega)) (FrT2_s (by unfold exT exK; omega)))
  have hp1 : Ptr h1 := Ptr_of hp f1.1
  have g3 : m_gI h1 195 3 = nI L := by rw [e1, gI_sI, if_pos ⟨rfl, rfl⟩]
  have g4 : m_gI h1 195 4 = 0 := by rw [e1, gI_sI, if_neg (by decide), gI_sI, if_neg (by decide), gI_sI, if_pos ⟨rfl, rfl⟩]
  have g5 : m_gI h1 195 5 = -1 := by rw [e1, gI_sI, if_neg (by decide), gI_sI, if_pos ⟨rfl, rfl⟩]
  have g196 : ∀ i, i < L → m_gI h1 196 i = byI (V i) := fun i hi => by
    rw [e1, gI_sI, if_neg (by omega), gI_sI, if_neg (by omega), gI_sI, if_neg (by omega)]
    exact K.2 i hi
  have pz : ∀ f, Ptr (hRw h1 197 f) := fun f => hp1
  have gz : ∀ f c k, c ≠ 197 → m_gI (hRw h1 197 f) c k = m_gI h1 c k := fun f c k n => by rw [gI_hRw, if_neg n]
  have z0 : hRw h1 197 (txZ (m_gI h1 197) V 0) = h1 := by
    have : txZ (m_gI h1 197) V 0 = m_gI h1 197 := funext fun k => if_neg (Nat.not_lt_zero k)
    rw [this, hRw_id]
  have l1 := fun (Q : QT) => q_loop (fun i => wq X (d + 9) 190 20 [some (.ref 195), some (.int (nI i))] [] (hRw h1 197 (txZ (m_gI h1 197) V i)) Q) L (fun i hi => by
    have c1 : (nI i < nI L) = True := eq_true (nI_lt hi (by omega))
    have c2 : m_in (nI i) 1600 = true := q_in (by omega) (by decide)
    have c3 : (nI i).toNatClampNeg = i := q_cl (by omega)
    have c4 : m_in (nI i) 1620 = true := q_in (by omega) (by decide)
    have eu : up (txZ (m_gI h1 197) V i) i (byI (V i)) = txZ (m_gI h1 197) V (i + 1) := funext fun k => by
      show (if k = i then _ else if k < i then _ else _) = if k < i + 1 then _ else _
      by_cases x : k = i
      · rw [if_pos x, if_pos (by omega), x]
      · rw [if_neg x]
        by_cases y : k < i
        · rw [if_pos y, if_pos (by omega)]
        · rw [if_neg y, if_neg (show ¬ k < i + 1 by omega)]
    show wq X (d + 9) 190 20 _ [] _ Q = wq X (d + 9) 190 20 [some (.ref 195), some (.int (nI (i + 1)))] [] (hRw h1 197 (txZ (m_gI h1 197) V (i + 1))) Q
    generalize hz : wq X (d + 9) 190 20 [some (.ref 195), some (.int (nI (i + 1)))] [] (hRw h1 197 (txZ (m_gI h1 197) V (i + 1))) Q = Z
    rw [u190_20]
    simp only [u190_21, u190_22, u190_25, u190_28, u190_29, u190_32, u190_33, u190_34, u190_37, u190_38z, u190_38b, u190_39z, u190_39b, u190_40, u190_43, eq_self, q_nl0, q_nlI, q_nlR, not_false_eq_true, q_nz0, q_nz1, q_zv0, q_zv1, q_tl1, q_tl0, q_wif, q_swc, q_swn, List.cons_append, List.nil_append, if_true, if_false, e10, e01, Bool.false_eq_true, sh_195, sh_196, sh_197, p_195_0 (pz _), p_195_1 (pz _), gz _ 195 _ (by decide), gz _ 196 _ (by decide), g3, c1, c2, c3, c4, g196 i hi, by_by, sI_hRw, eu, nI_1]
    exact hz)
  -- the bank
  obtain ⟨h2, e2⟩ : ∃ h2, h2 = m_sI (m_sI (m_sI (hRw h1 197 (txZ (m_gI h1 197) V L)) 195 2 0) 195 7 0) 195 41 (nI (1 - b)) := ⟨_, rfl⟩
  have f2 : FrT2 (1 - b) h1 h2 := by
    rw [e2]
    exact FrT2_tr (g := hRw h1 197 (txZ (m_gI h1 197) V L)) ⟨fun _ _ => rfl, fun c k x => gz _ c k (fun y => x (Or.inr (Or.inl y)))⟩ (FrT2_tr (FrT2_s (by unfold exT exK; omega)) (FrT2_tr (FrT2_s (by unfold exT exK; omega)) (FrT2_s (by unfold exT exK; omega))))
  have hp2 : Ptr h2 := Ptr_of hp1 f2.1
  have k2 : ∀ c k, c ≠ 197 → ¬ (c = 195 ∧ (k = 2 ∨ k = 7 ∨ k = 41)) → m_gI h2 c k = m_gI h1 c k := fun c k x y => by
    rw [e2, gI_sI, if_neg (by omega), gI_sI, if_neg (by omega), gI_sI, if_neg (by omega)]
    exact gz _ c k x
  have k41 : m_gI h2 195 41 = nI (1 - b) := by rw [e2, gI_sI, if_pos ⟨rfl, rfl⟩]
  have k7 : m_gI h2 195 7 = nI 0 := by
    rw [e2, gI_sI, if_neg (by decide), gI_sI, if_pos ⟨rfl, rfl⟩]
    rfl
  have kt2 : m_gI h2 195 2 = 0 := by rw [e2, gI_sI, if_neg (by decide), gI_sI, if_neg (by decide), gI_sI, if_pos ⟨rfl, rfl⟩]
  have k197 : ∀ i, i < L → m_gI h2 197 i = byI (V i) := fun i hi => by
    rw [e2, gI_sI, if_neg (by omega), gI_sI, if_neg (by omega), gI_sI, if_neg (by omega), gI_hRw, if_pos rfl]
    exact if_pos hi
  obtain ⟨h3, c1, c2, c3, c4, c5, c6⟩ := k_clearBank (X := X) (d := d + 8) hp2 hR k41
  have hp3 : Ptr h3 := Ptr_of hp2 c1.1
  have T3 : Tx h3 L V := ⟨hp3, by rw [c3 _ _ (by omega) (by omega), k2 _ _ (by omega) (by omega)]; exact g3, fun i hi => by rw [c3 _ _ (by omega) (by omega)]; exact k197 i hi, hL, hv⟩
  obtain ⟨h4, d1, d2, d3⟩ := k_goOn (X := X) (d := d + 6) (p := 0) T3 (Nat.zero_le _) ((c3 _ _ (by omega) (by omega)).trans k7)
  have e4 : ∀ c k, c ≠ 195 ∨ k < 6 ∨ 9 < k → m_gI h4 c k = m_gI h3 c k := d1.2.1
  have P4 : KP h4 L V (.inr (tS V L 0)) := ⟨d2, by rw [e4 _ _ (by omega), c3 _ _ (by omega) (by omega), k2 _ _ (by omega) (by omega)]; exact g4, by rw [e4 _ _ (by omega), c3 _ _ (by omega) (by omega), k2 _ _ (by omega) (by omega)]; exact g5⟩
  have zz : ∀ c, 198 ≤ c ∧ c ≤ 205 ∨ 216 ≤ c ∧ c ≤ 218 → m_gI h4 c (1 - b) = nI 0 := fun c x => by
    rw [e4 _ _ (by omega), c4 c x]
    rfl
  have D4 : KD h4 (1 - b) (fun _ _ => 0) := by
    refine ⟨⟨hR, by rw [e4 _ _ (by omega), c3 _ _ (by omega) (by omega)]; exact k41⟩, ⟨zz _ (by omega), zz _ (by omega), zz _ (by omega), zz _ (by omega), zz _ (by omega), zz _ (by omega), zz _ (by omega)⟩, ⟨?_, ?_, ?_, ?_, ?_, ?_, ?_, ?_⟩, ⟨zz _ (by omega), (e4 _ _ (by omega)).trans c5, fun q => absurd q (Nat.lt_irrefl 0), ?_⟩, ⟨?_, ?_, ?_⟩, zz _ (by omega), zz _ (by omega), zz _ (by omega)⟩
    all_goals exact fun i hi => absurd hi (Nat.not_lt_zero _)
  obtain ⟨g, a1, a2, a3⟩ := k_lines (X := X) (d := d + 1) hv 1600 (tS V L 0) (fun _ _ => 0) h4 (by omega) P4 D4 lOk_0
  have fb : FrL (1 - b) h2 g := FrL_tr c1 (FrL_tr (FrL_M (FrM_K d1)) a1)
  refine ⟨g, FrT2_tr f1 (FrT2_tr f2 (FrT2_L fb)), ?_, a2, ?_, fun Q => ?_⟩
  · rw [fb.2.1 _ _ (by unfold exK; omega)]
    exact kt2
  · rw [fb.2.1 _ _ (by unfold exK; omega)]
    exact k41
  · have h2' : m_gI (m_sI (m_sI h 195 4 0) 195 5 (-1)) 195 2 = nI L := by
      rw [gI_sI, if_neg (by decide), gI_sI, if_neg (by decide)]
      exact K.1
    have h40' : m_gI (m_sI (m_sI (hRw h1 197 (txZ (m_gI h1 197) V L)) 195 2 0) 195 7 0) 195 40 = nI b := by
      rw [gI_sI, if_neg (by decide), gI_sI, if_neg (by decide), gz _ _ _ (by decide), e1, gI_sI, if_neg (by decide), gI_sI, if_neg (by decide), gI_sI, if_neg (by decide)]
      exact h40
    have st : wq X (d + 9) 190 0 [some (.ref 195), none] [] h Q = wq X (d + 9) 190 20 [some (.ref 195), some (.int (nI 0))] [] h1 Q := by
      generalize hz : wq X (d + 9) 190 20 [some (.ref 195), some (.int (nI 0))] [] h1 Q = Z
      simp only [u190_0, u190_1, u190_2, u190_5, u190_6, u190_7, u190_10, u190_11, u190_12, u190_15, u190_18, u190_19, eq_self, q_nl0, q_nlI, q_nlR, not_false_eq_true, q_nz0, q_nz1, q_zv0, q_zv1, q_tl1, q_tl0, q_wif, q_swc, q_swn, List.cons_append, List.nil_append, if_true, if_false, e10, e01, Bool.false_eq_true, sh_195, h2']
      rw [← e1]
      exact hz
    rw [st]
    have l1 := l1 Q
    refine Eq.trans (b := wq X (d + 9) 190 20 [some (.ref 195), some (.int (nI 0))] [] (hRw h1 197 (txZ (m_gI h1 197) V 0)) Q) (by rw [z0]) (l1.trans ?_)
    have x1 : (nI L < nI L) = False := eq_false (nI_nlt (Nat.le_refl _) (by omega))
    rw [u190_20]
    simp only [u190_21, u190_22, u190_25, u190_28, u190_29, u190_32, u190_33, u190_34, u190_37, u190_38z, u190_38b, u190_39z, u190_39b, u190_40, u190_43, u190_46, u190_47, u190_48, u190_51, u190_52, u190_53, u190_56, u190_57, u190_58, u190_59, u190_62, u190_63, u190_66, u190_67, eq_self, q_nl0, q_nlI, q_nlR, not_false_eq_true, q_nz0, q_nz1, q_zv0, q_zv1, q_tl1, q_tl0, q_wif, q_swc, q_swn, List.cons_append, List.nil_append, if_true, if_false, e10, e01, Bool.false_eq_true, sh_195, gz _ 195 _ (by decide), g3, x1, h40', nI_1sub hb]
    rw [← e2]
    refine (c6 _).trans ?_
    simp only [u190_70, u190_71, eq_self, q_nl0, q_nlI, q_nlR, not_false_eq_true, q_nz0, q_nz1, q_zv0, q_zv1, q_tl1, q_tl0, q_wif, q_swc, q_swn, List.cons_append, List.nil_append, if_true, if_false, e10, e01, Bool.false_eq_true, sh_195]
    refine (d3 _).trans ?_
    exact a3 Q _
theorem k_cityB (hp : Ptr h) (hb : b < 2) (h40 : m_gI h 195 40 = nI b) (K : KTap h L V) (hL : L ≤ 1600) (hv : ∀ i, i < L → V i < 256) {e : Nat × Nat} (q : rdA V L = .inl e) : ∃ g, FrT2 (1 - b) h g ∧ m_gI g 195 2 = 0 ∧ m_gI g 195 4 = nI e.1 ∧ m_gI g 195 5 = nI e.2 ∧ ∀ Q : QT, wq X (d + 9) 190 0 [some (.ref 195), none] [] h Q = Q (some (.int (-1))) g := by
  obtain ⟨g, a1, a2, a3, a4, a5⟩ := k_cityA (X := X) (d := d) hp hb h40 K hL hv
  rw [q] at a3
  have a3 : KBd g e := a3
  refine ⟨g, a1, a2, a3.1, a3.2.2.1, fun Q => (a5 Q).trans ?_⟩
  simp only [u190_95, u190_96, u190_99, u190_102, u190_103, eq_self, q_nl0, q_nlI, q_nlR, not_false_eq_true, q_nz0, q_nz1, q_zv0, q_zv1, q_tl1, q_tl0, q_wif, q_swc, q_swn, List.cons_append, List.nil_append, if_true, if_false, e10, e01, Bool.false_eq_true, sh_195, k_ngood a3, Option.toList]
theorem k_cityG (hp : Ptr h) (hb : b < 2) (h40 : m_gI h 195 40 = nI b) (K : KTap h L V) (hL : L ≤ 1600) (hv : ∀ i, i < L → V i < 256) {s : Nat} {τ : CT} (q : rdA V L = .inr (s, τ)) : ∃ g f, (∀ c k, m_gR g c k = m_gR h c k) ∧ (∀ c k, 195 ≤ c → ¬ exT (1 - b) c k → c ≠ 227 → c ≠ 237 → ¬ (c = 195 ∧ (k = 40 ∨ k = 50 ∨ k = 51 ∨ k = 62)) → m_gI g c k = m_gI h c k) ∧ (∀ c k, c < 195 → m_gI g c k = m_gI h c k) ∧ m_gI g 195 2 = 0 ∧ m_gI g 195 4 = 0 ∧ m_gI g 195 5 = -1 ∧ m_gI g 195 50 = 0 ∧ m_gI g 195 51 = 0 ∧ m_gI g 195 62 = 0 ∧ (∀ j, j < 3 → m_gI g 237 j = 0) ∧ m_gI g 227 = aNew τ f ∧ MTown g (1 - b) τ ∧ MRule g (1 - b) (560 * (1 - b)) τ ∧ ∀ Q : QT, wq X (d + 9) 190 0 [some (.ref 195), none] [] h Q = Q (some (.int (nI (τ 0 1)))) g := by
  obtain ⟨g1, a1, a2, a3, a4, a5⟩ := k_cityA (X := X) (d := d) hp hb h40 K hL hv
  have O : lOk τ := rdA_ok hv q
  rw [q] at a3
  obtain ⟨P, D⟩ := a3
  have P : KP g1 L V (.inr s) := P
  have D : KD g1 (1 - b) τ := D
  have hR := D.1.1
  have hp1 : Ptr g1 := Ptr_of hp a1.1
  have hp1' : Ptr (m_sI g1 195 40 (nI (1 - b))) := hp1
  have gn : ∀ c k, c ≠ 195 → m_gI (m_sI g1 195 40 (nI (1 - b))) c k = m_gI g1 c k := fun c k x => by rw [gI_sI, if_neg (by omega)]
  have an := fun Q => k_anew (X := X) (d := d + 7) (b := 1 - b) (τ := τ) hp1' hR (by rw [gI_sI, if_pos ⟨rfl, rfl⟩]) ((gn _ _ (by decide)).trans D.2.1.2.1) O.1.2.1 (fun m hm => (gn _ _ (by decide)).trans (D.2.2.1.2.2.2.1 m hm)) ((gn _ _ (by decide)).trans D.2.1.2.2.2.2.2.2) ((gn _ _ (by decide)).trans D.2.1.2.2.2.2.2.1) Q
  obtain ⟨g, eg⟩ : ∃ g, g = hRw (m_sI (m_sI (m_sI (hRw (m_sI g1 195 40 (nI (1 - b))) 227 (aNew τ (m_gI (m_sI g1 195 40 (nI (1 - b))) 227))) 195 50 0) 195 51 0) 195 62 0) 237 (boZ (m_gI (m_sI g1 195 40 (nI (1 - b))) 237) 3) := ⟨_, rfl⟩
  have an : ∀ Q : QT, wq X (d + 8) 188 0 [some (.ref 195), none] [] (m_sI g1 195 40 (nI (1 - b))) Q = Q none g := fun Q => by
    rw [eg]
    exact an Q
  have ge : ∀ c k, c ≠ 227 → c ≠ 237 → ¬ (c = 195 ∧ (k = 40 ∨ k = 50 ∨ k = 51 ∨ k = 62)) → m_gI g c k = m_gI g1 c k := fun c k x y z => by
    rw [eg, gI_hRw, if_neg y, gI_sI, if_neg (by omega), gI_sI, if_neg (by omega), gI_sI, if_neg (by omega), gI_hRw, if_neg x, gI_sI, if_neg (by omega)]
  have gR : ∀ c k, m_gR g c k = m_gR h c k := fun c k => by
    rw [eg]
    exact a1.1 c k
  have hpg : Ptr g := Ptr_of hp gR
  have g40 : m_gI g 195 40 = nI (1 - b) := by
    rw [eg, gI_hRw, if_neg (by decide), gI_sI, if_neg (by decide), gI_sI, if_neg (by decide), gI_sI, if_neg (by decide), gI_hRw, if_neg (by decide), gI_sI, if_pos ⟨rfl, rfl⟩]
  have g199 : m_gI g 199 (1 - b) = nI (τ 0 1) := (ge _ _ (by decide) (by decide) (by omega)).trans D.2.1.2.1
  refine ⟨g, m_gI (m_sI g1 195 40 (nI (1 - b))) 227, gR, fun c k _ x y z w => (ge c k y z w).trans (a1.2 c k x), fun c k x => (ge c k (by omega) (by omega) (by omega)).trans (a1.2 c k (by unfold exT exK; omega)), (ge _ _ (by decide) (by decide) (by omega)).trans a2, (ge _ _ (by decide) (by decide) (by omega)).trans P.2.1, (ge _ _ (by decide) (by decide) (by omega)).trans P.2.2, ?_, ?_, ?_, ?_, ?_, ⟨hpg, O.1, ⟨hR, g40⟩, ?_⟩, ?_, fun Q => (a5 Q).trans ?_⟩
  · rw [eg, gI_hRw, if_neg (by decide), gI_sI, if_neg (by decide), gI_sI, if_neg (by decide), gI_sI, if_pos ⟨rfl, rfl⟩]
  · rw [eg, gI_hRw, if_neg (by decide), gI_sI, if_neg (by decide), gI_sI, if_pos ⟨rfl, rfl⟩]
  · rw [eg, gI_hRw, if_neg (by decide), gI_sI, if_pos ⟨rfl, rfl⟩]
  · intro j hj
    rw [eg, gI_hRw, if_pos rfl]
    exact if_pos hj
  · funext k
    rw [eg, gI_hRw, if_neg (by decide), gI_sI, if_neg (by omega), gI_sI, if_neg (by omega), gI_sI, if_neg (by omega), gI_hRw, if_pos rfl]
  · have w : ∀ c k, 198 ≤ c → c ≤ 223 → m_gI g c k = m_gI g1 c k := fun c k x y => ge c k (by omega) (by omega) (by omega)
    refine ⟨⟨?_, ?_, ?_, ?_, ?_, ?_, ?_, ?_⟩, ?_, ?_, ?_, ?_, ?_, ?_, ?_, ?_⟩
    · exact (w _ _ (by decide) (by decide)).trans D.2.1.1
    · exact (w _ _ (by decide) (by decide)).trans D.2.1.2.1
    · exact (w _ _ (by decide) (by decide)).trans D.2.1.2.2.1
    · exact (w _ _ (by decide) (by decide)).trans D.2.1.2.2.2.1
    · exact (w _ _ (by decide) (by decide)).trans D.2.1.2.2.2.2.1
    · exact (w _ _ (by decide) (by decide)).trans D.2.1.2.2.2.2.2.1
    · exact (w _ _ (by decide) (by decide)).trans D.2.1.2.2.2.2.2.2
    · exact (w _ _ (by decide) (by decide)).trans D.2.2.2.1.1
    · exact fun i hi => (w _ _ (by decide) (by decide)).trans (D.2.2.1.1 i hi)
    · exact fun i hi => (w _ _ (by decide) (by decide)).trans (D.2.2.1.2.1 i hi)
    · exact fun i hi => (w _ _ (by decide) (by decide)).trans (D.2.2.1.2.2.1 i hi)
    · exact fun i hi => (w _ _ (by decide) (by decide)).trans (D.2.2.1.2.2.2.1 i hi)
    · exact fun i hi => (w _ _ (by decide) (by decide)).trans (D.2.2.1.2.2.2.2.1 i hi)
    · exact fun i hi => (w _ _ (by decide) (by decide)).trans (D.2.2.1.2.2.2.2.2.1 i hi)
    · exact fun i hi => (w _ _ (by decide) (by decide)).trans (D.2.2.1.2.2.2.2.2.2.1 i hi)
    · exact fun i hi => (w _ _ (by decide) (by decide)).trans (D.2.2.1.2.2.2.2.2.2.2 i hi)
  · have w : ∀ c k, 198 ≤ c → c ≤ 223 → m_gI g c k = m_gI g1 c k := fun c k x y => ge c k (by omega) (by omega) (by omega)
    refine ⟨⟨?_, rfl, O.2.2.2.2.2.2.2⟩, ?_, fun z => (w _ _ (by decide) (by decide)).trans (D.2.2.2.1.2.2.1 z).1, fun z => (w _ _ (by decide) (by decide)).trans (D.2.2.2.1.2.2.1 z).2, fun i hi => (w _ _ (by decide) (by decide)).trans (D.2.2.2.1.2.2.2 i hi).1, fun i hi => (w _ _ (by decide) (by decide)).trans (D.2.2.2.1.2.2.2 i hi).2⟩
    · have := O.2.2.2.2.2.2.2
      omega
    · rw [w _ _ (by decide) (by decide), D.2.2.2.2.2.1]
      have o1 := O.2.2.1.1
      by_cases z : τ 0 7 = 0
      · rw [if_pos (O.2.2.2.1 z).2, z]
        rfl
      · have z1 : τ 0 7 = 1 := by omega
        have := O.2.2.2.2.1 z1
        rw [if_neg (by omega), z1]
        rfl
  · have m2 : m_in (nI (1 - b)) 2 = true := q_in hR (by decide)
    have cR : (nI (1 - b)).toNatClampNeg = 1 - b := q_cl (by omega)
    have n10 : ¬ ((1 : Int32) = 0) := by decide
    simp only [u190_95, u190_96, u190_99, u190_102, u190_103, u190_104, u190_105, u190_106, u190_109, u190_112, u190_113, eq_self, q_nl0, q_nlI, q_nlR, not_false_eq_true, q_nz0, q_nz1, q_zv0, q_zv1, q_tl1, q_tl0, q_wif, q_swc, q_swn, List.cons_append, List.nil_append, if_true, if_false, e10, e01, Bool.false_eq_true, sh_195, k_good P.2, n10, a4, Option.toList]
    refine (an _).trans ?_
    simp only [u190_116, u190_117, u190_120, u190_121, u190_124, u190_125, eq_self, q_nl0, q_nlI, q_nlR, not_false_eq_true, q_nz0, q_nz1, q_zv0, q_zv1, q_tl1, q_tl0, q_wif, q_swc, q_swn, List.cons_append, List.nil_append, if_true, if_false, e10, e01, Bool.false_eq_true, sh_195, sh_199, p_195_12 hpg, g40, m2, cR, g199]
end MCALL
