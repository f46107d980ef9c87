/-! ACTS -/
theorem Rep_cg {τ : CT} {r : RS} {A B : Nat → Int32} (H : cOk τ) (e : ∀ k, k < 20 → B k = A k) (R : Rep τ r A) : Rep τ r B := by
  have h7 := o_mn H
  have en : aN B = aN A := by
    unfold aN
    rw [e 14 (by decide)]
  refine ⟨?_, fun m hm => ?_, fun m hm hb => ?_⟩
  · rw [e 14 (by decide), e 16 (by decide), e 17 (by decide), e 15 (by decide), e 18 (by decide), e 19 (by decide)]
    exact R.1
  · rw [e m (by omega)]
    exact R.2.1 m hm
  · rw [en] at hb
    rw [e (7 + m) (by omega)]
    exact R.2.2 m hm hb
theorem aOk_cg {τ : CT} {N : Nat} {A B : Nat → Int32} (H : cOk τ) (e : ∀ k, k < 20 → B k = A k) (K : aOk τ N A) : aOk τ N B := by
  have h7 := o_mn H
  have en : aN B = aN A := by
    unfold aN
    rw [e 14 (by decide)]
  refine ⟨by rw [en, e 14 (by decide)]; exact K.1, by rw [e 15 (by decide)]; exact K.2.1, by rw [e 19 (by decide)]; exact K.2.2.1, ?_⟩
  obtain ⟨y, y1, y2, hd⟩ := K.2.2.2
  refine ⟨y, y1, by rw [e 18 (by decide)]; exact y2, fun m hm => ?_⟩
  rw [e (7 + m) (by omega), en]
  exact hd m hm
theorem fm_x : ∀ a, a < 82 → ¬ (nI a ^^^ 41) < 0 := by decide +kernel
theorem c_floorMod {X : XT} {d a : Nat} {h : HT} {Q : QT} (ha : a < 82) : wq X d 119 0 [some (.int (nI a)), some (.int 41), none] [] h Q = Q (some (.int (nI (a % 41)))) h := by
  have e : nI a - nI a / 41 * 41 = nI (a % 41) := pk_rem (d := 41) (by omega) (by decide) (by decide)
  simp only [u119_0, u119_1, u119_2, u119_3, u119_4, u119_5, u119_6, u119_7, u119_10, u119_11, u119_14, u119_15, u119_16, u119_17, u119_18, u119_19, eq_self, q_nl0, q_nlI, q_nlR, not_false_eq_true, q_nz0, q_nz1, q_zv0, q_zv1, q_tl1, q_tl0, q_wif, q_swc, q_swn, List.cons_append, List.nil_append, if_true, if_false, e10, e01, Bool.false_eq_true, eq_false (show ¬ (41 : Int32) = 0 by decide), not_false_eq_true, eq_false (fm_x a ha), e]
theorem p_rng {h : HT} (hp : Ptr h) {j : Nat} (hj : j < 41) : m_gR h 45 j = 46 + 3 * j := by
  have : ∀ j, j < 41 → (45, j, 46 + 3 * j) ∈ PT := by decide +kernel
  exact hp _ (this j hj)
theorem c_here {X : XT} {d o bh : Nat} {h : HT} {Q : QT} (hp : Ptr h) (ho : o < 41) (hb : bh ≤ 40) (e1 : m_gI h 44 1 = nI o) (e2 : m_gI h 44 2 = nI bh) : wq X (d + 1) 118 0 [some (.ref 44)] [] h Q = Q (some (.ref (rg o bh))) h := by
  have hl : (o + bh) % 41 < 41 := Nat.mod_lt _ (by decide)
  have e3 : m_in (nI ((o + bh) % 41)) 41 = true := q_in hl (by decide)
  have e4 : (nI ((o + bh) % 41)).toNatClampNeg = (o + bh) % 41 := q_cl (by omega)
  simp only [u118_0, u118_1, u118_4, u118_5, u118_8, u118_9, u118_12, u118_13, u118_15, u118_18, u118_19, eq_self, q_nl0, q_nlI, q_nlR, not_false_eq_true, q_nz0, q_nz1, q_zv0, q_zv1, q_tl1, q_tl0, q_wif, q_swc, q_swn, List.cons_append, List.nil_append, if_true, if_false, e10, e01, Bool.false_eq_true, sh_44, sh_45, p_44_0 hp, e1, e2, nI_add, c_floorMod (show o + bh < 82 by omega), e3, e4, p_rng hp hl]
  rfl
theorem rg_ne {o i j : Nat} (hi : i < 41) (hj : j < 41) (n : i ≠ j) : rg o i ≠ rg o j := by
  unfold rg
  omega
theorem rg_38 {o j : Nat} : rg o j ≠ 38 := by
  have := rg_bd (o := o) (j := j)
  omega
theorem Da_sI {h : HT} {a k : Nat} {v : Int32} (h1 : 38 ≤ a) (h2 : a < 169) : Da h (m_sI h a k v) := ⟨fun _ _ => rfl, fun c j y _ => by
  rw [gI_sI, if_neg (by omega)]⟩
theorem gS_sI {h : HT} {a b k : Nat} {v : Int32} (n : a < b ∨ b + 3 ≤ a) : gS (m_sI h a k v) b = gS h b := gS_eq (fun c j h1 h2 => by rw [gI_sI, if_neg (by omega)])
/-- the states behind, one more kept -/
def kpW (W : Nat → Nat → Int32) (A : Nat → Int32) (bh : Nat) : Nat → Nat → Int32 := if bh = 40 then fun j => if j = 39 then A else W (j + 1) else fun j => if j = bh then A else W j
def kpB (bh : Nat) : Nat := if bh = 40 then 40 else bh + 1
theorem CQ_da {h g : HT} {T N N' : Nat} {τ : CT} {A A' : Nat → Int32} (a : Da h g) (H : CQ h T τ N A) (R : Rep τ (gS g 38) A') (K : aOk τ N' A') : CQ g T τ N' A' := CQ_eq a.1 (fun c k h1 z => a.2 c k (Or.inl h1) z) H R K
theorem c_keep {X : XT} {d T o bh ah N : Nat} {h : HT} {τ : CT} {A : Nat → Int32} {W : Nat → Nat → Int32} (H : CQ h T τ N A) (C : CAct τ h o bh ah W A) (hb : bh + ah ≤ 40) : ∃ g o', Da h g ∧ gS g 38 = gS h 38 ∧ (∀ A', CAct τ g o' (kpB bh) 0 (kpW W A bh) A') ∧ ∀ Q : QT, wq X (d + 2) 117 0 [some (.ref 44), some (.ref 38)] [] h Q = Q none g := by
  have hp := cq_p H
  have hk := cq_k H
  obtain ⟨ho, ⟨f1, f2, f3⟩, r1, r2, r3⟩ := C
  have bd := rg_bd (o := o) (j := bh)
  have s0 : (m_sh (KS X) (rg o bh)).1 = 7 := by rw [shS_0 rg_S]
  have ch := fun (Q : QT) => c_here (X := X) (d := d) (Q := Q) hp ho (show bh ≤ 40 by omega) f1 f2
  have cc := fun (Q : QT) => c_copy (X := X) (d := d + 1) (h := h) (Q := Q) (rg_S (o := o) (j := bh)) is38 rg_38 hp
  have a1 : Da h (pS h (rg o bh) (rCopy (gS h (rg o bh)) (gS h 38))) := Da_pS (by omega) bd.2
  have q44 : ∀ k, m_gI (pS h (rg o bh) (rCopy (gS h (rg o bh)) (gS h 38))) 44 k = m_gI h 44 k := fun k => gI_pSo (by omega)
  have q38 : gS (pS h (rg o bh) (rCopy (gS h (rg o bh)) (gS h 38))) 38 = gS h 38 := gS_pSo (by omega)
  have qb : gS (pS h (rg o bh) (rCopy (gS h (rg o bh)) (gS h 38))) (rg o bh) = rCopy (gS h (rg o bh)) (gS h 38) := gS_pS
  have qo : ∀ j, j < 41 → j ≠ bh → gS (pS h (rg o bh) (rCopy (gS h (rg o bh)) (gS h 38))) (rg o j) = gS h (rg o j) := fun j hj n => gS_pSo (by
    have := isS_apart (rg_S (o := o) (j := j)) (rg_S (o := o) (j := bh)) (rg_ne hj (by omega) n)
    omega)
  have Rb : Rep τ (rCopy (gS h (rg o bh)) (gS h 38)) A := Rep_copy hk (cq_r H)
  generalize pS h (rg o bh) (rCopy (gS h (rg o bh)) (gS h 38)) = h1 at cc a1 q44 q38 qb qo
  have q2 : m_gI h1 44 2 = nI bh := (q44 2).trans f2
  have q1 : m_gI h1 44 1 = nI o := (q44 1).trans f1
  by_cases z : bh = 40
  · have eo : nI o + 1 = nI (o + 1) := nI_1 o
    have hlo : (o + 1) % 41 < 41 := Nat.mod_lt _ (by decide)
    refine ⟨m_sI (m_sI h1 44 3 0) 44 1 (nI ((o + 1) % 41)), (o + 1) % 41, Da_tr a1 (Da_tr (Da_sI (by omega) (by omega)) (Da_sI (by omega) (by omega))), ?_, fun A' => ?_, fun Q => ?_⟩
    · rw [gS_sI (by omega), gS_sI (by omega), q38]
    · have er : ∀ j, gS (m_sI (m_sI h1 44 3 0) 44 1 (nI ((o + 1) % 41))) (rg ((o + 1) % 41) j) = gS h1 (rg o (j + 1)) := fun j => by
        have bj := rg_bd (o := (o + 1) % 41) (j := j)
        rw [gS_sI (by omega), gS_sI (by omega)]
        have : rg ((o + 1) % 41) j = rg o (j + 1) := by
          unfold rg
          omega
        rw [this]
      have eB : kpB bh = 40 := if_pos z
      have eW : kpW W A bh = fun j => if j = 39 then A else W (j + 1) := if_pos z
      rw [eB, eW]
      refine ⟨hlo, ⟨?_, ?_, ?_⟩, fun j hj => ?_, fun j h1 h2 => absurd h2 (by omega), fun h0 => absurd h0 (by omega)⟩
      · rw [gI_sI, if_pos ⟨rfl, rfl⟩]
      · rw [gI_sI, if_neg (by omega), gI_sI, if_neg (by omega), q2, z]
      · rw [gI_sI, if_neg (by omega), gI_sI, if_pos ⟨rfl, rfl⟩]
        rfl
      · rw [er]
        show Rep τ _ (if j = 39 then A else W (j + 1))
        by_cases y : j = 39
        · rw [if_pos y, y, show 39 + 1 = bh by omega, qb]
          exact Rb
        · rw [if_neg y, qo (j + 1) (by omega) (by omega)]
          exact r1 (j + 1) (by omega)
    · simp only [u117_0, u117_1, u117_4, u117_5, eq_self, q_nl0, q_nlI, q_nlR, not_false_eq_true, q_nz0, q_nz1, q_zv0, q_zv1, q_tl1, q_tl0, q_wif, q_swc, q_swn, List.cons_append, List.nil_append, if_true, if_false, e10, e01, Bool.false_eq_true, sh_44, ch, s0, cc]
      simp only [u117_8, u117_9, u117_10, u117_13, u117_14, u117_17, u117_19, u117_22, u117_23, u117_24, u117_27, u117_28, u117_29, u117_32, u117_35, u117_36, u117_37, u117_40, u117_41, u117_42, u117_44, u117_47, u117_50, eq_self, q_nl0, q_nlI, q_nlR, not_false_eq_true, q_nz0, q_nz1, q_zv0, q_zv1, q_tl1, q_tl0, q_wif, q_swc, q_swn, List.cons_append, List.nil_append, if_true, if_false, e10, e01, Bool.false_eq_true, sh_44, gI_sI, q2, q1, show ((2 : Nat) = 3) = False from eq_false (by decide), show ((1 : Nat) = 3) = False from eq_false (by decide), and_false, if_false, eq_false (show ¬ nI bh < 40 by rw [z]; decide), eo, c_floorMod (show o + 1 < 82 by omega)]
  · refine ⟨m_sI (m_sI h1 44 3 0) 44 2 (nI (bh + 1)), o, Da_tr a1 (Da_tr (Da_sI (by omega) (by omega)) (Da_sI (by omega) (by omega))), ?_, fun A' => ?_, fun Q => ?_⟩
    · rw [gS_sI (by omega), gS_sI (by omega), q38]
    · have er : ∀ j, gS (m_sI (m_sI h1 44 3 0) 44 2 (nI (bh + 1))) (rg o j) = gS h1 (rg o j) := fun j => by
        have bj := rg_bd (o := o) (j := j)
        rw [gS_sI (by omega), gS_sI (by omega)]
      have eB : kpB bh = bh + 1 := if_neg z
      have eW : kpW W A bh = fun j => if j = bh then A else W j := if_neg z
      rw [eB, eW]
      refine ⟨ho, ⟨?_, ?_, ?_⟩, fun j hj => ?_, fun j h1 h2 => absurd h2 (by omega), fun h0 => absurd h0 (by omega)⟩
      · rw [gI_sI, if_neg (by omega), gI_sI, if_neg (by omega), q1]
      · rw [gI_sI, if_pos ⟨rfl, rfl⟩]
      · rw [gI_sI, if_neg (by omega), gI_sI, if_pos ⟨rfl, rfl⟩]
        rfl
      · rw [er]
        show Rep τ _ (if j = bh then A else W j)
        by_cases y : j = bh
        · rw [if_pos y, y, qb]
          exact Rb
        · rw [if_neg y, qo j (by omega) y]
          exact r1 j (by omega)
    · have e40 : (nI bh < 40) = True := eq_true (nI_lt (b := 40) (by omega) (by omega))
      simp only [u117_0, u117_1, u117_4, u117_5, eq_self, q_nl0, q_nlI, q_nlR, not_false_eq_true, q_nz0, q_nz1, q_zv0, q_zv1, q_tl1, q_tl0, q_wif, q_swc, q_swn, List.cons_append, List.nil_append, if_true, if_false, e10, e01, Bool.false_eq_true, sh_44, ch, s0, cc]
      simp only [u117_8, u117_9, u117_10, u117_13, u117_14, u117_17, u117_19, u117_22, u117_23, u117_24, u117_27, u117_28, u117_29, u117_32, u117_35, u117_36, u117_37, u117_40, u117_41, u117_42, u117_44, u117_47, u117_50, eq_self, q_nl0, q_nlI, q_nlR, not_false_eq_true, q_nz0, q_nz1, q_zv0, q_zv1, q_tl1, q_tl0, q_wif, q_swc, q_swn, List.cons_append, List.nil_append, if_true, if_false, e10, e01, Bool.false_eq_true, sh_44, gI_sI, q2, show ((2 : Nat) = 3) = False from eq_false (by decide), and_false, if_false, e40, nI_1]
/-! the model keeps an act -/
def shL (w : Nat → Int32) (i : Nat) : Nat → Int32 := fun k => if k < i then w (k + 20) else w k
def ptL (A w : Nat → Int32) (b i : Nat) : Nat → Int32 := fun k => if b ≤ k ∧ k < b + i then A (k - b) else w k
theorem shL_0 {w : Nat → Int32} : shL w 0 = w := funext fun k => if_neg (Nat.not_lt_zero k)
theorem shL_s {w : Nat → Int32} {i : Nat} : shL w (i + 1) = up (shL w i) i (w (i + 20)) := by
  funext k
  show (if k < i + 1 then w (k + 20) else w k) = if k = i then w (i + 20) else if k < i then w (k + 20) else w k
  by_cases z : k = i
  · rw [if_pos z, if_pos (by omega), z]
  · rw [if_neg z]
    by_cases y : k < i
    · rw [if_pos y, if_pos (by omega)]
    · rw [if_neg y, if_neg (by omega)]
theorem ptL_0 {A w : Nat → Int32} {b : Nat} : ptL A w b 0 = w := funext fun k => if_neg (by omega)
theorem ptL_s {A w : Nat → Int32} {b i : Nat} : ptL A w b (i + 1) = up (ptL A w b i) (b + i) (A i) := by
  funext k
  show (if b ≤ k ∧ k < b + (i + 1) then A (k - b) else w k) = if k = b + i then A i else if b ≤ k ∧ k < b + i then A (k - b) else w k
  by_cases z : k = b + i
  · rw [if_pos z, if_pos (by omega), show k - b = i by omega]
  · rw [if_neg z]
    by_cases y : b ≤ k ∧ k < b + i
    · rw [if_pos y, if_pos (by omega)]
    · rw [if_neg y, if_neg (by omega)]
theorem nI_20b {b i : Nat} : 20 * nI b + nI i = nI (20 * b + i) := by
  rw [show (20 : Int32) = nI 20 from rfl, pk_mul, nI_add]
theorem nI_a20 {i : Nat} : nI i + 20 = nI (i + 20) := nI_add i 20
theorem Dk_hC28 {h : HT} {v : Nat → Int32} : Dk h (hC h 228 v) := ⟨rfl, fun _ _ _ y _ _ => gI_hCo y⟩
theorem Dk_hC27 {h : HT} {v : Nat → Int32} : Dk h (hC h 227 v) := ⟨rfl, fun _ _ y _ _ _ => gI_hCo y⟩
theorem Dk_s50 {h : HT} {v : Int32} : Dk h (m_sI h 195 50 v) := ⟨rfl, fun c k _ _ z _ => by rw [gI_sI, if_neg (by omega)]⟩
theorem Dk_s51 {h : HT} {v : Int32} : Dk h (m_sI h 195 51 v) := ⟨rfl, fun c k _ _ z _ => by rw [gI_sI, if_neg (by omega)]⟩
