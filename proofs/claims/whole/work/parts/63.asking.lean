/-! fits, sure, ask -/
def hFt (h : HT) (a q b : Nat) (c : Int32) (f : Nat → Int32) : HT := (fun e k => if e = a ∧ k = q then c else if e = b then f k else h.1 e k, h.2)
theorem gI_hFtA {h : HT} {a q b : Nat} {c : Int32} {f : Nat → Int32} : m_gI (hFt h a q b c f) a q = c := if_pos ⟨rfl, rfl⟩
theorem gI_hFtB {h : HT} {a q b k : Nat} {c : Int32} {f : Nat → Int32} (n : b ≠ a) : m_gI (hFt h a q b c f) b k = f k := by
  show (if b = a ∧ k = q then c else if b = b then f k else h.1 b k) = f k
  rw [if_neg (fun z => n z.1), if_pos rfl]
theorem gI_hFto {h : HT} {a q b e k : Nat} {c : Int32} {f : Nat → Int32} (n1 : ¬ (e = a ∧ k = q)) (n2 : e ≠ b) : m_gI (hFt h a q b c f) e k = m_gI h e k := by
  show (if e = a ∧ k = q then c else if e = b then f k else h.1 e k) = h.1 e k
  rw [if_neg n1, if_neg n2]
theorem gR_hFt {h : HT} {a q b e k : Nat} {c : Int32} {f : Nat → Int32} : m_gR (hFt h a q b c f) e k = m_gR h e k := rfl
theorem sI_hFtA {h : HT} {a q b : Nat} {c v : Int32} {f : Nat → Int32} : m_sI (hFt h a q b c f) a q v = hFt h a q b v f := by
  apply hx
  · intro e k
    show (if e = a ∧ k = q then v else if e = a ∧ k = q then c else if e = b then f k else h.1 e k) = if e = a ∧ k = q then v else if e = b then f k else h.1 e k
    by_cases z : e = a ∧ k = q
    · rw [if_pos z, if_pos z]
    · rw [if_neg z, if_neg z, if_neg z]
  · rfl
theorem sI_hFtB {h : HT} {a q b j : Nat} {c v : Int32} {f : Nat → Int32} (n : b ≠ a) : m_sI (hFt h a q b c f) b j v = hFt h a q b c (up f j v) := by
  apply hx
  · intro e k
    show (if e = b ∧ k = j then v else if e = a ∧ k = q then c else if e = b then f k else h.1 e k) = if e = a ∧ k = q then c else if e = b then (if k = j then v else f k) else h.1 e k
    by_cases z : e = b
    · by_cases y : k = j
      · rw [if_pos ⟨z, y⟩, if_neg (fun w => n (z.symm.trans w.1)), if_pos z, if_pos y]
      · rw [if_neg (fun w => y w.2), if_neg (fun w => n (z.symm.trans w.1)), if_pos z, if_neg (fun w => n (z.symm.trans w.1)), if_pos z, if_neg y]
    · rw [if_neg (fun w => z w.1), if_neg z, if_neg z]
  · rfl
theorem hFt_0 {h : HT} {a q b : Nat} {c : Int32} : m_sI h a q c = hFt h a q b c (m_gI h b) ∨ b = a := by
  by_cases n : b = a
  · exact Or.inr n
  · left
    apply hx
    · intro e k
      show (if e = a ∧ k = q then c else h.1 e k) = if e = a ∧ k = q then c else if e = b then h.1 b k else h.1 e k
      by_cases z : e = a ∧ k = q
      · rw [if_pos z, if_pos z]
      · rw [if_neg z, if_neg z]
        by_cases y : e = b
        · rw [if_pos y, y]
        · rw [if_neg y]
    · rfl
theorem Same_ft1 {h : HT} {c : Int32} {f : Nat → Int32} : Same h (hFt h 179 7 185 c f) := by
  refine ⟨rfl, fun e k z => gI_hFto ?_ ?_⟩
  · rintro ⟨rfl, rfl⟩
    cases z
  · rintro rfl
    cases z
theorem Same_ft2 {h : HT} {c : Int32} {f : Nat → Int32} : Same h (hFt h 195 64 235 c f) := by
  refine ⟨rfl, fun e k z => gI_hFto ?_ ?_⟩
  · rintro ⟨rfl, rfl⟩
    cases z
  · rintro rfl
    cases z
def zrL (f : Nat → Int32) (i : Nat) : Nat → Int32 := fun k => if k < i then 0 else f k
theorem zrL_0 {f : Nat → Int32} : zrL f 0 = f := funext fun k => if_neg (Nat.not_lt_zero k)
theorem zrL_s {f : Nat → Int32} {i : Nat} : zrL f (i + 1) = up (zrL f i) i 0 := by
  funext k
  show (if k < i + 1 then 0 else f k) = if k = i then 0 else if k < i then 0 else f k
  by_cases z : k = i
  · rw [if_pos z, if_pos (by omega)]
  · rw [if_neg z]
    by_cases y : k < i
    · rw [if_pos y, if_pos (by omega)]
    · rw [if_neg y, if_neg (by omega)]
def btI (s k : Nat) : Int32 := if s.testBit k = true then 1 else 0
def adF (f : Nat → Int32) (s i : Nat) : Nat → Int32 := fun k => if k < i then f k + btI s k else f k
theorem adF_0 {f : Nat → Int32} {s : Nat} : adF f s 0 = f := funext fun k => if_neg (Nat.not_lt_zero k)
theorem adF_s {f : Nat → Int32} {s i : Nat} : adF f s (i + 1) = up (adF f s i) i (f i + btI s i) := by
  funext k
  show (if k < i + 1 then f k + btI s k else f k) = if k = i then f i + btI s i else if k < i then f k + btI s k else f k
  by_cases z : k = i
  · rw [if_pos z, if_pos (by omega), z]
  · rw [if_neg z]
    by_cases y : k < i
    · rw [if_pos y, if_pos (by omega)]
    · rw [if_neg y, if_neg (by omega)]
theorem adF_i {f : Nat → Int32} {s i : Nat} : adF f s i i = f i := if_neg (Nat.lt_irrefl i)
theorem adF_7 {f : Nat → Int32} {s k : Nat} (hk : k ≤ 7) (hs : s < 2 ^ k) : adF f s 7 = adF f s k := by
  funext j
  show (if j < 7 then f j + btI s j else f j) = if j < k then f j + btI s j else f j
  by_cases z : j < k
  · rw [if_pos z, if_pos (by omega)]
  · rw [if_neg z]
    by_cases y : j < 7
    · have e : btI s j = 0 := by
        unfold btI
        rw [bit_ge hs (by omega), if_neg Bool.false_ne_true]
      rw [if_pos y, e, Int32.add_zero]
    · rw [if_neg y]
def ftS (τ : CT) (S : Nat → Nat → Int32) (k : Int32) (n : Nat) (s : Nat) (p : Nat × (Nat → Int32)) : Nat × (Nat → Int32) := if fitB τ S k n s = true then (p.1 + 1, adF p.2 s (τ 0 1)) else p
def fcS (τ : CT) (S : Nat → Nat → Int32) (k : Int32) (n : Nat) (s c : Nat) : Nat := if fitB τ S k n s = true then c + 1 else c
def foS (τ : CT) (S : Nat → Nat → Int32) (k : Int32) (n m : Nat) (s c : Nat) : Nat := if fitB τ S k n s = true ∧ s.testBit m = true then c + 1 else c
/-- how many fit, and in how many of them m is out -/
def fcN (τ : CT) (S : Nat → Nat → Int32) (k : Int32) (n : Nat) : Nat := fL (fcS τ S k n) 0 (2 ^ τ 0 1)
def foN (τ : CT) (S : Nat → Nat → Int32) (k : Int32) (n m : Nat) : Nat := fL (foS τ S k n m) 0 (2 ^ τ 0 1)
theorem ft_c {τ : CT} {S : Nat → Nat → Int32} {k : Int32} {n : Nat} {z : Nat → Int32} : ∀ s, (fL (ftS τ S k n) (0, z) s).1 = fL (fcS τ S k n) 0 s
  | 0 => rfl
  | s + 1 => by
    rw [fL_s, fL_s, ← ft_c s]
    unfold ftS fcS
    split <;> rfl
theorem ft_o {τ : CT} {S : Nat → Nat → Int32} {k : Int32} {n m : Nat} {z : Nat → Int32} (hz : z m = 0) (hm : m < 7) : ∀ s, s ≤ 2 ^ τ 0 1 → (fL (ftS τ S k n) (0, z) s).2 m = nI (fL (foS τ S k n m) 0 s)
  | 0, _ => hz
  | s + 1, hs => by
    have ih := ft_o (τ := τ) (S := S) (k := k) (n := n) hz hm s (by omega)
    rw [fL_s, fL_s]
    generalize fL (ftS τ S k n) (0, z) s = p at ih ⊢
    generalize fL (foS τ S k n m) 0 s = c at ih ⊢
    unfold ftS foS
    by_cases f : fitB τ S k n s = true
    · rw [if_pos f]
      show (if m < τ 0 1 then p.2 m + btI s m else p.2 m) = _
      by_cases b : s.testBit m = true
      · have hmm : m < τ 0 1 := bit_lt (show s < 2 ^ τ 0 1 by omega) b
        have e : btI s m = 1 := if_pos b
        rw [if_pos hmm, if_pos ⟨f, b⟩, e, ih, nI_1]
      · have e : btI s m = 0 := if_neg b
        rw [e, Int32.add_zero, ite_self, ih, if_neg (fun w => b w.2)]
    · rw [if_neg f, if_neg (fun w => f w.1)]
      exact ih
theorem fo_le {τ : CT} {S : Nat → Nat → Int32} {k : Int32} {n m : Nat} : ∀ s, fL (foS τ S k n m) 0 s ≤ fL (fcS τ S k n) 0 s
  | 0 => Nat.le_refl _
  | s + 1 => by
    have ih := fo_le (τ := τ) (S := S) (k := k) (n := n) (m := m) s
    rw [fL_s, fL_s]
    unfold foS fcS at ih ⊢
    by_cases f : fitB τ S k n s = true
    · rw [if_pos f]
      split <;> omega
    · rw [if_neg f, if_neg (fun w => f w.1)]
      exact ih
theorem fc_le {τ : CT} {S : Nat → Nat → Int32} {k : Int32} {n : Nat} : ∀ s, fL (fcS τ S k n) 0 s ≤ s
  | 0 => Nat.le_refl _
  | s + 1 => by
    have ih := fc_le (τ := τ) (S := S) (k := k) (n := n) s
    rw [fL_s]
    unfold fcS at ih ⊢
    split <;> omega
theorem c_fits {X : XT} {d T N n t : Nat} {h : HT} {τ : CT} {A : Nat → Int32} {S : Nat → Nat → Int32} {k : Int32} (H : CQ h T τ N A) (C : CSig h n t S) (hn : n ≤ 30) (O : ∀ i, i < n → sOk S i) : ∃ g, Same h g ∧ m_gI g 179 7 = nI (fcN τ S k n) ∧ (∀ m, m < 7 → m_gI g 185 m = nI (foN τ S k n m)) ∧ ∀ Q : QT, wq X (d + 3) 179 0 [some (.ref 179), some (.ref T), some (.int k), none, none] [] h Q = Q none g := by
  have hp := cq_p H
  have hT := ct_T (cq_t H)
  have h7 := o_mn (cq_k H)
  have h8 := p2_7 h7
  have n185 : (185 : Nat) ≠ 179 := by decide
  have e0 : ∀ Q : QT, wq X (d + 3) 179 7 [some (.ref 179), some (.ref T), some (.int k), some (.int (nI 0)), none] [] (hFt h 179 7 185 0 (zrL (m_gI h 185) 0)) Q = wq X (d + 3) 179 7 [some (.ref 179), some (.ref T), some (.int k), some (.int (nI 7)), none] [] (hFt h 179 7 185 0 (zrL (m_gI h 185) 7)) Q := by
    intro Q
    refine q_loop (fun i => wq X (d + 3) 179 7 [some (.ref 179), some (.ref T), some (.int k), some (.int (nI i)), none] [] (hFt h 179 7 185 0 (zrL (m_gI h 185) i)) Q) 7 (fun i hi => ?_)
    have f1 : (nI i < 7) = True := eq_true (nI_lt (b := 7) (by omega) (by omega))
    have e3 : m_in (nI i) 7 = true := q_in (by omega) (by decide)
    have e4 : (nI i).toNatClampNeg = i := q_cl (by omega)
    show wq X (d + 3) 179 7 _ _ _ _ = _
    rw [u179_7]
    simp only [u179_8, u179_10, u179_13, u179_14, u179_17, u179_18, u179_19, u179_20, u179_23, eq_self, q_nl0, q_nlI, q_nlR, not_false_eq_true, q_nz0, q_nz1, q_zv0, q_zv1, q_tl1, q_tl0, q_wif, q_swc, q_swn, List.cons_append, List.nil_append, if_true, if_false, e10, e01, Bool.false_eq_true, sh_179, sh_185, f1, gR_hFt, p_179_8 hp, e3, e4, sI_hFtB n185, nI_1, zrL_s]
  refine ⟨hFt h 179 7 185 (nI (fL (ftS τ S k n) (0, zrL (m_gI h 185) 7) (2 ^ τ 0 1)).1) (fL (ftS τ S k n) (0, zrL (m_gI h 185) 7) (2 ^ τ 0 1)).2, Same_ft1, ?_, fun m hm => ?_, fun Q => ?_⟩
  · rw [gI_hFtA, ft_c]
    rfl
  · rw [gI_hFtB n185, ft_o (if_pos hm) hm _ (Nat.le_refl _)]
    rfl
  · have es : m_sI h 179 7 0 = hFt h 179 7 185 0 (zrL (m_gI h 185) 0) := by
      rw [zrL_0]
      rcases hFt_0 (h := h) (a := 179) (q := 7) (b := 185) (c := 0) with e | e
      · exact e
      · cases e
    simp only [u179_0, u179_1, u179_2, u179_5, u179_6, eq_self, q_nl0, q_nlI, q_nlR, not_false_eq_true, q_nz0, q_nz1, q_zv0, q_zv1, q_tl1, q_tl0, q_wif, q_swc, q_swn, List.cons_append, List.nil_append, if_true, if_false, e10, e01, Bool.false_eq_true, sh_179, es]
    refine (e0 Q).trans ?_
    rw [u179_7]
    simp only [u179_8, u179_10, u179_26, u179_27, eq_self, q_nl0, q_nlI, q_nlR, not_false_eq_true, q_nz0, q_nz1, q_zv0, q_zv1, q_tl1, q_tl0, q_wif, q_swc, q_swn, List.cons_append, List.nil_append, if_true, if_false, e10, e01, Bool.false_eq_true, eq_false (show ¬ nI 7 < 7 by decide)]
    obtain ⟨l', e⟩ := q_loopL (fun i (l4 : Option Value) => wq X (d + 3) 179 28 [some (.ref 179), some (.ref T), some (.int k), some (.int (nI i)), l4] [] (hFt h 179 7 185 (nI (fL (ftS τ S k n) (0, zrL (m_gI h 185) 7) i).1) (fL (ftS τ S k n) (0, zrL (m_gI h 185) 7) i).2) Q) (2 ^ τ 0 1) (by
      intro i hi l4
      have hi8 : i < 128 := by omega
      have C' : ∀ c f, CQ (hFt h 179 7 185 c f) T τ N A := fun c f => CQ_same Same_ft1 H
      have S' : ∀ c f, CSig (hFt h 179 7 185 c f) n t S := fun c f => CSig_eq (fun e k z => gI_hFto (by omega) (by omega)) C
      have f1 : (nI i < 128) = True := eq_true (nI_lt (b := 128) hi8 (by omega))
      rw [fL_s]
      generalize fL (ftS τ S k n) (0, zrL (m_gI h 185) 7) i = p
      obtain ⟨c, f⟩ := p
      have cc := fun (Q : QT) (c : Int32) (f : Nat → Int32) => c_can (X := X) (d := d) (k := k) (Q := Q) (cq_t (C' c f)) (S' c f) hn O hi8
      by_cases z : fitB τ S k n i = true
      · refine ⟨some (.int (nI 7)), ?_⟩
        have eS : ftS τ S k n i (c, f) = (c + 1, adF f i (τ 0 1)) := if_pos z
        have lp : wq X (d + 3) 179 66 [some (.ref 179), some (.ref T), some (.int k), some (.int (nI i)), some (.int (nI 0))] [] (hFt h 179 7 185 (nI (c + 1)) (adF f i 0)) Q = wq X (d + 3) 179 66 [some (.ref 179), some (.ref T), some (.int k), some (.int (nI i)), some (.int (nI 7))] [] (hFt h 179 7 185 (nI (c + 1)) (adF f i 7)) Q := by
          refine q_loop (fun j => wq X (d + 3) 179 66 [some (.ref 179), some (.ref T), some (.int k), some (.int (nI i)), some (.int (nI j))] [] (hFt h 179 7 185 (nI (c + 1)) (adF f i j)) Q) 7 (fun j hj => ?_)
          have g1 : (nI j < 7) = True := eq_true (nI_lt (b := 7) (by omega) (by omega))
          have g3 : m_in (nI j) 7 = true := q_in (by omega) (by decide)
          have g4 : (nI j).toNatClampNeg = j := q_cl (by omega)
          have hb : nI i >>> (nI j &&& 31) &&& 1 = btI i j := bit01 hi8 (by omega)
          show wq X (d + 3) 179 66 _ _ _ _ = _
          rw [u179_66]
          simp only [u179_68, u179_70, u179_73, u179_74, u179_77, u179_79, u179_80, u179_81, u179_82, u179_84, u179_85, u179_86, u179_87, u179_88, u179_89, u179_92, eq_self, q_nl0, q_nlI, q_nlR, not_false_eq_true, q_nz0, q_nz1, q_zv0, q_zv1, q_tl1, q_tl0, q_wif, q_swc, q_swn, List.cons_append, List.nil_append, if_true, if_false, e10, e01, Bool.false_eq_true, sh_179, sh_185, g1, gR_hFt, p_179_8 hp, g3, g4, gI_hFtB n185, adF_i, hb, sI_hFtB n185, nI_1, adF_s]
        rw [adF_0] at lp
        show wq X (d + 3) 179 28 _ _ _ _ = _
        rw [u179_28, eS]
        simp only [u179_29, u179_30, u179_33, u179_36, u179_37, u179_40, u179_43, u179_44, u179_45, u179_46, u179_47, eq_self, q_nl0, q_nlI, q_nlR, not_false_eq_true, q_nz0, q_nz1, q_zv0, q_zv1, q_tl1, q_tl0, q_wif, q_swc, q_swn, List.cons_append, List.nil_append, if_true, if_false, e10, e01, Bool.false_eq_true, sh_179, shT_0 hT, c_every (cq_t (C' _ _)), le_all h7 hi, f1, cc]
        simp only [u179_50, u179_53, u179_54, u179_55, u179_58, u179_59, u179_60, u179_63, u179_64, eq_self, q_nl0, q_nlI, q_nlR, not_false_eq_true, q_nz0, q_nz1, q_zv0, q_zv1, q_tl1, q_tl0, q_wif, q_swc, q_swn, List.cons_append, List.nil_append, if_true, if_false, e10, e01, Bool.false_eq_true, sh_179, z, gI_hFtA, nI_1, sI_hFtA]
        refine Eq.trans lp ?_
        rw [u179_66]
        simp only [u179_68, u179_70, u179_95, u179_98, eq_self, q_nl0, q_nlI, q_nlR, not_false_eq_true, q_nz0, q_nz1, q_zv0, q_zv1, q_tl1, q_tl0, q_wif, q_swc, q_swn, List.cons_append, List.nil_append, if_true, if_false, e10, e01, Bool.false_eq_true, eq_false (show ¬ nI 7 < 7 by decide), nI_1, adF_7 h7 hi]
      · refine ⟨l4, ?_⟩
        have eS : ftS τ S k n i (c, f) = (c, f) := if_neg z
        show wq X (d + 3) 179 28 _ _ _ _ = _
        rw [u179_28, eS]
        simp only [u179_29, u179_30, u179_33, u179_36, u179_37, u179_40, u179_43, u179_44, u179_45, u179_46, u179_47, eq_self, q_nl0, q_nlI, q_nlR, not_false_eq_true, q_nz0, q_nz1, q_zv0, q_zv1, q_tl1, q_tl0, q_wif, q_swc, q_swn, List.cons_append, List.nil_append, if_true, if_false, e10, e01, Bool.false_eq_true, sh_179, shT_0 hT, c_every (cq_t (C' _ _)), le_all h7 hi, f1, cc]
        simp only [u179_50, u179_95, u179_98, eq_self, q_nl0, q_nlI, q_nlR, not_false_eq_true, q_nz0, q_nz1, q_zv0, q_zv1, q_tl1, q_tl0, q_wif, q_swc, q_swn, List.cons_append, List.nil_append, if_true, if_false, e10, e01, Bool.false_eq_true, z, nI_1]) none
    refine Eq.trans e ?_
    have C' : ∀ c f, CQ (hFt h 179 7 185 c f) T τ N A := fun c f => CQ_same Same_ft1 H
    show wq X (d + 3) 179 28 _ _ _ _ = _
    rw [u179_28]
    simp only [u179_29, u179_30, u179_33, u179_101, eq_self, q_nl0, q_nlI, q_nlR, not_false_eq_true, q_nz0, q_nz1, q_zv0, q_zv1, q_tl1, q_tl0, q_wif, q_swc, q_swn, List.cons_append, List.nil_append, if_true, if_false, e10, e01, Bool.false_eq_true, shT_0 hT, c_every (cq_t (C' _ _)), gt_all h7]
theorem k_fits {X : XT} {d b f0 N n t : Nat} {h : HT} {τ : CT} {A : Nat → Int32} {S : Nat → Nat → Int32} {k : Int32} (H : KQ h b f0 τ N A) (C : KSig h n t S) (hn : n ≤ 30) (O : ∀ i, i < n → sOk S i) : ∃ g, Same h g ∧ m_gI g 195 64 = nI (fcN τ S k n) ∧ (∀ m, m < 7 → m_gI g 235 m = nI (foN τ S k n m)) ∧ ∀ Q : QT, wq X (d + 5) 305 0 [some (.ref 195), some (.int k), none, none] [] h Q = Q none g := by
  have hp := mq_p H
  have h7 := o_mn (mq_k H)
  have h8 := p2_7 h7
  have n235 : (235 : Nat) ≠ 195 := by decide
  have e0 : ∀ Q : QT, wq X (d + 5) 305 7 [some (.ref 195), some (.int k), some (.int (nI 0)), none] [] (hFt h 195 64 235 0 (zrL (m_gI h 235) 0)) Q = wq X (d + 5) 305 7 [some (.ref 195), some (.int k), some (.int (nI 7)), none] [] (hFt h 195 64 235 0 (zrL (m_gI h 235) 7)) Q := by
    intro Q
    refine q_loop (fun i => wq X (d + 5) 305 7 [some (.ref 195), some (.int k), some (.int (nI i)), none] [] (hFt h 195 64 235 0 (zrL (m_gI h 235) i)) Q) 7 (fun i hi => ?_)
    have f1 : (nI i < 7) = True := eq_true (nI_lt (b := 7) (by omega) (by omega))
    have e3 : m_in (nI i) 7 = true := q_in (by omega) (by decide)
    have e4 : (nI i).toNatClampNeg = i := q_cl (by omega)
    show wq X (d + 5) 305 7 _ _ _ _ = _
    rw [u305_7]
    simp only [u305_8, u305_10, u305_13, u305_14, u305_17, u305_18, u305_19, u305_20, u305_23, eq_self, q_nl0, q_nlI, q_nlR, not_false_eq_true, q_nz0, q_nz1, q_zv0, q_zv1, q_tl1, q_tl0, q_wif, q_swc, q_swn, List.cons_append, List.nil_append, if_true, if_false, e10, e01, Bool.false_eq_true, sh_195, sh_235, f1, gR_hFt, p_195_61 hp, e3, e4, sI_hFtB n235, nI_1, zrL_s]
  refine ⟨hFt h 195 64 235 (nI (fL (ftS τ S k n) (0, zrL (m_gI h 235) 7) (2 ^ τ 0 1)).1) (fL (ftS τ S k n) (0, zrL (m_gI h 235) 7) (2 ^ τ 0 1)).2, Same_ft2, ?_, fun m hm => ?_, fun Q => ?_⟩
  · rw [gI_hFtA, ft_c]
    rfl
  · rw [gI_hFtB n235, ft_o (if_pos hm) hm _ (Nat.le_refl _)]
    rfl
  · have es : m_sI h 195 64 0 = hFt h 195 64 235 0 (zrL (m_gI h 235) 0) := by
      rw [zrL_0]
      rcases hFt_0 (h := h) (a := 195) (q := 64) (b := 235) (c := 0) with e | e
      · exact e
      · cases e
    simp only [u305_0, u305_1, u305_2, u305_5, u305_6, eq_self, q_nl0, q_nlI, q_nlR, not_false_eq_true, q_nz0, q_nz1, q_zv0, q_zv1, q_tl1, q_tl0, q_wif, q_swc, q_swn, List.cons_append, List.nil_append, if_true, if_false, e10, e01, Bool.false_eq_true, sh_195, es]
    refine (e0 Q).trans ?_
    rw [u305_7]
    simp only [u305_8, u305_10, u305_26, u305_27, eq_self, q_nl0, q_nlI, q_nlR, not_false_eq_true, q_nz0, q_nz1, q_zv0, q_zv1, q_tl1, q_tl0, q_wif, q_swc, q_swn, List.cons_append, List.nil_append, if_true, if_false, e10, e01, Bool.false_eq_true, eq_false (show ¬ nI 7 < 7 by decide)]
    obtain ⟨l', e⟩ := q_loopL (fun i (l3 : Option Value) => wq X (d + 5) 305 28 [some (.ref 195), some (.int k), some (.int (nI i)), l3] [] (hFt h 195 64 235 (nI (fL (ftS τ S k n) (0, zrL (m_gI h 235) 7) i).1) (fL (ftS τ S k n) (0, zrL (m_gI h 235) 7) i).2) Q) (2 ^ τ 0 1) (by
      intro i hi l3
      have hi8 : i < 128 := by omega
      have C' : ∀ c f, KQ (hFt h 195 64 235 c f) b f0 τ N A := fun c f => KQ_same Same_ft2 H
      have S' : ∀ c f, KSig (hFt h 195 64 235 c f) n t S := fun c f => KSig_eq (fun e k z => gI_hFto (by omega) (by omega)) C
      rw [fL_s]
      generalize fL (ftS τ S k n) (0, zrL (m_gI h 235) 7) i = p
      obtain ⟨c, f⟩ := p
      have cc := fun (Q : QT) (c : Int32) (f : Nat → Int32) => k_does (X := X) (d := d) (k := k) (Q := Q) (mq_t (C' c f)) (S' c f) hn O hi8
      by_cases z : fitB τ S k n i = true
      · refine ⟨some (.int (nI (τ 0 1))), ?_⟩
        have eS : ftS τ S k n i (c, f) = (c + 1, adF f i (τ 0 1)) := if_pos z
        have lp : wq X (d + 5) 305 60 [some (.ref 195), some (.int k), some (.int (nI i)), some (.int (nI 0))] [] (hFt h 195 64 235 (nI (c + 1)) (adF f i 0)) Q = wq X (d + 5) 305 60 [some (.ref 195), some (.int k), some (.int (nI i)), some (.int (nI (τ 0 1)))] [] (hFt h 195 64 235 (nI (c + 1)) (adF f i (τ 0 1))) Q := by
          refine q_loop (fun j => wq X (d + 5) 305 60 [some (.ref 195), some (.int k), some (.int (nI i)), some (.int (nI j))] [] (hFt h 195 64 235 (nI (c + 1)) (adF f i j)) Q) (τ 0 1) (fun j hj => ?_)
          have g1 : (nI j < nI (τ 0 1)) = True := eq_true (nI_lt hj (by omega))
          have g3 : m_in (nI j) 7 = true := q_in (by omega) (by decide)
          have g4 : (nI j).toNatClampNeg = j := q_cl (by omega)
          have hb : nI i >>> (nI j &&& 31) &&& 1 = btI i j := bit01 hi8 (by omega)
          show wq X (d + 5) 305 60 _ _ _ _ = _
          rw [u305_60]
          simp only [u305_61, u305_62, u305_65, u305_68, u305_69, u305_72, u305_73, u305_74, u305_75, u305_76, u305_77, u305_78, u305_79, u305_80, u305_81, u305_82, u305_85, eq_self, q_nl0, q_nlI, q_nlR, not_false_eq_true, q_nz0, q_nz1, q_zv0, q_zv1, q_tl1, q_tl0, q_wif, q_swc, q_swn, List.cons_append, List.nil_append, if_true, if_false, e10, e01, Bool.false_eq_true, sh_195, sh_235, k_many (mq_t (C' _ _)), g1, gR_hFt, p_195_61 hp, g3, g4, gI_hFtB n235, adF_i, hb, sI_hFtB n235, nI_1, adF_s]
        rw [adF_0] at lp
        show wq X (d + 5) 305 28 _ _ _ _ = _
        rw [u305_28, eS]
        simp only [u305_29, u305_30, u305_33, u305_36, u305_37, u305_38, u305_39, eq_self, q_nl0, q_nlI, q_nlR, not_false_eq_true, q_nz0, q_nz1, q_zv0, q_zv1, q_tl1, q_tl0, q_wif, q_swc, q_swn, List.cons_append, List.nil_append, if_true, if_false, e10, e01, Bool.false_eq_true, sh_195, k_everybody (mq_t (C' _ _)), le_all h7 hi, cc]
        simp only [u305_42, u305_45, u305_48, u305_49, u305_50, u305_53, u305_54, u305_55, u305_58, u305_59, eq_self, q_nl0, q_nlI, q_nlR, not_false_eq_true, q_nz0, q_nz1, q_zv0, q_zv1, q_tl1, q_tl0, q_wif, q_swc, q_swn, List.cons_append, List.nil_append, if_true, if_false, e10, e01, Bool.false_eq_true, sh_195, z, gI_hFtA, nI_1, sI_hFtA]
        refine Eq.trans lp ?_
        rw [u305_60]
        simp only [u305_61, u305_62, u305_65, u305_88, u305_91, eq_self, q_nl0, q_nlI, q_nlR, not_false_eq_true, q_nz0, q_nz1, q_zv0, q_zv1, q_tl1, q_tl0, q_wif, q_swc, q_swn, List.cons_append, List.nil_append, if_true, if_false, e10, e01, Bool.false_eq_true, sh_195, k_many (mq_t (C' _ _)), eq_false (nI_nlt (Nat.le_refl (τ 0 1)) (by omega)), nI_1]
      · refine ⟨l3, ?_⟩
        have eS : ftS τ S k n i (c, f) = (c, f) := if_neg z
        show wq X (d + 5) 305 28 _ _ _ _ = _
        rw [u305_28, eS]
        simp only [u305_29, u305_30, u305_33, u305_36, u305_37, u305_38, u305_39, eq_self, q_nl0, q_nlI, q_nlR, not_false_eq_true, q_nz0, q_nz1, q_zv0, q_zv1, q_tl1, q_tl0, q_wif, q_swc, q_swn, List.cons_append, List.nil_append, if_true, if_false, e10, e01, Bool.false_eq_true, sh_195, k_everybody (mq_t (C' _ _)), le_all h7 hi, cc]
        simp only [u305_42, u305_45, u305_88, u305_91, eq_self, q_nl0, q_nlI, q_nlR, not_false_eq_true, q_nz0, q_nz1, q_zv0, q_zv1, q_tl1, q_tl0, q_wif, q_swc, q_swn, List.cons_append, List.nil_append, if_true, if_false, e10, e01, Bool.false_eq_true, z, nI_1]) none
    refine Eq.trans e ?_
    have C' : ∀ c f, KQ (hFt h 195 64 235 c f) b f0 τ N A := fun c f => KQ_same Same_ft2 H
    show wq X (d + 5) 305 28 _ _ _ _ = _
    rw [u305_28]
    simp only [u305_29, u305_30, u305_33, u305_94, eq_self, q_nl0, q_nlI, q_nlR, not_false_eq_true, q_nz0, q_nz1, q_zv0, q_zv1, q_tl1, q_tl0, q_wif, q_swc, q_swn, List.cons_append, List.nil_append, if_true, if_false, e10, e01, Bool.false_eq_true, sh_195, k_everybody (mq_t (C' _ _)), gt_all h7]
theorem b_fits {X : XT} {d T b f N n t : Nat} {h : HT} {τ : CT} {A : Nat → Int32} {S : Nat → Nat → Int32} (H : CQ h T τ N A) (K : KQ h b f τ N A) (C : CSig h n t S) (C2 : KSig h n t S) (hn : n ≤ 30) (O : ∀ i, i < n → sOk S i) (hs : ∀ g, Same h g → KSig g n t S) (k : Int32) : Pr X (d + 10) 178 [some (.ref 1), some (.int k)] 304 [some (.ref 195), some (.int k)] h := by
  have hp := cq_p H
  refine Pr_of (nI (fcN τ S k n)) ?_ (fun g a => ?_)
  · obtain ⟨g, a1, a2, a3, a4⟩ := c_fits (X := X) (d := d + 6) (k := k) H C hn O
    refine ⟨g, a1, fun Q => ?_⟩
    simp only [u178_0, u178_1, u178_4, u178_5, u178_8, u178_9, eq_self, q_nl0, q_nlI, q_nlR, not_false_eq_true, q_nz0, q_nz1, q_zv0, q_zv1, q_tl1, q_tl0, q_wif, q_swc, q_swn, List.cons_append, List.nil_append, if_true, if_false, e10, e01, Bool.false_eq_true, sh_1, sh_179, p_1_10 hp, cq_T H, a4]
    simp only [u178_12, u178_13, u178_16, u178_19, eq_self, q_nl0, q_nlI, q_nlR, not_false_eq_true, q_nz0, q_nz1, q_zv0, q_zv1, q_tl1, q_tl0, q_wif, q_swc, q_swn, List.cons_append, List.nil_append, if_true, if_false, e10, e01, Bool.false_eq_true, sh_1, sh_179, p_1_10 (Same_p a1 hp), a2]
  · obtain ⟨g', a1, a2, a3, a4⟩ := k_fits (X := X) (d := d + 4) (k := k) (KQ_same a K) (hs g a) hn O
    refine ⟨g', a1, fun Q => ?_⟩
    simp only [u304_0, u304_1, u304_2, eq_self, q_nl0, q_nlI, q_nlR, not_false_eq_true, q_nz0, q_nz1, q_zv0, q_zv1, q_tl1, q_tl0, q_wif, q_swc, q_swn, List.cons_append, List.nil_append, if_true, if_false, e10, e01, Bool.false_eq_true, sh_195, a4]
    simp only [u304_5, u304_6, u304_9, eq_self, q_nl0, q_nlI, q_nlR, not_false_eq_true, q_nz0, q_nz1, q_zv0, q_zv1, q_tl1, q_tl0, q_wif, q_swc, q_swn, List.cons_append, List.nil_append, if_true, if_false, e10, e01, Bool.false_eq_true, sh_195, a2]
theorem b_sure {X : XT} {d T b f N n t : Nat} {h : HT} {τ : CT} {A : Nat → Int32} {S : Nat → Nat → Int32} (H : CQ h T τ N A) (K : KQ h b f τ N A) (C : CSig h n t S) (hn : n ≤ 30) (O : ∀ i, i < n → sOk S i) (hs : ∀ g, Same h g → KSig g n t S) (x k : Int32) : Pr X (d + 10) 182 [some (.ref 1), some (.int x), some (.int k)] 308 [some (.ref 195), some (.int x), some (.int k)] h := by
  have hp := cq_p H
  have h7 := o_mn (cq_k H)
  have h8 := p2_7 h7
  rcases ix_cases x (k := τ 0 1) (by omega) with ⟨m, hm, rfl, ix⟩ | ix
  · have e3 : m_in (nI m) 7 = true := q_in (by omega) (by decide)
    have e4 : (nI m).toNatClampNeg = m := q_cl (by omega)
    have l1 : fcN τ S k n ≤ 2 ^ τ 0 1 := fc_le _
    have l2 : foN τ S k n m ≤ fcN τ S k n := fo_le _
    have z1 : (nI (fcN τ S k n) = 0) = (fcN τ S k n = 0) := nI_eqB (b := 0) (by omega) (by omega)
    have z2 : (nI (foN τ S k n m) = 0) = (foN τ S k n m = 0) := nI_eqB (b := 0) (by omega) (by omega)
    have z3 : (nI (foN τ S k n m) = nI (fcN τ S k n)) = (foN τ S k n m = fcN τ S k n) := nI_eqB (by omega) (by omega)
    refine Pr_of (if fcN τ S k n = 0 then -1 else if foN τ S k n m = 0 then 0 else if foN τ S k n m = fcN τ S k n then 1 else -2) ?_ (fun g a => ?_)
    · obtain ⟨g, a1, a2, a3, a4⟩ := c_fits (X := X) (d := d + 6) (k := k) H C hn O
      have pg := Same_p a1 hp
      refine ⟨g, a1, fun Q => ?_⟩
      simp only [u182_0, u182_1, u182_2, u182_5, u182_8, u182_9, u182_10, u182_11, u182_14, u182_15, u182_18, u182_19, eq_self, q_nl0, q_nlI, q_nlR, not_false_eq_true, q_nz0, q_nz1, q_zv0, q_zv1, q_tl1, q_tl0, q_wif, q_swc, q_swn, List.cons_append, List.nil_append, if_true, if_false, e10, e01, Bool.false_eq_true, sh_1, sh_179, c_isIx (cq_t H) (cq_T H), ix, p_1_10 hp, cq_T H, a4]
      simp only [u182_22, u182_23, u182_26, u182_29, u182_32, u182_33, u182_34, u182_35, u182_38, u182_41, u182_42, u182_43, u182_46, u182_47, u182_48, u182_49, u182_52, u182_55, u182_56, u182_57, u182_58, u182_61, u182_64, u182_67, u182_68, u182_71, u182_73, eq_self, q_nl0, q_nlI, q_nlR, not_false_eq_true, q_nz0, q_nz1, q_zv0, q_zv1, q_tl1, q_tl0, q_wif, q_swc, q_swn, List.cons_append, List.nil_append, if_true, if_false, e10, e01, Bool.false_eq_true, sh_1, sh_179, sh_185, p_1_10 pg, a2, z1, p_179_8 pg, e3, e4, a3 m (by omega), z2, z3]
      split
      · rfl
      · split
        · rfl
        · split <;> rfl
    · have K' := KQ_same a K
      obtain ⟨g', a1, a2, a3, a4⟩ := k_fits (X := X) (d := d + 4) (k := k) K' (hs g a) hn O
      have pg := Same_p a1 (mq_p K')
      refine ⟨g', a1, fun Q => ?_⟩
      simp only [u308_0, u308_1, u308_2, u308_5, u308_8, u308_9, u308_10, u308_11, u308_12, eq_self, q_nl0, q_nlI, q_nlR, not_false_eq_true, q_nz0, q_nz1, q_zv0, q_zv1, q_tl1, q_tl0, q_wif, q_swc, q_swn, List.cons_append, List.nil_append, if_true, if_false, e10, e01, Bool.false_eq_true, sh_195, k_isMan (mq_t K'), ix, a4]
      simp only [u308_15, u308_16, u308_19, u308_22, u308_23, u308_26, u308_27, u308_30, u308_31, u308_32, u308_35, u308_36, u308_39, u308_40, u308_43, u308_44, u308_45, u308_46, u308_49, u308_52, u308_53, u308_56, u308_58, eq_self, q_nl0, q_nlI, q_nlR, not_false_eq_true, q_nz0, q_nz1, q_zv0, q_zv1, q_tl1, q_tl0, q_wif, q_swc, q_swn, List.cons_append, List.nil_append, if_true, if_false, e10, e01, Bool.false_eq_true, sh_195, sh_235, a2, z1, p_195_61 pg, e3, e4, a3 m (by omega), z2, z3]
      split
      · rfl
      · split
        · rfl
        · split <;> rfl
  · refine Pr_pure (-1) (fun Q => ?_) (fun Q => ?_)
    · simp only [u182_0, u182_1, u182_2, u182_5, u182_8, u182_9, eq_self, q_nl0, q_nlI, q_nlR, not_false_eq_true, q_nz0, q_nz1, q_zv0, q_zv1, q_tl1, q_tl0, q_wif, q_swc, q_swn, List.cons_append, List.nil_append, if_true, if_false, e10, e01, Bool.false_eq_true, sh_1, c_isIx (cq_t H) (cq_T H), ix]
    · simp only [u308_0, u308_1, u308_2, u308_5, u308_8, u308_9, eq_self, q_nl0, q_nlI, q_nlR, not_false_eq_true, q_nz0, q_nz1, q_zv0, q_zv1, q_tl1, q_tl0, q_wif, q_swc, q_swn, List.cons_append, List.nil_append, if_true, if_false, e10, e01, Bool.false_eq_true, sh_195, k_isMan (mq_t K), ix]
/-! ask -/
def lfN (τ : CT) (S : Nat → Nat → Int32) (k : Int32) (n m : Nat) : Nat := if fcN τ S k n - foN τ S k n m < foN τ S k n m then foN τ S k n m else fcN τ S k n - foN τ S k n m
def asF (τ : CT) (S : Nat → Nat → Int32) (k : Int32) (n : Nat) : Nat → Option Nat := fL (bvS (fun _ => true) (fun _ => 0) (lfN τ S k n)) none
def asL (τ : CT) (S : Nat → Nat → Int32) (k : Int32) (n : Nat) : Option Nat → Int32
  | none => 0
  | some q => nI (lfN τ S k n q)
theorem b_ask {X : XT} {d T b f N n t : Nat} {h : HT} {τ : CT} {A : Nat → Int32} {S : Nat → Nat → Int32} (H : CQ h T τ N A) (K : KQ h b f τ N A) (C : CSig h n t S) (hn : n ≤ 30) (O : ∀ i, i < n → sOk S i) (hs : ∀ g, Same h g → KSig g n t S) (w k : Int32) : Pr X (d + 10) 183 [some (.ref 1), some (.int w), some (.int k), none, none] 309 [some (.ref 195), some (.int w), some (.int k), none, none, none, none] h := by
  have hp := cq_p H
  have h7 := o_mn (cq_k H)
  have h8 := p2_7 h7
  have l1 : fcN τ S k n ≤ 2 ^ τ 0 1 := fc_le _
  have l2 : ∀ m, foN τ S k n m ≤ fcN τ S k n := fun m => fo_le _
  have l3 : ∀ m, lfN τ S k n m ≤ fcN τ S k n := fun m => by
    have := l2 m
    unfold lfN
    split <;> omega
  have z1 : (nI (fcN τ S k n) = 0) = (fcN τ S k n = 0) := nI_eqB (b := 0) (by omega) (by omega)
  have hlt := fO_lt (bvS_o (p := fun _ => true) (V := fun _ => 0) (C := lfN τ S k n))
  have hes : ∀ i, asF τ S k n (i + 1) = bvM (fun _ => 0) (lfN τ S k n) i (asF τ S k n i) := fun i => by
    show (if true = true then bvM (fun _ => 0) (lfN τ S k n) i (asF τ S k n i) else asF τ S k n i) = _
    exact if_pos rfl
  have hbv : ∀ i q, bvM (fun _ => 0) (lfN τ S k n) i (some q) = if lfN τ S k n i < lfN τ S k n q then some i else some q := fun i q => by
    show (if 0 < 0 then some i else if 0 = 0 then if lfN τ S k n i < lfN τ S k n q then some i else some q else some q) = _
    rw [if_neg (by decide), if_pos rfl]
  -- the class from its days on
  have cl : ∃ g, Same h g ∧ (fcN τ S k n = 0 → ∀ Q : QT, wq X (d + 10) 183 11 [some (.ref 1), some (.int w), some (.int k), none, none] [] h Q = Q (some (.int (-1))) g) ∧ (fcN τ S k n ≠ 0 → ∃ l4, ∀ Q : QT, wq X (d + 10) 183 11 [some (.ref 1), some (.int w), some (.int k), none, none] [] h Q = wq X (d + 10) 183 109 [some (.ref 1), some (.int w), some (.int k), some (.int (nI (τ 0 1))), l4] [] (hP g (bvP (fun _ => 0) (lfN τ S k n) (asF τ S k n (τ 0 1)))) Q) := by
    obtain ⟨g, a1, a2, a3, a4⟩ := c_fits (X := X) (d := d + 6) (k := k) H C hn O
    have pg := Same_p a1 hp
    have Cg := CQ_same a1 H
    refine ⟨g, a1, fun z Q => ?_, fun z => ?_⟩
    · simp only [u183_11, u183_12, u183_15, u183_16, u183_19, u183_20, eq_self, q_nl0, q_nlI, q_nlR, not_false_eq_true, q_nz0, q_nz1, q_zv0, q_zv1, q_tl1, q_tl0, q_wif, q_swc, q_swn, List.cons_append, List.nil_append, if_true, if_false, e10, e01, Bool.false_eq_true, sh_1, sh_179, p_1_10 hp, cq_T H, a4]
      simp only [u183_23, u183_24, u183_27, u183_30, u183_33, u183_34, eq_self, q_nl0, q_nlI, q_nlR, not_false_eq_true, q_nz0, q_nz1, q_zv0, q_zv1, q_tl1, q_tl0, q_wif, q_swc, q_swn, List.cons_append, List.nil_append, if_true, if_false, e10, e01, Bool.false_eq_true, sh_1, sh_179, p_1_10 pg, a2, z1, eq_true z]
    · obtain ⟨l4, l4e⟩ : ∃ l4 : Option Value, True := ⟨none, trivial⟩
      obtain ⟨l', _, e⟩ := q_loopI (fun i (l4 : Option Value) (Q : QT) => wq X (d + 10) 183 44 [some (.ref 1), some (.int w), some (.int k), some (.int (nI i)), l4] [] (hP g (bvP (fun _ => 0) (lfN τ S k n) (asF τ S k n i))) Q) (fun _ _ => True) (τ 0 1) (by
        intro i hi l4 _
        refine ⟨some (.int (nI (lfN τ S k n i))), trivial, funext fun Q => ?_⟩
        have hl : ∀ q, asF τ S k n i = some q → q < i := hlt i
        rw [hes]
        generalize asF τ S k n i = o at hl ⊢
        have C' : ∀ p, CQ (hP g p) T τ N A := fun p => CQ_same Same_hP Cg
        have f1 : (nI i < nI (τ 0 1)) = True := eq_true (nI_lt hi (by omega))
        have f2 : (nI i < 7) = True := eq_true (nI_lt (b := 7) (by omega) (by omega))
        have e3 : m_in (nI i) 7 = true := q_in (by omega) (by decide)
        have e4 : (nI i).toNatClampNeg = i := q_cl (by omega)
        have gf : ∀ p, m_gI (hP g p) 179 7 = nI (fcN τ S k n) := fun p => (gI_hP (by decide)).trans a2
        have go : ∀ p, m_gI (hP g p) 185 i = nI (foN τ S k n i) := fun p => (gI_hP (by decide)).trans (a3 i (by omega))
        have li := l2 i
        have es : nI (fcN τ S k n) - nI (foN τ S k n i) = nI (fcN τ S k n - foN τ S k n i) := pk_sub li
        have em : (if nI (foN τ S k n i) < nI (fcN τ S k n - foN τ S k n i) then nI (fcN τ S k n - foN τ S k n i) else nI (foN τ S k n i)) = nI (lfN τ S k n i) := by
          unfold lfN
          simp only [nI_ltB (show foN τ S k n i < 2 ^ 31 by omega) (show fcN τ S k n - foN τ S k n i < 2 ^ 31 by omega)]
          by_cases y1 : foN τ S k n i < fcN τ S k n - foN τ S k n i
          · rw [if_pos y1, if_neg (by omega)]
          · rw [if_neg y1]
            by_cases y2 : fcN τ S k n - foN τ S k n i < foN τ S k n i
            · rw [if_pos y2]
            · rw [if_neg y2, show fcN τ S k n - foN τ S k n i = foN τ S k n i by omega]
        have em2 : (if nI (fcN τ S k n - foN τ S k n i) < nI (foN τ S k n i) then nI (foN τ S k n i) else nI (fcN τ S k n - foN τ S k n i)) = nI (lfN τ S k n i) := by
          unfold lfN
          simp only [nI_ltB (show fcN τ S k n - foN τ S k n i < 2 ^ 31 by omega) (show foN τ S k n i < 2 ^ 31 by omega)]
          split <;> rfl
        have tk := bvP_take (V := fun _ => 0) (C := lfN τ S k n) (i := i) (fun _ => by decide) (fun j _ => by have := l3 j; omega) (by omega) o (fun q hq => by have := hl q hq; omega)
        have tk' : pTake (bvP (fun _ => 0) (lfN τ S k n) o) (nI i) 0 (nI (lfN τ S k n i)) = bvP (fun _ => 0) (lfN τ S k n) (bvM (fun _ => 0) (lfN τ S k n) i o) := tk
        rw [u183_44]
        simp only [u183_45, u183_46, u183_49, u183_52, u183_55, u183_56, u183_58, u183_61, u183_62, u183_65, u183_68, u183_69, u183_70, u183_71, u183_74, u183_77, u183_78, u183_81, u183_84, u183_85, u183_86, u183_87, u183_90, u183_92, u183_93, u183_96, u183_97, u183_98, u183_100, u183_103, u183_106, eq_self, q_nl0, q_nlI, q_nlR, not_false_eq_true, q_nz0, q_nz1, q_zv0, q_zv1, q_tl1, q_tl0, q_wif, q_swc, q_swn, List.cons_append, List.nil_append, if_true, if_false, e10, e01, Bool.false_eq_true, sh_1, sh_178, sh_179, sh_185, shT_0 (ct_T (cq_t H)), cq_T (C' _), ct_mn (cq_t (C' _)), f1, f2, p_1_10 (cq_p (C' _)), p_179_8 (cq_p (C' _)), e3, e4, go, gf, es, em, em2, p_1_9 (cq_p (C' _)), c_take, tk', nI_1]) none trivial
      refine ⟨l', fun Q => ?_⟩
      have C' : ∀ p, CQ (hP g p) T τ N A := fun p => CQ_same Same_hP Cg
      simp only [u183_11, u183_12, u183_15, u183_16, u183_19, u183_20, eq_self, q_nl0, q_nlI, q_nlR, not_false_eq_true, q_nz0, q_nz1, q_zv0, q_zv1, q_tl1, q_tl0, q_wif, q_swc, q_swn, List.cons_append, List.nil_append, if_true, if_false, e10, e01, Bool.false_eq_true, sh_1, sh_179, p_1_10 hp, cq_T H, a4]
      simp only [u183_23, u183_24, u183_27, u183_30, u183_33, u183_34, u183_35, u183_36, u183_39, u183_42, u183_43, eq_self, q_nl0, q_nlI, q_nlR, not_false_eq_true, q_nz0, q_nz1, q_zv0, q_zv1, q_tl1, q_tl0, q_wif, q_swc, q_swn, List.cons_append, List.nil_append, if_true, if_false, e10, e01, Bool.false_eq_true, sh_1, sh_178, sh_179, p_1_10 pg, a2, z1, eq_false z, p_1_9 pg, c_pClear]
      refine (congrFun e Q).trans ?_
      rw [u183_44]
      simp only [u183_45, u183_46, u183_49, u183_52, eq_self, q_nl0, q_nlI, q_nlR, not_false_eq_true, q_nz0, q_nz1, q_zv0, q_zv1, q_tl1, q_tl0, q_wif, q_swc, q_swn, List.cons_append, List.nil_append, if_true, if_false, e10, e01, Bool.false_eq_true, sh_1, shT_0 (ct_T (cq_t H)), cq_T (C' _), ct_mn (cq_t (C' _)), eq_false (nI_nlt (Nat.le_refl (τ 0 1)) (by omega))]
  -- the model
  have ml : ∀ g, Same h g → ∃ g', Same g g' ∧ (fcN τ S k n = 0 → ∃ l5, ∀ Q : QT, wq X (d + 10) 309 11 [some (.ref 195), some (.int w), some (.int k), none, none, none, none] [] g Q = wq X (d + 10) 309 113 [some (.ref 195), some (.int w), some (.int k), some (.int (-1)), some (.int 0), l5, none] [] g' Q) ∧ (fcN τ S k n ≠ 0 → ∃ l6, ∀ Q : QT, wq X (d + 10) 309 11 [some (.ref 195), some (.int w), some (.int k), none, none, none, none] [] g Q = wq X (d + 10) 309 113 [some (.ref 195), some (.int w), some (.int k), some (.int (oI (asF τ S k n (τ 0 1)))), some (.int (asL τ S k n (asF τ S k n (τ 0 1)))), some (.int (nI (τ 0 1))), l6] [] g' Q) := by
    intro g a
    have K' := KQ_same a K
    obtain ⟨g', a1, a2, a3, a4⟩ := k_fits (X := X) (d := d + 4) (k := k) K' (hs g a) hn O
    have pg := Same_p a1 (mq_p K')
    have Kg := KQ_same a1 K'
    refine ⟨g', a1, fun z => ⟨some (.int 0), fun Q => ?_⟩, fun z => ?_⟩
    · simp only [u309_11, u309_12, u309_13, eq_self, q_nl0, q_nlI, q_nlR, not_false_eq_true, q_nz0, q_nz1, q_zv0, q_zv1, q_tl1, q_tl0, q_wif, q_swc, q_swn, List.cons_append, List.nil_append, if_true, if_false, e10, e01, Bool.false_eq_true, sh_195, a4]
      have f0 : (0 < nI (fcN τ S k n)) = False := eq_false (by rw [z]; decide)
      simp only [u309_16, u309_17, u309_18, u309_19, u309_21, u309_22, u309_24, u309_26, u309_27, u309_30, u309_33, u309_34, u309_37, eq_self, q_nl0, q_nlI, q_nlR, not_false_eq_true, q_nz0, q_nz1, q_zv0, q_zv1, q_tl1, q_tl0, q_wif, q_swc, q_swn, List.cons_append, List.nil_append, if_true, if_false, e10, e01, Bool.false_eq_true, sh_195, k_many (mq_t Kg), a2, f0, ite_self]
    · have f0 : (0 < nI (fcN τ S k n)) = True := by
        exact eq_true (nI_lt (a := 0) (by omega) (by omega))
      obtain ⟨l', _, e⟩ := q_loopI (fun i (l6 : Option Value) (Q : QT) => wq X (d + 10) 309 24 [some (.ref 195), some (.int w), some (.int k), some (.int (oI (asF τ S k n i))), some (.int (asL τ S k n (asF τ S k n i))), some (.int (nI i)), l6] [] g' Q) (fun _ _ => True) (τ 0 1) (by
        intro i hi l6 _
        refine ⟨some (.int (nI (lfN τ S k n i))), trivial, funext fun Q => ?_⟩
        have hl : ∀ q, asF τ S k n i = some q → q < i := hlt i
        rw [hes]
        generalize asF τ S k n i = o at hl ⊢
        have f1 : (nI i < nI (τ 0 1)) = True := eq_true (nI_lt hi (by omega))
        have e3 : m_in (nI i) 7 = true := q_in (by omega) (by decide)
        have e4 : (nI i).toNatClampNeg = i := q_cl (by omega)
        have li := l2 i
        have es : nI (fcN τ S k n) - nI (foN τ S k n i) = nI (fcN τ S k n - foN τ S k n i) := pk_sub li
        have l3i := l3 i
        have hlf : lfN τ S k n i = if fcN τ S k n - foN τ S k n i < foN τ S k n i then foN τ S k n i else fcN τ S k n - foN τ S k n i := rfl
        rw [u309_24]
        cases o with
        | none =>
          simp only [u309_26, u309_27, u309_30, u309_33, u309_34, u309_37, u309_40, u309_41, u309_44, u309_46, u309_47, u309_48, u309_51, u309_52, u309_55, u309_57, u309_58, u309_59, u309_62, u309_63, u309_66, u309_68, u309_69, u309_72, u309_73, u309_76, u309_77, u309_80, u309_82, u309_83, u309_84, u309_86, u309_87, u309_90, u309_92, u309_94, u309_97, u309_100, u309_102, u309_103, u309_105, u309_107, u309_110, eq_self, q_nl0, q_nlI, q_nlR, not_false_eq_true, q_nz0, q_nz1, q_zv0, q_zv1, q_tl1, q_tl0, q_wif, q_swc, q_swn, List.cons_append, List.nil_append, if_true, if_false, e10, e01, Bool.false_eq_true, sh_195, sh_235, k_many (mq_t Kg), f1, a2, f0, p_195_61 pg, e3, e4, a3 i (by omega), es, nI_ltB (show fcN τ S k n - foN τ S k n i < 2 ^ 31 by omega) (show foN τ S k n i < 2 ^ 31 by omega), oI, m1_lt0, bvM, asL, nI_1]
          by_cases y : fcN τ S k n - foN τ S k n i < foN τ S k n i
          · rw [if_pos y, hlf, if_pos y]
          · rw [if_neg y, hlf, if_neg y]
        | some q =>
          have hq := hl q rfl
          have l3q := l3 q
          simp only [u309_26, u309_27, u309_30, u309_33, u309_34, u309_37, u309_40, u309_41, u309_44, u309_46, u309_47, u309_48, u309_51, u309_52, u309_55, u309_57, u309_58, u309_59, u309_62, u309_63, u309_66, u309_68, u309_69, u309_72, u309_73, u309_76, u309_77, u309_80, u309_82, u309_83, u309_84, u309_86, u309_87, u309_90, u309_92, u309_94, u309_97, u309_100, u309_102, u309_103, u309_105, u309_107, u309_110, eq_self, q_nl0, q_nlI, q_nlR, not_false_eq_true, q_nz0, q_nz1, q_zv0, q_zv1, q_tl1, q_tl0, q_wif, q_swc, q_swn, List.cons_append, List.nil_append, if_true, if_false, e10, e01, Bool.false_eq_true, sh_195, sh_235, k_many (mq_t Kg), f1, a2, f0, p_195_61 pg, e3, e4, a3 i (by omega), es, nI_ltB (show fcN τ S k n - foN τ S k n i < 2 ^ 31 by omega) (show foN τ S k n i < 2 ^ 31 by omega), oI, oI_lt0 (show q < 2 ^ 31 by omega), asL, hbv, nI_1]
          by_cases y : fcN τ S k n - foN τ S k n i < foN τ S k n i
          · have ey : lfN τ S k n i = foN τ S k n i := by rw [hlf, if_pos y]
            rw [if_pos y, ← ey]
            simp only [nI_ltB (show lfN τ S k n i < 2 ^ 31 by omega) (show lfN τ S k n q < 2 ^ 31 by omega)]
            by_cases v : lfN τ S k n i < lfN τ S k n q
            · simp only [eq_true v, if_true]
            · simp only [eq_false v, if_false]
          · have ey : lfN τ S k n i = fcN τ S k n - foN τ S k n i := by rw [hlf, if_neg y]
            rw [if_neg y, ← ey]
            simp only [nI_ltB (show lfN τ S k n i < 2 ^ 31 by omega) (show lfN τ S k n q < 2 ^ 31 by omega)]
            by_cases v : lfN τ S k n i < lfN τ S k n q
            · simp only [eq_true v, if_true]
            · simp only [eq_false v, if_false]) none trivial
      refine ⟨l', fun Q => ?_⟩
      simp only [u309_11, u309_12, u309_13, eq_self, q_nl0, q_nlI, q_nlR, not_false_eq_true, q_nz0, q_nz1, q_zv0, q_zv1, q_tl1, q_tl0, q_wif, q_swc, q_swn, List.cons_append, List.nil_append, if_true, if_false, e10, e01, Bool.false_eq_true, sh_195, a4]
      simp only [u309_16, u309_17, u309_18, u309_19, u309_21, u309_22, eq_self, q_nl0, q_nlI, q_nlR, not_false_eq_true, q_nz0, q_nz1, q_zv0, q_zv1, q_tl1, q_tl0, q_wif, q_swc, q_swn, List.cons_append, List.nil_append, if_true, if_false, e10, e01, Bool.false_eq_true]
      refine (congrFun e Q).trans ?_
      rw [u309_24]
      simp only [u309_26, u309_27, u309_30, eq_self, q_nl0, q_nlI, q_nlR, not_false_eq_true, q_nz0, q_nz1, q_zv0, q_zv1, q_tl1, q_tl0, q_wif, q_swc, q_swn, List.cons_append, List.nil_append, if_true, if_false, e10, e01, Bool.false_eq_true, sh_195, k_many (mq_t Kg), eq_false (nI_nlt (Nat.le_refl (τ 0 1)) (by omega))]
  obtain ⟨gc, c1, c2, c3⟩ := cl
  have w3 := w01 w
  by_cases wz : w = 0 ∨ w = 1
  · have cst : ∀ Q : QT, wq X (d + 10) 183 0 [some (.ref 1), some (.int w), some (.int k), none, none] [] h Q = wq X (d + 10) 183 11 [some (.ref 1), some (.int w), some (.int k), none, none] [] h Q := by
      intro Q
      rcases wz with e | e
      · simp only [u183_0, u183_1, u183_4, u183_5, u183_6, eq_self, q_nl0, q_nlI, q_nlR, not_false_eq_true, q_nz0, q_nz1, q_zv0, q_zv1, q_tl1, q_tl0, q_wif, q_swc, q_swn, List.cons_append, List.nil_append, if_true, if_false, e10, e01, Bool.false_eq_true, eq_true e]
      · by_cases e0 : w = 0
        · simp only [u183_0, u183_1, u183_4, u183_5, u183_6, eq_self, q_nl0, q_nlI, q_nlR, not_false_eq_true, q_nz0, q_nz1, q_zv0, q_zv1, q_tl1, q_tl0, q_wif, q_swc, q_swn, List.cons_append, List.nil_append, if_true, if_false, e10, e01, Bool.false_eq_true, eq_true e0]
        · simp only [u183_0, u183_1, u183_4, u183_5, u183_6, eq_self, q_nl0, q_nlI, q_nlR, not_false_eq_true, q_nz0, q_nz1, q_zv0, q_zv1, q_tl1, q_tl0, q_wif, q_swc, q_swn, List.cons_append, List.nil_append, if_true, if_false, e10, e01, Bool.false_eq_true, eq_false e0, eq_true e]
    have wi : (if w < 0 then (0 : Int32) else if 1 < w then 0 else 1) = 1 := by
      rcases w3 with ⟨_, q⟩ | ⟨_, _, q⟩ | ⟨q1, q2, _⟩
      · exact q
      · exact q
      · rcases wz with e | e
        · exact absurd e q1
        · exact absurd e q2
    have mst : ∀ (g : HT) (Q : QT), wq X (d + 10) 309 0 [some (.ref 195), some (.int w), some (.int k), none, none, none, none] [] g Q = wq X (d + 10) 309 11 [some (.ref 195), some (.int w), some (.int k), none, none, none, none] [] g Q := by
      intro g Q
      simp only [u309_0, u309_1, u309_2, u309_3, u309_6, eq_self, q_nl0, q_nlI, q_nlR, not_false_eq_true, q_nz0, q_nz1, q_zv0, q_zv1, q_tl1, q_tl0, q_wif, q_swc, q_swn, List.cons_append, List.nil_append, if_true, if_false, e10, e01, Bool.false_eq_true, k_isIn, wi]
    by_cases z : fcN τ S k n = 0
    · refine Pr_of (-1) ⟨gc, c1, fun Q => ?_⟩ (fun g a => ?_)
      · rw [cst, c2 z]
      · obtain ⟨g', m1, m2, m3⟩ := ml g a
        obtain ⟨l5, e⟩ := m2 z
        refine ⟨g', m1, fun Q => ?_⟩
        rw [mst, e]
        simp only [u309_113, u309_114, u309_117, u309_118, u309_121, u309_122, u309_125, u309_126, u309_129, u309_131, eq_self, q_nl0, q_nlI, q_nlR, not_false_eq_true, q_nz0, q_nz1, q_zv0, q_zv1, q_tl1, q_tl0, q_wif, q_swc, q_swn, List.cons_append, List.nil_append, if_true, if_false, e10, e01, Bool.false_eq_true, m1_lt0]
    · obtain ⟨l4, ec⟩ := c3 z
      have pg : m_gR gc 1 9 = 178 := p_1_9 (Same_p c1 hp)
      have hl : ∀ q, asF τ S k n (τ 0 1) = some q → q < τ 0 1 := hlt _
      cases hb : asF τ S k n (τ 0 1) with
      | none =>
        rw [hb] at ec
        refine Pr_of (-1) ⟨hP gc (bvP (fun _ => 0) (lfN τ S k n) none), Same_tr c1 Same_hP, fun Q => ?_⟩ (fun g a => ?_)
        · rw [cst, ec]
          simp only [u183_109, u183_110, u183_113, u183_116, u183_119, u183_120, eq_self, q_nl0, q_nlI, q_nlR, not_false_eq_true, q_nz0, q_nz1, q_zv0, q_zv1, q_tl1, q_tl0, q_wif, q_swc, q_swn, List.cons_append, List.nil_append, if_true, if_false, e10, e01, Bool.false_eq_true, sh_1, sh_178, gR_hP, pg, gI_hP0, bvP]
        · obtain ⟨g', m1, m2, m3⟩ := ml g a
          obtain ⟨l5, e⟩ := m3 z
          refine ⟨g', m1, fun Q => ?_⟩
          rw [mst, e, hb]
          simp only [u309_113, u309_114, u309_117, u309_118, u309_121, u309_122, u309_125, u309_126, u309_129, u309_131, eq_self, q_nl0, q_nlI, q_nlR, not_false_eq_true, q_nz0, q_nz1, q_zv0, q_zv1, q_tl1, q_tl0, q_wif, q_swc, q_swn, List.cons_append, List.nil_append, if_true, if_false, e10, e01, Bool.false_eq_true, oI, m1_lt0]
      | some q =>
        have hq := hl q hb
        rw [hb] at ec
        refine Pr_of (if w = 0 then nI q else nI (lfN τ S k n q)) ⟨hP gc (bvP (fun _ => 0) (lfN τ S k n) (some q)), Same_tr c1 Same_hP, fun Q => ?_⟩ (fun g a => ?_)
        · rw [cst, ec]
          simp only [u183_109, u183_110, u183_113, u183_116, u183_119, u183_120, u183_121, u183_122, u183_125, u183_126, u183_129, u183_132, u183_135, u183_136, u183_139, u183_142, eq_self, q_nl0, q_nlI, q_nlR, not_false_eq_true, q_nz0, q_nz1, q_zv0, q_zv1, q_tl1, q_tl0, q_wif, q_swc, q_swn, List.cons_append, List.nil_append, if_true, if_false, e10, e01, Bool.false_eq_true, sh_1, sh_178, gR_hP, pg, gI_hP0, gI_hP2, gI_hP3, bvP]
          split <;> rfl
        · obtain ⟨g', m1, m2, m3⟩ := ml g a
          obtain ⟨l5, e⟩ := m3 z
          refine ⟨g', m1, fun Q => ?_⟩
          rw [mst, e, hb]
          simp only [u309_113, u309_114, u309_117, u309_118, u309_121, u309_122, u309_125, u309_126, u309_129, u309_131, eq_self, q_nl0, q_nlI, q_nlR, not_false_eq_true, q_nz0, q_nz1, q_zv0, q_zv1, q_tl1, q_tl0, q_wif, q_swc, q_swn, List.cons_append, List.nil_append, if_true, if_false, e10, e01, Bool.false_eq_true, oI, oI_lt0 (show q < 2 ^ 31 by omega), asL]
          split <;> rfl
  · have wi : (if w < 0 then (0 : Int32) else if 1 < w then 0 else 1) = 0 := by
      rcases w3 with ⟨q, _⟩ | ⟨_, q, _⟩ | ⟨_, _, q⟩
      · exact absurd (Or.inl q) wz
      · exact absurd (Or.inr q) wz
      · exact q
    refine Pr_pure (-1) (fun Q => ?_) (fun Q => ?_)
    · simp only [u183_0, u183_1, u183_4, u183_5, u183_6, u183_9, u183_10, eq_self, q_nl0, q_nlI, q_nlR, not_false_eq_true, q_nz0, q_nz1, q_zv0, q_zv1, q_tl1, q_tl0, q_wif, q_swc, q_swn, List.cons_append, List.nil_append, if_true, if_false, e10, e01, Bool.false_eq_true, eq_false (fun e => wz (Or.inl e)), eq_false (fun e => wz (Or.inr e))]
    · simp only [u309_0, u309_1, u309_2, u309_3, u309_6, u309_9, u309_10, eq_self, q_nl0, q_nlI, q_nlR, not_false_eq_true, q_nz0, q_nz1, q_zv0, q_zv1, q_tl1, q_tl0, q_wif, q_swc, q_swn, List.cons_append, List.nil_append, if_true, if_false, e10, e01, Bool.false_eq_true, k_isIn, wi]
