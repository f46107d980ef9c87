/-! fits, sure, ask -/
def hFt (h : HT) (a q b : Nat) (c : Int32) (f : Nat → Int32) : HT := (fun e k => if e = a ∧ k = q then c else if e = b then f k else h.1 e k, h.2)
theorem gI_hFtA {h : HT} {a q b : Nat} {c : Int32} {f : Nat → Int32} : m_gI (hFt h a q b c f) a q = c := if_pos ⟨rfl, rfl⟩
theorem gI_hFtB {h : HT} {a q b k : Nat} {c : Int32} {f : Nat → Int32} (n : b ≠ a) : m_gI (hFt h a q b c f) b k = f k := by
  show (if b = a ∧ k = q then c else if b = b then f k else h.1 b k) = f k
  rw [if_neg (fun z => n z.1), if_pos rfl]
theorem gI_hFto {h : HT} {a q b e k : Nat} {c : Int32} {f : Nat → Int32} (n1 : ¬ (e = a ∧ k = q)) (n2 : e ≠ b) : m_gI (hFt h a q b c f) e k = m_gI h e k := by
  show (if e = a ∧ k = q then c else if e = b then f k else h.1 e k) = h.1 e k
  rw [if_neg n1, if_neg n2]
theorem gR_hFt {h : HT} {a q b e k : Nat} {c : Int32} {f : Nat → Int32} : m_gR (hFt h a q b c f) e k = m_gR h e k := rfl
theorem sI_hFtA {h : HT} {a q b : Nat} {c v : Int32} {f : Nat → Int32} : m_sI (hFt h a q b c f) a q v = hFt h a q b v f := by
  apply hx
  · intro e k
    show (if e = a ∧ k = q then v else if e = a ∧ k = q then c else if e = b then f k else h.1 e k) = if e = a ∧ k = q then v else if e = b then f k else h.1 e k
    by_cases z : e = a ∧ k = q
    · rw [if_pos z, if_pos z]
    · rw [if_neg z, if_neg z, if_neg z]
  · rfl
theorem sI_hFtB {h : HT} {a q b j : Nat} {c v : Int32} {f : Nat → Int32} (n : b ≠ a) : m_sI (hFt h a q b c f) b j v = hFt h a q b c (up f j v) := by
  apply hx
  · intro e k
    show (if e = b ∧ k = j then v else if e = a ∧ k = q then c else if e = b then f k else h.1 e k) = if e = a ∧ k = q then c else if e = b then (if k = j then v else f k) else h.1 e k
    by_cases z : e = b
    · by_cases y : k = j
      · rw [if_pos ⟨z, y⟩, if_neg (fun w => n (z.symm.trans w.1)), if_pos z, if_pos y]
      · rw [if_neg (fun w => y w.2), if_neg (fun w => n (z.symm.trans w.1)), if_pos z, if_neg (fun w => n (z.symm.trans w.1)), if_pos z, if_neg y]
    · rw [if_neg (fun w => z w.1), if_neg z, if_neg z]
  · rfl
theorem hFt_0 {h : HT} {a q b : Nat} {c : Int32} : m_sI h a q c = hFt h a q b c (m_gI h b) ∨ b = a := by
  by_cases n : b = a
  · exact Or.inr n
  · left
    apply hx
    · intro e k
      show (if e = a ∧ k = q then c else h.1 e k) = if e = a ∧ k = q then c else if e = b then h.1 b k else h.1 e k
      by_cases z : e = a ∧ k = q
      · rw [if_pos z, if_pos z]
      · rw [if_neg z, if_neg z]
        by_cases y : e = b
        · rw [if_pos y, y]
        · rw [if_neg y]
    · rfl
theorem Same_ft1 {h : HT} {c : Int32} {f : Nat → Int32} : Same h (hFt h 179 7 185 c f) := by
  refine ⟨rfl, fun e k z => gI_hFto ?_ ?_⟩
  · rintro ⟨rfl, rfl⟩
    cases z
  · rintro rfl
    cases z
def zrL (f : Nat → Int32) (i : Nat) : Nat → Int32 := fun k => if k < i then 0 else f k
theorem zrL_0 {f : Nat → Int32} : zrL f 0 = f := funext fun k => if_neg (Nat.not_lt_zero k)
theorem zrL_s {f : Nat → Int32} {i : Nat} : zrL f (i + 1) = up (zrL f i) i 0 := by
  funext k
  show (if k < i + 1 then 0 else f k) = if k = i then 0 else if k < i then 0 else f k
  by_cases z : k = i
  · rw [if_pos z, if_pos (by omega)]
  · rw [if_neg z]
    by_cases y : k < i
    · rw [if_pos y, if_pos (by omega)]
    · rw [if_neg y, if_neg (by omega)]
def btI (s k : Nat) : Int32 := if s.testBit k = true then 1 else 0
def adF (f : Nat → Int32) (s i : Nat) : Nat → Int32 := fun k => if k < i then f k + btI s k else f k
theorem adF_0 {f : Nat → Int32} {s : Nat} : adF f s 0 = f := funext fun k => if_neg (Nat.not_lt_zero k)
theorem adF_s {f : Nat → Int32} {s i : Nat} : adF f s (i + 1) = up (adF f s i) i (f i + btI s i) := by
  funext k
  show (if k < i + 1 then f k + btI s k else f k) = if k = i then f i + btI s i else if k < i then f k + btI s k else f k
  by_cases z : k = i
  · rw [if_pos z, if_pos (by omega), z]
  · rw [if_neg z]
    by_cases y : k < i
    · rw [if_pos y, if_pos (by omega)]
    · rw [if_neg y, if_neg (by omega)]
theorem adF_i {f : Nat → Int32} {s i : Nat} : adF f s i i = f i := if_neg (Nat.lt_irrefl i)
theorem adF_7 {f : Nat → Int32} {s k : Nat} (hk : k ≤ 7) (hs : s < 2 ^ k) : adF f s 7 = adF f s k := by
  funext j
  show (if j < 7 then f j + btI s j else f j) = if j < k then f j + btI s j else f j
  by_cases z : j < k
  · rw [if_pos z, if_pos (by omega)]
  · rw [if_neg z]
    by_cases y : j < 7
    · have e : btI s j = 0 := by
        unfold btI
        rw [bit_ge hs (by omega), if_neg Bool.false_ne_true]
      rw [if_pos y, e, Int32.add_zero]
    · rw [if_neg y]
def ftS (τ : CT) (S : Nat → Nat → Int32) (k : Int32) (n : Nat) (s : Nat) (p : Nat × (Nat → Int32)) : Nat × (Nat → Int32) := if fitB τ S k n s = true then (p.1 + 1, adF p.2 s (τ 0 1)) else p
def fcS (τ : CT) (S : Nat → Nat → Int32) (k : Int32) (n : Nat) (s c : Nat) : Nat := if fitB τ S k n s = true then c + 1 else c
def foS (τ : CT) (S : Nat → Nat → Int32) (k : Int32) (n m : Nat) (s c : Nat) : Nat := if fitB τ S k n s = true ∧ s.testBit m = true then c + 1 else c
/-- how many fit, and in how many of them m is out -/
def fcN (τ : CT) (S : Nat → Nat → Int32) (k : Int32) (n : Nat) : Nat := fL (fcS τ S k n) 0 (2 ^ τ 0 1)
def foN (τ : CT) (S : Nat → Nat → Int32) (k : Int32) (n m : Nat) : Nat := fL (foS τ S k n m) 0 (2 ^ τ 0 1)
theorem ft_c {τ : CT} {S : Nat → Nat → Int32} {k : Int32} {n : Nat} {z : Nat → Int32} : ∀ s, (fL (ftS τ S k n) (0, z) s).1 = fL (fcS τ S k n) 0 s
  | 0 => rfl
  | s + 1 => by
    rw [fL_s, fL_s, ← ft_c s]
    unfold ftS fcS
    split <;> rfl
theorem ft_o {τ : CT} {S : Nat → Nat → Int32} {k : Int32} {n m : Nat} {z : Nat → Int32} (hz : z m = 0) (hm : m < 7) : ∀ s, s ≤ 2 ^ τ 0 1 → (fL (ftS τ S k n) (0, z) s).2 m = nI (fL (foS τ S k n m) 0 s)
  | 0, _ => hz
  | s + 1, hs => by
    have ih := ft_o (τ := τ) (S := S) (k := k) (n := n) hz hm s (by omega)
    rw [fL_s, fL_s]
    generalize fL (ftS τ S k n) (0, z) s = p at ih ⊢
    generalize fL (foS τ S k n m) 0 s = c at ih ⊢
    unfold ftS foS
    by_cases f : fitB τ S k n s = true
    · rw [if_pos f]
      show (if m < τ 0 1 then p.2 m + btI s m else p.2 m) = _
      by_cases b : s.testBit m = true
      · have hmm : m < τ 0 1 := bit_lt (show s < 2 ^ τ 0 1 by omega) b
        have e : btI s m = 1 := if_pos b
        rw [if_pos hmm, if_pos ⟨f, b⟩, e, ih, nI_1]
      · have e : btI s m = 0 := if_neg b
        rw [e, Int32.add_zero, ite_self, ih, if_neg (fun w => b w.2)]
    · rw [if_neg f, if_neg (fun w => f w.1)]
      exact ih
theorem fo_le {τ : CT} {S : Nat → Nat → Int32} {k : Int32} {n m : Nat} : ∀ s, fL (foS τ S k n m) 0 s ≤ fL (fcS τ S k n) 0 s
  | 0 => Nat.le_refl _
  | s + 1 => by
    have ih := fo_le (τ := τ) (S := S) (k := k) (n := n) (m := m) s
    rw [fL_s, fL_s]
    unfold foS fcS at ih ⊢
    by_cases f : fitB τ S k n s = true
    · rw [if_pos f]
      split <;> omega
    · rw [if_neg f, if_neg (fun w => f w.1)]
      exact ih
theorem fc_le {τ : CT} {S : Nat → Nat → Int32} {k : Int32} {n : Nat} : ∀ s, fL (fcS τ S k n) 0 s ≤ s
  | 0 => Nat.le_refl _
  | s + 1 => by
    have ih := fc_le (τ := τ) (S := S) (k := k) (n := n) s
    rw [fL_s]
    unfold fcS at ih ⊢
    split <;> omega
theorem c_fits {X : XT} {d T N n t : Nat} {h : HT} {τ : CT} {A : Nat → Int32} {S : Nat → Nat → Int32} {k : Int32} (H : CQ h T τ N A) (C : CSig h n t S) (hn : n ≤ 30) (O : ∀ i, i < n → sOk S i) : ∃ g, Same h g ∧ m_gI g 179 7 = nI (fcN τ S k n) ∧ (∀ m, m < 7 → m_gI g 185 m = nI (foN τ S k n m)) ∧ ∀ Q : QT, wq X (d + 3) 179 0 [some (.ref 179), some (.ref T), some (.int k), none, none] [] h Q = Q none g := by
  have hp := cq_p H
  have hT := ct_T (cq_t H)
  have h7 := o_mn (cq_k H)
  have h8 := p2_7 h7
  have n185 : (185 : Nat) ≠ 179 := by decide
  have e0 : ∀ Q : QT, wq X (d + 3) 179 7 [some (.ref 179), some (.ref T), some (.int k), some (.int (nI 0)), none] [] (hFt h 179 7 185 0 (zrL (m_gI h 185) 0)) Q = wq X (d + 3) 179 7 [some (.ref 179), some (.ref T), some (.int k), some (.int (nI 7)), none] [] (hFt h 179 7 185 0 (zrL (m_gI h 185) 7)) Q := by
    intro Q
    refine q_loop (fun i => wq X (d + 3) 179 7 [some (.ref 179), some (.ref T), some (.int k), some (.int (nI i)), none] [] (hFt h 179 7 185 0 (zrL (m_gI h 185) i)) Q) 7 (fun i hi => ?_)
    have f1 : (nI i < 7) = True := eq_true (nI_lt (b := 7) (by omega) (by omega))
    have e3 : m_in (nI i) 7 = true := q_in (by omega) (by decide)
    have e4 : (nI i).toNatClampNeg = i := q_cl (by omega)
    show wq X (d + 3) 179 7 _ _ _ _ = _
    rw [u179_7]
    simp only [u179_8, u179_10, u179_13, u179_14, u179_17, u179_18, u179_19, u179_20, u179_23, eq_self, q_nl0, q_nlI, q_nlR, not_false_eq_true, q_nz0, q_nz1, q_zv0, q_zv1, q_tl1, q_tl0, q_wif, q_swc, q_swn, List.cons_append, List.nil_append, if_true, if_false, e10, e01, Bool.false_eq_true, sh_179, sh_185, f1, gR_hFt, p_179_8 hp, e3, e4, sI_hFtB n185, nI_1, zrL_s]
  refine ⟨hFt h 179 7 185 (nI (fL (ftS τ S k n) (0, zrL (m_gI h 185) 7) (2 ^ τ 0 1)).1) (fL (ftS τ S k n) (0, zrL (m_gI h 185) 7) (2 ^ τ 0 1)).2, Same_ft1, ?_, fun m hm => ?_, fun Q => ?_⟩
  · rw [gI_hFtA, ft_c]
    rfl
  · rw [gI_hFtB n185, ft_o (if_pos hm) hm _ (Nat.le_refl _)]
    rfl
  · have es : m_sI h 179 7 0 = hFt h 179 7 185 0 (zrL (m_gI h 185) 0) := by
      rw [zrL_0]
      rcases hFt_0 (h := h) (a := 179) (q := 7) (b := 185) (c := 0) with e | e
      · exact e
      · cases e
    simp only [u179_0, u179_1, u179_2, u179_5, u179_6, eq_self, q_nl0, q_nlI, q_nlR, not_false_eq_true, q_nz0, q_nz1, q_zv0, q_zv1, q_tl1, q_tl0, q_wif, q_swc, q_swn, List.cons_append, List.nil_append, if_true, if_false, e10, e01, Bool.false_eq_true, sh_179, es]
    refine (e0 Q).trans ?_
    rw [u179_7]
    simp only [u179_8, u179_10, u179_26, u179_27, eq_self, q_nl0, q_nlI, q_nlR, not_false_eq_true, q_nz0, q_nz1, q_zv0, q_zv1, q_tl1, q_tl0, q_wif, q_swc, q_swn, List.cons_append, List.nil_append, if_true, if_false, e10, e01, Bool.false_eq_true, eq_false (show ¬ nI 7 < 7 by decide)]
    obtain ⟨l', e⟩ := q_loopL (fun i (l4 : Option Value) => wq X (d + 3) 179 28 [some (.ref 179), some (.ref T), some (.int k), some (.int (nI i)), l4] [] (hFt h 179 7 185 (nI (fL (ftS τ S k n) (0, zrL (m_gI h 185) 7) i).1) (fL (ftS τ S k n) (0, zrL (m_gI h 185) 7) i).2) Q) (2 ^ τ 0 1) (by
      intro i hi l4
      have hi8 : i < 128 := by omega
      have C' : ∀ c f, CQ (hFt h 179 7 185 c f) T τ N A := fun c f => CQ_same Same_ft1 H
      have S' : ∀ c f, CSig (hFt h 179 7 185 c f) n t S := fun c f => CSig_eq (fun e k z => gI_hFto (by omega) (by omega)) C
      have f1 : (nI i < 128) = True := eq_true (nI_lt (b := 128) hi8 (by omega))
      rw [fL_s]
      generalize fL (ftS τ S k n) (0, zrL (m_gI h 185) 7) i = p
      obtain ⟨c, f⟩ := p
      have cc := fun (Q : QT) (c : Int32) (f : Nat → Int32) => c_can (X := X) (d := d) (k := k) (Q := Q) (cq_t (C' c f)) (S' c f) hn O hi8
      by_cases z : fitB τ S k n i = true
      · refine ⟨some (.int (nI 7)), ?_⟩
        have eS : ftS τ S k n i (c, f) = (c + 1, adF f i (τ 0 1)) := if_pos z
        have lp : wq X (d + 3) 179 66 [some (.ref 179), some (.ref T), some (.int k), some (.int (nI i)), some (.int (nI 0))] [] (hFt h 179 7 185 (nI (c + 1)) (adF f i 0)) Q = wq X (d + 3) 179 66 [some (.ref 179), some (.ref T), some (.int k), some (.int (nI i)), some (.int (nI 7))] [] (hFt h 179 7 185 (nI (c + 1)) (adF f i 7)) Q := by
          refine q_loop (fun j => wq X (d + 3) 179 66 [some (.ref 179), some (.ref T), some (.int k), some (.int (nI i)), some (.int (nI j))] [] (hFt h 179 7 185 (nI (c + 1)) (adF f i j)) Q) 7 (fun j hj => ?_)
          have g1 : (nI j < 7) = True := eq_true (nI_lt (b := 7) (by omega) (by omega))
          have g3 : m_in (nI j) 7 = true := q_in (by omega) (by decide)
          have g4 : (nI j).toNatClampNeg = j := q_cl (by omega)
          have hb : nI i >>> (nI j &&& 31) &&& 1 = btI i j := bit01 hi8 (by omega)
          show wq X (d + 3) 179 66 _ _ _ _ = _
          rw [u179_66]
          simp only [u179_68, u179_70, u179_73, u179_74, u179_77, u179_79, u179_80, u179_81, u179_82, u179_84, u179_85, u179_86, u179_87, u179_88, u179_89, u179_92, eq_self, q_nl0, q_nlI, q_nlR, not_false_eq_true, q_nz0, q_nz1, q_zv0, q_zv1, q_tl1, q_tl0, q_wif, q_swc, q_swn, List.cons_append, List.nil_append, if_true, if_false, e10, e01, Bool.false_eq_true, sh_179, sh_185, g1, gR_hFt, p_179_8 hp, g3, g4, gI_hFtB n185, adF_i, hb, sI_hFtB n185, nI_1, adF_s]
        rw [adF_0] at lp
        show wq X (d + 3) 179 28 _ _ _ _ = _
        rw [u179_28, eS]
        simp only [u179_29, u179_30, u179_33, u179_36, u179_37, u179_40, u179_43, u179_44, u179_45, u179_46, u179_47, eq_self, q_nl0, q_nlI, q_nlR, not_false_eq_true, q_nz0, q_nz1, q_zv0, q_zv1, q_tl1, q_tl0, q_wif, q_swc, q_swn, List.cons_append, List.nil_append, if_true, if_false, e10, e01, Bool.false_eq_true, sh_179, shT_0 hT, c_every (cq_t (C' _ _)), le_all h7 hi, f1, cc]
        simp only [u179_50, u179_53, u179_54, u179_55, u179_58, u179_59, u179_60, u179_63, u179_64, eq_self, q_nl0, q_nlI, q_nlR, not_false_eq_true, q_nz0, q_nz1, q_zv0, q_zv1, q_tl1, q_tl0, q_wif, q_swc, q_swn, List.cons_append, List.nil_append, if_true, if_false, e10, e01, Bool.false_eq_true, sh_179, z, gI_hFtA, nI_1, sI_hFtA]
        refine Eq.trans lp ?_
        rw [u179_66]
        simp only [u179_68, u179_70, u179_95, u179_98, eq_self, q_nl0, q_nlI, q_nlR, not_false_eq_true, q_nz0, q_nz1, q_zv0, q_zv1, q_tl1, q_tl0, q_wif, q_swc, q_swn, List.cons_append, List.nil_append, if_true, if_false, e10, e01, Bool.false_eq_true, eq_false (show ¬ nI 7 < 7 by decide), nI_1, adF_7 h7 hi]
      · refine ⟨l4, ?_⟩
        have eS : ftS τ S k n i (c, f) = (c, f) := if_neg z
        show wq X (d + 3) 179 28 _ _ _ _ = _
        rw [u179_28, eS]
        simp only [u179_29, u179_30, u179_33, u179_36, u179_37, u179_40, u179_43, u179_44, u179_45, u179_46, u179_47, eq_self, q_nl0, q_nlI, q_nlR, not_false_eq_true, q_nz0, q_nz1, q_zv0, q_zv1, q_tl1, q_tl0, q_wif, q_swc, q_swn, List.cons_append, List.nil_append, if_true, if_false, e10, e01, Bool.false_eq_true, sh_179, shT_0 hT, c_every (cq_t (C' _ _)), le_all h7 hi, f1, cc]
        simp only [u179_50, u179_95, u179_98, eq_self, q_nl0, q_nlI, q_nlR, not_false_eq_true, q_nz0, q_nz1, q_zv0, q_zv1, q_tl1, q_tl0, q_wif, q_swc, q_swn, List.cons_append, List.nil_append, if_true, if_false, e10, e01, Bool.false_eq_true, z, nI_1]) none
    refine Eq.trans e ?_
    have C' : ∀ c f, CQ (hFt h 179 7 185 c f) T τ N A := fun c f => CQ_same Same_ft1 H
    show wq X (d + 3) 179 28 _ _ _ _ = _
    rw [u179_28]
    simp only [u179_29, u179_30, u179_33, u179_101, eq_self, q_nl0, q_nlI, q_nlR, not_false_eq_true, q_nz0, q_nz1, q_zv0, q_zv1, q_tl1, q_tl0, q_wif, q_swc, q_swn, List.cons_append, List.nil_append, if_true, if_false, e10, e01, Bool.false_eq_true, shT_0 hT, c_every (cq_t (C' _ _)), gt_all h7]
/-! ask -/
def lfN (τ : CT) (S : Nat → Nat → Int32) (k : Int32) (n m : Nat) : Nat := if fcN τ S k n - foN τ S k n m < foN τ S k n m then foN τ S k n m else fcN τ S k n - foN τ S k n m
def asF (τ : CT) (S : Nat → Nat → Int32) (k : Int32) (n : Nat) : Nat → Option Nat := fL (bvS (fun _ => true) (fun _ => 0) (lfN τ S k n)) none
def asL (τ : CT) (S : Nat → Nat → Int32) (k : Int32) (n : Nat) : Option Nat → Int32
  | none => 0
  | some q => nI (lfN τ S k n q)
