/-! A FORMULA'S RUN -/
def fJoin (k : Nat) (x y : Int32) : Int32 :=
  if k = 124 then (if x = 0 then if y = 0 then 0 else 1 else 1)
  else if k = 38 then (if x = 0 then 0 else if y = 0 then 0 else 1)
  else if k = 60 then (if x < y then 1 else 0)
  else if k = 62 then (if y < x then 1 else 0)
  else if k = 61 then (if x = y then 1 else 0)
  else if k = 43 then x + y
  else if k = 45 then x - y
  else if k = 42 then x * y
  else if k = 47 then (if y = 0 then 0 else x / y)
  else (if y = 0 then 0 else x - x / y * y)
def fBins : List Nat := [124, 38, 60, 62, 61, 43, 45, 42, 47, 37]
def fOps : List Nat := [110, 108, 100, 111, 103, 121, 115]
theorem c_joined {X : XT} {d k n : Nat} {h : HT} {Q : QT} {x y : Int32} (hk : k ∈ fBins) : wq X d 90 0 [some (.int (clsC k n)), some (.int x), some (.int y)] [] h Q = Q (some (.int (fJoin k x y))) h := by
  simp only [u90_0, u90_1, q_swc, q_swn]
  have hk' : k = 124 ∨ k = 38 ∨ k = 60 ∨ k = 62 ∨ k = 61 ∨ k = 43 ∨ k = 45 ∨ k = 42 ∨ k = 47 ∨ k = 37 := by
    simpa [fBins] using hk
  rcases hk' with z | z | z | z | z | z | z | z | z | z <;> subst z
  · rw [show (clsC 124 n).toInt = -8 from rfl]
    simp only [u90_92, u90_93, u90_96, u90_97, u90_100, u90_101, u90_104, u90_105, eq_self, q_nl0, q_nlI, q_nlR, not_false_eq_true, q_nz0, q_nz1, q_zv0, q_zv1, q_tl1, q_tl0, q_wif, q_swc, q_swn, List.cons_append, List.nil_append, reduceCtorEq, Int.reduceNeg, Int.reduceEq, if_false, if_true]
    rw [show fJoin 124 x y = if x = 0 then if y = 0 then 0 else 1 else 1 from rfl]
    split
    · split <;> rfl
    · rfl
  · rw [show (clsC 38 n).toInt = -9 from rfl]
    simp only [u90_106, u90_107, u90_110, u90_111, u90_114, u90_115, u90_118, u90_119, eq_self, q_nl0, q_nlI, q_nlR, not_false_eq_true, q_nz0, q_nz1, q_zv0, q_zv1, q_tl1, q_tl0, q_wif, q_swc, q_swn, List.cons_append, List.nil_append, Int.reduceNeg, Int.reduceEq, if_false, if_true]
    rw [show fJoin 38 x y = if x = 0 then 0 else if y = 0 then 0 else 1 from rfl]
    split
    · rfl
    · split <;> rfl
  · rw [show (clsC 60 n).toInt = -60 from rfl]
    simp only [u90_120, u90_121, u90_122, u90_125, u90_126, u90_129, u90_130, eq_self, q_nl0, q_nlI, q_nlR, not_false_eq_true, q_nz0, q_nz1, q_zv0, q_zv1, q_tl1, q_tl0, q_wif, q_swc, q_swn, List.cons_append, List.nil_append, Int.reduceNeg, Int.reduceEq, if_false, if_true]
    rw [show fJoin 60 x y = if x < y then 1 else 0 from rfl]
    split <;> rfl
  · rw [show (clsC 62 n).toInt = -62 from rfl]
    simp only [u90_131, u90_132, u90_133, u90_136, u90_137, u90_140, u90_141, eq_self, q_nl0, q_nlI, q_nlR, not_false_eq_true, q_nz0, q_nz1, q_zv0, q_zv1, q_tl1, q_tl0, q_wif, q_swc, q_swn, List.cons_append, List.nil_append, Int.reduceNeg, Int.reduceEq, if_false, if_true]
    rw [show fJoin 62 x y = if y < x then 1 else 0 from rfl]
    split <;> rfl
  · rw [show (clsC 61 n).toInt = -61 from rfl]
    simp only [u90_142, u90_143, u90_144, u90_147, u90_148, u90_151, u90_152, eq_self, q_nl0, q_nlI, q_nlR, not_false_eq_true, q_nz0, q_nz1, q_zv0, q_zv1, q_tl1, q_tl0, q_wif, q_swc, q_swn, List.cons_append, List.nil_append, Int.reduceNeg, Int.reduceEq, if_false, if_true]
    rw [show fJoin 61 x y = if x = y then 1 else 0 from rfl]
    split <;> rfl
  · rw [show (clsC 43 n).toInt = -43 from rfl]
    simp only [u90_153, u90_154, u90_155, u90_156, eq_self, q_nl0, q_nlI, q_nlR, not_false_eq_true, q_nz0, q_nz1, q_zv0, q_zv1, q_tl1, q_tl0, q_wif, q_swc, q_swn, List.cons_append, List.nil_append, Int.reduceNeg, Int.reduceEq, if_false, if_true]
    rfl
  · rw [show (clsC 45 n).toInt = -45 from rfl]
    simp only [u90_157, u90_158, u90_159, u90_160, eq_self, q_nl0, q_nlI, q_nlR, not_false_eq_true, q_nz0, q_nz1, q_zv0, q_zv1, q_tl1, q_tl0, q_wif, q_swc, q_swn, List.cons_append, List.nil_append, Int.reduceNeg, Int.reduceEq, if_false, if_true]
    rfl
  · rw [show (clsC 42 n).toInt = -42 from rfl]
    simp only [u90_161, u90_162, u90_163, u90_164, eq_self, q_nl0, q_nlI, q_nlR, not_false_eq_true, q_nz0, q_nz1, q_zv0, q_zv1, q_tl1, q_tl0, q_wif, q_swc, q_swn, List.cons_append, List.nil_append, Int.reduceNeg, Int.reduceEq, if_false, if_true]
    rfl
  · rw [show (clsC 47 n).toInt = -47 from rfl]
    rw [show fJoin 47 x y = if y = 0 then 0 else x / y from rfl]
    by_cases hy : y = 0
    · simp only [u90_165, u90_166, u90_169, u90_170, u90_176, eq_self, q_nl0, q_nlI, q_nlR, not_false_eq_true, q_nz0, q_nz1, q_zv0, q_zv1, q_tl1, q_tl0, q_wif, q_swc, q_swn, List.cons_append, List.nil_append, Int.reduceNeg, Int.reduceEq, if_false, if_true, hy]
    · simp only [u90_165, u90_166, u90_169, u90_170, u90_173, u90_174, u90_175, u90_176, eq_self, q_nl0, q_nlI, q_nlR, not_false_eq_true, q_nz0, q_nz1, q_zv0, q_zv1, q_tl1, q_tl0, q_wif, q_swc, q_swn, List.cons_append, List.nil_append, Int.reduceNeg, Int.reduceEq, if_false, if_true, hy]
  · rw [show (clsC 37 n).toInt = -37 from rfl]
    rw [show fJoin 37 x y = if y = 0 then 0 else x - x / y * y from rfl]
    by_cases hy : y = 0
    · simp only [u90_177, u90_178, u90_181, u90_182, u90_188, eq_self, q_nl0, q_nlI, q_nlR, not_false_eq_true, q_nz0, q_nz1, q_zv0, q_zv1, q_tl1, q_tl0, q_wif, q_swc, q_swn, List.cons_append, List.nil_append, Int.reduceNeg, Int.reduceEq, if_false, if_true, hy]
    · simp only [u90_177, u90_178, u90_181, u90_182, u90_185, u90_186, u90_187, u90_188, eq_self, q_nl0, q_nlI, q_nlR, not_false_eq_true, q_nz0, q_nz1, q_zv0, q_zv1, q_tl1, q_tl0, q_wif, q_swc, q_swn, List.cons_append, List.nil_append, Int.reduceNeg, Int.reduceEq, if_false, if_true, hy]
/-- the heap with the formula's pile at height n and its cells c -/
def hG (h : HT) (T n : Nat) (c : Nat → Int32) : HT := (fun b k => if b = T + 12 then c k else if b = T + 10 ∧ k = 4 then nI n else h.1 b k, h.2)
theorem gI_hG12 {h : HT} {T n k : Nat} {c : Nat → Int32} : m_gI (hG h T n c) (T + 12) k = c k := if_pos rfl
theorem gI_hG4 {h : HT} {T n : Nat} {c : Nat → Int32} : m_gI (hG h T n c) (T + 10) 4 = nI n := by
  show (if T + 10 = T + 12 then _ else if T + 10 = T + 10 ∧ 4 = 4 then _ else _) = _
  rw [if_neg (by omega), if_pos ⟨rfl, rfl⟩]
theorem gI_hGo {h : HT} {T n b k : Nat} {c : Nat → Int32} (z : b ≠ T + 12) (z2 : b ≠ T + 10 ∨ k ≠ 4) : m_gI (hG h T n c) b k = m_gI h b k := by
  show (if b = T + 12 then _ else if b = T + 10 ∧ k = 4 then _ else _) = _
  rw [if_neg z, if_neg (by omega)]
  rfl
theorem gR_hG {h : HT} {T n b k : Nat} {c : Nat → Int32} : m_gR (hG h T n c) b k = m_gR h b k := rfl
theorem sI_hG12 {h : HT} {T n k : Nat} {c : Nat → Int32} {v : Int32} : m_sI (hG h T n c) (T + 12) k v = hG h T n (up c k v) := by
  apply hx
  · intro b j
    show (if b = T + 12 ∧ j = k then v else if b = T + 12 then c j else _) = if b = T + 12 then (if j = k then v else c j) else _
    by_cases z : b = T + 12
    · by_cases y : j = k
      · rw [if_pos ⟨z, y⟩, if_pos z, if_pos y]
      · rw [if_neg (fun w => y w.2), if_pos z, if_pos z, if_neg y]
    · rw [if_neg (fun w => z w.1), if_neg z, if_neg z]
  · rfl
theorem sI_hG4 {h : HT} {T n m : Nat} {c : Nat → Int32} : m_sI (hG h T n c) (T + 10) 4 (nI m) = hG h T m c := by
  apply hx
  · intro b j
    show (if b = T + 10 ∧ j = 4 then nI m else if b = T + 12 then c j else if b = T + 10 ∧ j = 4 then nI n else h.1 b j) = if b = T + 12 then c j else if b = T + 10 ∧ j = 4 then nI m else h.1 b j
    by_cases z : b = T + 10 ∧ j = 4
    · rw [if_pos z, if_neg (by omega), if_pos z]
    · rw [if_neg z, if_neg z, if_neg z]
  · rfl
theorem hG_hG {h : HT} {T n m : Nat} {c e : Nat → Int32} : hG (hG h T n c) T m e = hG h T m e := by
  apply hx
  · intro b j
    show (if b = T + 12 then e j else if b = T + 10 ∧ j = 4 then nI m else if b = T + 12 then c j else if b = T + 10 ∧ j = 4 then nI n else h.1 b j) = if b = T + 12 then e j else if b = T + 10 ∧ j = 4 then nI m else h.1 b j
    by_cases y : b = T + 12
    · rw [if_pos y, if_pos y]
    · by_cases z : b = T + 10 ∧ j = 4
      · simp only [if_neg y, if_pos z]
      · simp only [if_neg y, if_neg z]
  · rfl
theorem c_push {X : XT} {d T n : Nat} {h : HT} {Q : QT} {c : Nat → Int32} {v : Int32} (hT : isT T) (hp : Ptr h) (hn : n < 30) : wq X d 88 0 [some (.ref (T + 10)), some (.int v)] [] (hG h T n c) Q = Q none (hG h T (n + 1) (up c n v)) := by
  have e1 : (nI n < 0) = False := eq_false (nI_pos (by omega))
  have e2 : (nI n < Int32.ofNat 30) = True := eq_true (nI_lt (b := 30) (by omega) (by omega))
  have e3 : m_in (nI n) 30 = true := q_in (by omega) (by decide)
  have e4 : (Nat.ble 20 20 && Nat.blt 20 99) = true := by decide
  simp only [u88_0, u88_1, u88_4, u88_7, u88_8, u88_11, u88_12, u88_15, u88_16, u88_19, u88_20, u88_23, u88_24, u88_27, u88_28, u88_29, u88_30, u88_31, u88_34, u88_35, u88_36, u88_39, eq_self, q_nl0, q_nlI, q_nlR, not_false_eq_true, q_nz0, q_nz1, q_zv0, q_zv1, q_tl1, q_tl0, q_wif, q_swc, q_swn, List.cons_append, List.nil_append, shT_10 hT, shT_12 hT, gR_hG, pF_3 hT hp, gI_hG4, e1, e2, e3, e4, if_true, if_false, q_cl (show n < 2 ^ 31 by omega), sI_hG12, nI_1, sI_hG4]
theorem c_pop {X : XT} {d T n : Nat} {h : HT} {Q : QT} {c : Nat → Int32} (hT : isT T) (hp : Ptr h) (hn : n < 30) : wq X d 89 0 [some (.ref (T + 10))] [] (hG h T (n + 1) c) Q = Q (some (.int (c n))) (hG h T n c) := by
  have e1 : (0 < nI (n + 1)) = True := eq_true (nI_lt (a := 0) (by omega) (by omega))
  have e2 : (Int32.ofNat 30 < nI (n + 1)) = False := eq_false (nI_nlt (b := n + 1) (a := 30) (by omega) (by omega))
  have e3 : m_in (nI n) 30 = true := q_in (by omega) (by decide)
  have e4 : (Nat.ble 20 20 && Nat.blt 20 99) = true := by decide
  have e5 : nI (n + 1) - 1 = nI n := by
    rw [← nI_1]
    exact Int32.add_sub_cancel _ _
  simp only [u89_0, u89_1, u89_4, u89_7, u89_8, u89_11, u89_12, u89_15, u89_16, u89_19, u89_20, u89_21, u89_22, u89_23, u89_26, u89_27, u89_28, u89_31, u89_32, u89_35, u89_36, u89_39, u89_40, eq_self, q_nl0, q_nlI, q_nlR, not_false_eq_true, q_nz0, q_nz1, q_zv0, q_zv1, q_tl1, q_tl0, q_wif, q_swc, q_swn, List.cons_append, List.nil_append, shT_10 hT, shT_12 hT, gR_hG, pF_3 hT hp, gI_hG4, e1, e2, e3, e4, e5, if_true, if_false, q_cl (show n < 2 ^ 31 by omega), sI_hG4, gI_hG12]
/-! what the formula says: heights, cells, value -/
def fH (τ : CT) : Nat → Nat
  | 0 => 0
  | i + 1 => if τ 9 i ∈ fOps then fH τ i + 1 else if τ 9 i = 126 then fH τ i else fH τ i - 1
def fOk (τ : CT) : Prop := τ 0 9 ≤ 1600 ∧ (∀ i, i < τ 0 9 → (τ 9 i ∈ fOps ∧ fH τ i < 30 ∧ τ 10 i ≤ 9999 ∨ τ 9 i = 126 ∧ 1 ≤ fH τ i ∧ fH τ i ≤ 30 ∨ τ 9 i ∈ fBins ∧ 2 ≤ fH τ i ∧ fH τ i ≤ 30)) ∧ (0 < τ 0 9 → fH τ (τ 0 9) = 1)
/-- units: 108 loaves, 100 debt, 111 others, 103 out, 121 days, 115 short -/
abbrev UT : Type := Int32 × Int32 × Int32 × Int32 × Int32 × Int32
def fUnit (u : UT) (k n : Nat) : Int32 := if k = 110 then nI n else if k = 108 then u.1 else if k = 100 then u.2.1 else if k = 111 then u.2.2.1 else if k = 103 then u.2.2.2.1 else if k = 121 then u.2.2.2.2.1 else u.2.2.2.2.2
def fC (τ : CT) (u : UT) (c : Nat → Int32) : Nat → Nat → Int32
  | 0 => c
  | i + 1 => if τ 9 i ∈ fOps then up (fC τ u c i) (fH τ i) (fUnit u (τ 9 i) (τ 10 i)) else if τ 9 i = 126 then up (fC τ u c i) (fH τ i - 1) (if fC τ u c i (fH τ i - 1) = 0 then 1 else 0) else up (fC τ u c i) (fH τ i - 2) (fJoin (τ 9 i) (fC τ u c i (fH τ i - 2)) (fC τ u c i (fH τ i - 1)))
def fVal (τ : CT) (u : UT) : Int32 := fC τ u (fun _ => 0) (τ 0 9) 0
theorem fBins_no {k : Nat} (h : k ∈ fBins) : k ∉ fOps ∧ k ≠ 126 := by
  have : ∀ k ∈ fBins, k ∉ fOps ∧ k ≠ 126 := by decide
  exact this k h
theorem fC_eq {τ : CT} {u : UT} {c e : Nat → Int32} (F : fOk τ) : ∀ i, i ≤ τ 0 9 → ∀ j, j < fH τ i → fC τ u c i j = fC τ u e i j
  | 0, _, j, hj => absurd hj (Nat.not_lt_zero _)
  | i + 1, hi, j, hj => by
    have ih := fC_eq F (u := u) (c := c) (e := e) i (by omega)
    have hk := F.2.1 i (by omega)
    unfold fC
    unfold fH at hj
    rcases hk with ⟨z, _, _⟩ | ⟨z, _, _⟩ | ⟨z, _, _⟩
    · rw [if_pos z] at hj
      rw [if_pos z, if_pos z]
      unfold up
      split
      · rfl
      · exact ih j (by omega)
    · have nz : τ 9 i ∉ fOps := by rw [z]; decide
      rw [if_neg nz, if_pos z] at hj
      rw [if_neg nz, if_neg nz, if_pos z, if_pos z]
      unfold up
      rw [ih (fH τ i - 1) (by omega)]
      split
      · rfl
      · exact ih j (by omega)
    · have nz := fBins_no z
      rw [if_neg nz.1, if_neg nz.2] at hj
      rw [if_neg nz.1, if_neg nz.1, if_neg nz.2, if_neg nz.2]
      unfold up
      rw [ih (fH τ i - 1) (by omega), ih (fH τ i - 2) (by omega)]
      split
      · rfl
      · exact ih j (by omega)
