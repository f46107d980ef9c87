/-! THE TAPE'S TOKENS, as the class reads them -/
/-- how many from s on keep P -/
def rl (P : Nat → Bool) : Nat → Nat → Nat
  | 0, _ => 0
  | n + 1, s => if P s = true then rl P n (s + 1) + 1 else 0
theorem rl_lt {P : Nat → Bool} : ∀ n s j, j < rl P n s → P (s + j) = true
  | 0, _, _, h => absurd h (Nat.not_lt_zero _)
  | n + 1, s, j, h => by
    unfold rl at h
    by_cases z : P s = true
    · rw [if_pos z] at h
      cases j with
      | zero => exact z
      | succ j =>
        have := rl_lt (P := P) n (s + 1) j (by omega)
        rw [show s + (j + 1) = s + 1 + j by omega]
        exact this
    · rw [if_neg z] at h
      exact absurd h (Nat.not_lt_zero _)
theorem rl_stop {P : Nat → Bool} {L : Nat} (H : ∀ k, P k = true → k < L) : ∀ n s, L ≤ n + s → P (s + rl P n s) = false
  | 0, s, h => by
    show P (s + 0) = false
    cases z : P (s + 0) with
    | false => rfl
    | true =>
      have := H _ z
      omega
  | n + 1, s, h => by
    unfold rl
    by_cases z : P s = true
    · rw [if_pos z, show s + (rl P n (s + 1) + 1) = s + 1 + rl P n (s + 1) by omega]
      exact rl_stop H n (s + 1) (by omega)
    · rw [if_neg z]
      simpa using z
theorem rl_le {P : Nat → Bool} {L : Nat} (H : ∀ k, P k = true → k < L) (n s : Nat) (h : s ≤ L) : s + rl P n s ≤ L := by
  by_cases z : rl P n s = 0
  · omega
  · have := H _ (rl_lt n s (rl P n s - 1) (by omega))
    omega
def isBl (V : Nat → Nat) (L k : Nat) : Bool := decide (k < L ∧ (V k = 32 ∨ V k = 10))
def isLt (V : Nat → Nat) (L k : Nat) : Bool := decide (k < L ∧ 97 ≤ V k ∧ V k ≤ 122)
def isDg (V : Nat → Nat) (L k : Nat) : Bool := decide (k < L ∧ 48 ≤ V k ∧ V k ≤ 57)
def isSg (v : Nat) : Bool := decide (nI v ∈ m_tx 0)
theorem isBl_L {V : Nat → Nat} {L : Nat} : ∀ k, isBl V L k = true → k < L := fun _ h => (of_decide_eq_true h).1
theorem isLt_L {V : Nat → Nat} {L : Nat} : ∀ k, isLt V L k = true → k < L := fun _ h => (of_decide_eq_true h).1
theorem isDg_L {V : Nat → Nat} {L : Nat} : ∀ k, isDg V L k = true → k < L := fun _ h => (of_decide_eq_true h).1
def tS (V : Nat → Nat) (L p : Nat) : Nat := p + rl (isBl V L) L p
def nLt (V : Nat → Nat) (L s : Nat) : Nat := rl (isLt V L) L s
def nDg (V : Nat → Nat) (L s : Nat) : Nat := rl (isDg V L) L s
def tK (V : Nat → Nat) (L s : Nat) : Nat := if L ≤ s then 0 else if isLt V L s = true then (if nLt V L s ≤ 8 then 1 else 4) else if isDg V L s = true then (if nDg V L s ≤ 4 then if isLt V L (s + nDg V L s) = true then 4 else 2 else 4) else if isSg (V s) = true then 3 else 4
def tE (V : Nat → Nat) (L s : Nat) : Nat := if L ≤ s then s else if isLt V L s = true then s + nLt V L s else if isDg V L s = true then s + nDg V L s else s + 1
/-- a word's letters from s on as a number, to the base of 32 -/
def wN (V : Nat → Nat) (s : Nat) : Nat → Nat
  | 0 => 0
  | j + 1 => wN V s j * 32 + (V (s + j) - 96)
def dN (V : Nat → Nat) (s : Nat) : Nat → Nat
  | 0 => 0
  | j + 1 => dN V s j * 10 + (V (s + j) - 48)
def nL (n : Nat) : Int64 := Int64.ofNat n
theorem tS_L {V : Nat → Nat} {L p : Nat} (h : p ≤ L) : tS V L p ≤ L := rl_le isBl_L _ _ h
theorem tE_L {V : Nat → Nat} {L s : Nat} (h : s ≤ L) : tE V L s ≤ L := by
  unfold tE
  split
  · exact h
  · split
    · exact rl_le isLt_L _ _ h
    · split
      · exact rl_le isDg_L _ _ h
      · omega
/-- the text lies on the class's tape -/
def Tp (h : HT) (L : Nat) (V : Nat → Nat) : Prop := Ptr h ∧ CTap h L V ∧ L ≤ 1600 ∧ ∀ i, i < L → V i < 256
def hT (h : HT) (kd st nx nm : Int32) (wd : Int64) : HT := (fun c k => if c = 2 then (if k = 2 then kd else if k = 3 then st else if k = 4 then nx else if k = 6 then nm else h.1 c k) else h.1 c k, fun c k => if c = 2 ∧ k = 5 then wd else h.2.1 c k, h.2.2)
theorem hT_2 {h : HT} {a b c e : Int32} {w : Int64} : m_gI (hT h a b c e w) 2 2 = a := rfl
theorem hT_3 {h : HT} {a b c e : Int32} {w : Int64} : m_gI (hT h a b c e w) 2 3 = b := rfl
theorem hT_4 {h : HT} {a b c e : Int32} {w : Int64} : m_gI (hT h a b c e w) 2 4 = c := rfl
theorem hT_6 {h : HT} {a b c e : Int32} {w : Int64} : m_gI (hT h a b c e w) 2 6 = e := rfl
theorem hT_1 {h : HT} {a b c e : Int32} {w : Int64} : m_gI (hT h a b c e w) 2 1 = m_gI h 2 1 := rfl
theorem hT_5 {h : HT} {a b c e : Int32} {w : Int64} : m_gL (hT h a b c e w) 2 5 = w := rfl
theorem hT_R {h : HT} {a b c e : Int32} {w : Int64} {x y : Nat} : m_gR (hT h a b c e w) x y = m_gR h x y := rfl
theorem hT_c {h : HT} {a b c e : Int32} {w : Int64} {k : Nat} : m_gI (hT h a b c e w) 3 k = m_gI h 3 k := rfl
theorem hT_s {h : HT} {a b c e v : Int32} {w : Int64} (i : Nat) : m_sI (hT h a b c e w) 2 i v = (fun x k => if x = 2 then (if k = i then v else if k = 2 then a else if k = 3 then b else if k = 4 then c else if k = 6 then e else h.1 x k) else h.1 x k, fun c k => if c = 2 ∧ k = 5 then w else h.2.1 c k, h.2.2) := by
  apply hx
  · intro x k
    show (if x = 2 ∧ k = i then v else if x = 2 then _ else h.1 x k) = if x = 2 then _ else h.1 x k
    by_cases z : x = 2
    · by_cases y : k = i
      · rw [if_pos ⟨z, y⟩, if_pos z, if_pos y]
      · rw [if_neg (fun q => y q.2), if_pos z, if_pos z, if_neg y]
    · rw [if_neg (fun q => z q.1), if_neg z, if_neg z]
  · rfl
theorem hT_s2 {h : HT} {a b c e v : Int32} {w : Int64} : m_sI (hT h a b c e w) 2 2 v = hT h v b c e w := by
  rw [hT_s]
  apply hx
  · intro x k
    show (if x = 2 then _ else h.1 x k) = if x = 2 then _ else h.1 x k
    split
    · by_cases y : k = 2
      · rw [if_pos y, if_pos y]
      · rw [if_neg y, if_neg y, if_neg y]
    · rfl
  · rfl
theorem hT_s3 {h : HT} {a b c e v : Int32} {w : Int64} : m_sI (hT h a b c e w) 2 3 v = hT h a v c e w := by
  rw [hT_s]
  apply hx
  · intro x k
    show (if x = 2 then _ else h.1 x k) = if x = 2 then _ else h.1 x k
    split
    · by_cases y : k = 3
      · rw [if_pos y, if_neg (by omega), if_pos y]
      · rw [if_neg y]
        split
        · rfl
        · first
          | rfl
          | rw [if_neg y, if_neg y]
    · rfl
  · rfl
theorem hT_s4 {h : HT} {a b c e v : Int32} {w : Int64} : m_sI (hT h a b c e w) 2 4 v = hT h a b v e w := by
  rw [hT_s]
  apply hx
  · intro x k
    show (if x = 2 then _ else h.1 x k) = if x = 2 then _ else h.1 x k
    split
    · by_cases y : k = 4
      · rw [if_pos y, if_neg (by omega), if_neg (by omega), if_pos y]
      · rw [if_neg y]
        split
        · rfl
        · split
          · rfl
          · first
          | rfl
          | rw [if_neg y, if_neg y]
    · rfl
  · rfl
theorem hT_s6 {h : HT} {a b c e v : Int32} {w : Int64} : m_sI (hT h a b c e w) 2 6 v = hT h a b c v w := by
  rw [hT_s]
  apply hx
  · intro x k
    show (if x = 2 then _ else h.1 x k) = if x = 2 then _ else h.1 x k
    split
    · by_cases y : k = 6
      · rw [if_pos y, if_neg (by omega), if_neg (by omega), if_neg (by omega), if_pos y]
      · rw [if_neg y]
        split
        · rfl
        · split
          · rfl
          · split
            · rfl
            · first
          | rfl
          | rw [if_neg y, if_neg y]
    · rfl
  · rfl
theorem hT_s5 {h : HT} {a b c e : Int32} {w v : Int64} : m_sL (hT h a b c e w) 2 5 v = hT h a b c e v := by
  unfold hT m_sL
  refine Prod.ext rfl (Prod.ext ?_ rfl)
  funext x k
  show (if x = 2 ∧ k = 5 then v else if x = 2 ∧ k = 5 then w else h.2.1 x k) = if x = 2 ∧ k = 5 then v else h.2.1 x k
  split
  · rfl
  · rfl
theorem hT_id {h : HT} : h = hT h (m_gI h 2 2) (m_gI h 2 3) (m_gI h 2 4) (m_gI h 2 6) (m_gL h 2 5) := by
  refine Prod.ext ?_ (Prod.ext ?_ rfl)
  · funext c k
    show h.1 c k = if c = 2 then (if k = 2 then h.1 2 2 else if k = 3 then h.1 2 3 else if k = 4 then h.1 2 4 else if k = 6 then h.1 2 6 else h.1 c k) else h.1 c k
    split
    · rename_i z
      subst z
      split
      · rename_i y
        rw [y]
      · split
        · rename_i y
          rw [y]
        · split
          · rename_i y
            rw [y]
          · split
            · rename_i y
              rw [y]
            · rfl
    · rfl
  · funext c k
    show h.2.1 c k = if c = 2 ∧ k = 5 then h.2.1 2 5 else h.2.1 c k
    split
    · rename_i z
      rw [z.1, z.2]
    · rfl
def bA (V : Nat → Nat) (L p : Nat) : Int32 := if p < L then nI (V p) else -1
theorem c_byteAt {X : XT} {d p L : Nat} {h : HT} {Q : QT} {V : Nat → Nat} {a b c e : Int32} {w : Int64} (H : Tp h L V) (hp : p ≤ 1600) : wq X d 20 0 [some (.ref 2), some (.int (nI p))] [] (hT h a b c e w) Q = Q (some (.int (bA V L p))) (hT h a b c e w) := by
  obtain ⟨P, ⟨T1, T2⟩, T3, T4⟩ := H
  have e0 : (nI p < 0) = False := eq_false (nI_nlt (b := 0) (Nat.zero_le _) (by omega))
  have e1 : (nI p < nI L) = (p < L) := nI_ltB (by omega) (by omega)
  by_cases z : p < L
  · have e2 : (nI p < Int32.ofNat 1600) = True := eq_true (nI_lt (b := 1600) (by omega) (by decide))
    have e3 : m_in (nI p) 1600 = true := q_in (by omega) (by decide)
    have e4 : (nI p).toNatClampNeg = p := q_cl (by omega)
    rw [show bA V L p = nI (V p) from if_pos z]
    simp only [u20_0, u20_1, u20_4, u20_5, u20_6, u20_9, u20_12, u20_13, u20_14, u20_17 (X := X) (r0 := 3) (by rw [sh_3]; rfl), sh_3, u20_18, u20_21, u20_22, u20_25, u20_26, u20_27, u20_30, u20_31, eq_self, q_nl0, q_nlI, q_nlR, not_false_eq_true, q_nz0, q_nz1, q_zv0, q_zv1, q_tl1, q_tl0, q_wif, q_swc, q_swn, List.cons_append, List.nil_append, if_true, if_false, e10, e01, Bool.false_eq_true, sh_2, sh_3, hT_1, hT_R, hT_c, T1, e0, e1, eq_true z, p_2_0 P, e2, e3, e4, T2 p z]
  · rw [show bA V L p = -1 from if_neg z]
    simp only [u20_0, u20_1, u20_4, u20_5, u20_6, u20_9, u20_30, u20_31, eq_self, q_nl0, q_nlI, q_nlR, not_false_eq_true, q_nz0, q_nz1, q_zv0, q_zv1, q_tl1, q_tl0, q_wif, q_swc, q_swn, List.cons_append, List.nil_append, if_true, if_false, e10, e01, Bool.false_eq_true, sh_2, hT_1, T1, e0, e1, eq_false z]
theorem c_isLetter {X : XT} {d p L : Nat} {h : HT} {Q : QT} {V : Nat → Nat} (H : ∀ i, i < L → V i < 256) : wq X d 21 0 [some (.int (bA V L p))] [] h Q = Q (some (.int (if isLt V L p = true then 1 else 0))) h := by
  have nb0 : q_nb .boolean 0 = true := by decide
  have nb1 : q_nb .boolean 1 = true := by decide
  by_cases z : p < L
  · have hv := H p z
    have e1 : (nI (V p) < 97) = (V p < 97) := nI_ltB (b := 97) (by omega) (by decide)
    have e2 : (122 < nI (V p)) = (122 < V p) := nI_ltB (a := 122) (by decide) (by omega)
    rw [show bA V L p = nI (V p) from if_pos z]
    by_cases y : 97 ≤ V p ∧ V p ≤ 122
    · rw [if_pos (show isLt V L p = true from decide_eq_true ⟨z, y⟩)]
      simp only [u21_0, u21_1, u21_3, u21_6, u21_7, u21_9, u21_12, u21_13, u21_16, u21_17, eq_self, q_nl0, q_nlI, q_nlR, not_false_eq_true, q_nz0, q_nz1, q_zv0, q_zv1, q_tl1, q_tl0, q_wif, q_swc, q_swn, List.cons_append, List.nil_append, if_true, if_false, e10, e01, Bool.false_eq_true, e1, e2, nb1, nb0, eq_false (show ¬ V p < 97 by omega), eq_false (show ¬ 122 < V p by omega)]
    · rw [if_neg (show ¬ isLt V L p = true from fun q => y (of_decide_eq_true q).2)]
      by_cases x : V p < 97
      · simp only [u21_0, u21_1, u21_3, u21_6, u21_7, u21_9, u21_12, u21_13, u21_16, u21_17, eq_self, q_nl0, q_nlI, q_nlR, not_false_eq_true, q_nz0, q_nz1, q_zv0, q_zv1, q_tl1, q_tl0, q_wif, q_swc, q_swn, List.cons_append, List.nil_append, if_true, if_false, e10, e01, Bool.false_eq_true, e1, e2, nb1, nb0, eq_true x]
      · simp only [u21_0, u21_1, u21_3, u21_6, u21_7, u21_9, u21_12, u21_13, u21_16, u21_17, eq_self, q_nl0, q_nlI, q_nlR, not_false_eq_true, q_nz0, q_nz1, q_zv0, q_zv1, q_tl1, q_tl0, q_wif, q_swc, q_swn, List.cons_append, List.nil_append, if_true, if_false, e10, e01, Bool.false_eq_true, e1, e2, nb1, nb0, eq_false x, eq_true (show 122 < V p by omega)]
  · rw [show bA V L p = -1 from if_neg z, if_neg (show ¬ isLt V L p = true from fun q => z (of_decide_eq_true q).1)]
    simp only [u21_0, u21_1, u21_3, u21_6, u21_7, u21_9, u21_12, u21_13, u21_16, u21_17, eq_self, q_nl0, q_nlI, q_nlR, not_false_eq_true, q_nz0, q_nz1, q_zv0, q_zv1, q_tl1, q_tl0, q_wif, q_swc, q_swn, List.cons_append, List.nil_append, if_true, if_false, e10, e01, Bool.false_eq_true, nb0, show ((-1 : Int32) < 97) = True from eq_true (by decide)]
theorem c_isDigit {X : XT} {d p L : Nat} {h : HT} {Q : QT} {V : Nat → Nat} (H : ∀ i, i < L → V i < 256) : wq X d 23 0 [some (.int (bA V L p))] [] h Q = Q (some (.int (if isDg V L p = true then 1 else 0))) h := by
  have nb0 : q_nb .boolean 0 = true := by decide
  have nb1 : q_nb .boolean 1 = true := by decide
  by_cases z : p < L
  · have hv := H p z
    have e1 : (nI (V p) < 48) = (V p < 48) := nI_ltB (b := 48) (by omega) (by decide)
    have e2 : (57 < nI (V p)) = (57 < V p) := nI_ltB (a := 57) (by decide) (by omega)
    rw [show bA V L p = nI (V p) from if_pos z]
    by_cases y : 48 ≤ V p ∧ V p ≤ 57
    · rw [if_pos (show isDg V L p = true from decide_eq_true ⟨z, y⟩)]
      simp only [u23_0, u23_1, u23_3, u23_6, u23_7, u23_9, u23_12, u23_13, u23_16, u23_17, eq_self, q_nl0, q_nlI, q_nlR, not_false_eq_true, q_nz0, q_nz1, q_zv0, q_zv1, q_tl1, q_tl0, q_wif, q_swc, q_swn, List.cons_append, List.nil_append, if_true, if_false, e10, e01, Bool.false_eq_true, e1, e2, nb1, nb0, eq_false (show ¬ V p < 48 by omega), eq_false (show ¬ 57 < V p by omega)]
    · rw [if_neg (show ¬ isDg V L p = true from fun q => y (of_decide_eq_true q).2)]
      by_cases x : V p < 48
      · simp only [u23_0, u23_1, u23_3, u23_6, u23_7, u23_9, u23_12, u23_13, u23_16, u23_17, eq_self, q_nl0, q_nlI, q_nlR, not_false_eq_true, q_nz0, q_nz1, q_zv0, q_zv1, q_tl1, q_tl0, q_wif, q_swc, q_swn, List.cons_append, List.nil_append, if_true, if_false, e10, e01, Bool.false_eq_true, e1, e2, nb1, nb0, eq_true x]
      · simp only [u23_0, u23_1, u23_3, u23_6, u23_7, u23_9, u23_12, u23_13, u23_16, u23_17, eq_self, q_nl0, q_nlI, q_nlR, not_false_eq_true, q_nz0, q_nz1, q_zv0, q_zv1, q_tl1, q_tl0, q_wif, q_swc, q_swn, List.cons_append, List.nil_append, if_true, if_false, e10, e01, Bool.false_eq_true, e1, e2, nb1, nb0, eq_false x, eq_true (show 57 < V p by omega)]
  · rw [show bA V L p = -1 from if_neg z, if_neg (show ¬ isDg V L p = true from fun q => z (of_decide_eq_true q).1)]
    simp only [u23_0, u23_1, u23_3, u23_6, u23_7, u23_9, u23_12, u23_13, u23_16, u23_17, eq_self, q_nl0, q_nlI, q_nlR, not_false_eq_true, q_nz0, q_nz1, q_zv0, q_zv1, q_tl1, q_tl0, q_wif, q_swc, q_swn, List.cons_append, List.nil_append, if_true, if_false, e10, e01, Bool.false_eq_true, nb0, show ((-1 : Int32) < 48) = True from eq_true (by decide)]
