/-! THE MODEL'S TOKENS -/
def Tx (h : HT) (L : Nat) (V : Nat → Nat) : Prop := Ptr h ∧ m_gI h 195 3 = nI L ∧ (∀ i, i < L → m_gI h 197 i = byI (V i)) ∧ L ≤ 1600 ∧ ∀ i, i < L → V i < 256
def hM (h : HT) (a b c e : Int32) (w : Int64) : HT := (fun x k => if x = 195 then (if k = 6 then a else if k = 7 then b else if k = 8 then c else if k = 9 then e else h.1 x k) else h.1 x k, fun x k => if x = 195 ∧ k = 10 then w else h.2.1 x k, h.2.2)
theorem hM_6 {h : HT} {a b c e : Int32} {w : Int64} : m_gI (hM h a b c e w) 195 6 = a := rfl
theorem hM_7 {h : HT} {a b c e : Int32} {w : Int64} : m_gI (hM h a b c e w) 195 7 = b := rfl
theorem hM_8 {h : HT} {a b c e : Int32} {w : Int64} : m_gI (hM h a b c e w) 195 8 = c := rfl
theorem hM_9 {h : HT} {a b c e : Int32} {w : Int64} : m_gI (hM h a b c e w) 195 9 = e := rfl
theorem hM_3 {h : HT} {a b c e : Int32} {w : Int64} : m_gI (hM h a b c e w) 195 3 = m_gI h 195 3 := rfl
theorem hM_L {h : HT} {a b c e : Int32} {w : Int64} : m_gL (hM h a b c e w) 195 10 = w := rfl
theorem hM_R {h : HT} {a b c e : Int32} {w : Int64} {x y : Nat} : m_gR (hM h a b c e w) x y = m_gR h x y := rfl
theorem hM_s {h : HT} {a b c e v : Int32} {w : Int64} (i : Nat) : m_sI (hM h a b c e w) 195 i v = (fun x k => if x = 195 then (if k = i then v else if k = 6 then a else if k = 7 then b else if k = 8 then c else if k = 9 then e else h.1 x k) else h.1 x k, fun x k => if x = 195 ∧ k = 10 then w else h.2.1 x k, h.2.2) := by
  apply hx
  · intro x k
    show (if x = 195 ∧ k = i then v else if x = 195 then _ else h.1 x k) = if x = 195 then _ else h.1 x k
    by_cases z : x = 195
    · by_cases y : k = i
      · rw [if_pos ⟨z, y⟩, if_pos z, if_pos y]
      · rw [if_neg (fun q => y q.2), if_pos z, if_pos z, if_neg y]
    · rw [if_neg (fun q => z q.1), if_neg z, if_neg z]
  · rfl
theorem hM_s6 {h : HT} {a b c e v : Int32} {w : Int64} : m_sI (hM h a b c e w) 195 6 v = hM h v b c e w := by
  rw [hM_s]
  apply hx
  · intro x k
    show (if x = 195 then _ else h.1 x k) = if x = 195 then _ else h.1 x k
    split
    · by_cases y : k = 6
      · rw [if_pos y, if_pos y]
      · rw [if_neg y, if_neg y, if_neg y]
    · rfl
  · rfl
theorem hM_s7 {h : HT} {a b c e v : Int32} {w : Int64} : m_sI (hM h a b c e w) 195 7 v = hM h a v c e w := by
  rw [hM_s]
  apply hx
  · intro x k
    show (if x = 195 then _ else h.1 x k) = if x = 195 then _ else h.1 x k
    split
    · by_cases y : k = 7
      · rw [if_pos y, if_neg (by omega), if_pos y]
      · rw [if_neg y]
        split
        · rfl
        · first
          | rfl
          | rw [if_neg y, if_neg y]
    · rfl
  · rfl
theorem hM_s8 {h : HT} {a b c e v : Int32} {w : Int64} : m_sI (hM h a b c e w) 195 8 v = hM h a b v e w := by
  rw [hM_s]
  apply hx
  · intro x k
    show (if x = 195 then _ else h.1 x k) = if x = 195 then _ else h.1 x k
    split
    · by_cases y : k = 8
      · rw [if_pos y, if_neg (by omega), if_neg (by omega), if_pos y]
      · rw [if_neg y]
        split
        · rfl
        · split
          · rfl
          · first
            | rfl
            | rw [if_neg y, if_neg y]
    · rfl
  · rfl
theorem hM_s9 {h : HT} {a b c e v : Int32} {w : Int64} : m_sI (hM h a b c e w) 195 9 v = hM h a b c v w := by
  rw [hM_s]
  apply hx
  · intro x k
    show (if x = 195 then _ else h.1 x k) = if x = 195 then _ else h.1 x k
    split
    · by_cases y : k = 9
      · rw [if_pos y, if_neg (by omega), if_neg (by omega), if_neg (by omega), if_pos y]
      · rw [if_neg y]
        split
        · rfl
        · split
          · rfl
          · split
            · rfl
            · first
              | rfl
              | rw [if_neg y, if_neg y]
    · rfl
  · rfl
theorem hM_sL {h : HT} {a b c e : Int32} {w v : Int64} : m_sL (hM h a b c e w) 195 10 v = hM h a b c e v := by
  unfold hM m_sL
  refine Prod.ext rfl (Prod.ext ?_ rfl)
  funext x k
  show (if x = 195 ∧ k = 10 then v else if x = 195 ∧ k = 10 then w else h.2.1 x k) = if x = 195 ∧ k = 10 then v else h.2.1 x k
  split
  · rfl
  · rfl
theorem hM_id {h : HT} : h = hM h (m_gI h 195 6) (m_gI h 195 7) (m_gI h 195 8) (m_gI h 195 9) (m_gL h 195 10) := by
  refine Prod.ext ?_ (Prod.ext ?_ rfl)
  · funext c k
    show h.1 c k = if c = 195 then (if k = 6 then h.1 195 6 else if k = 7 then h.1 195 7 else if k = 8 then h.1 195 8 else if k = 9 then h.1 195 9 else h.1 c k) else h.1 c k
    split
    · rename_i z
      subst z
      split
      · rename_i y
        rw [y]
      · split
        · rename_i y
          rw [y]
        · split
          · rename_i y
            rw [y]
          · split
            · rename_i y
              rw [y]
            · rfl
    · rfl
  · funext c k
    show h.2.1 c k = if c = 195 ∧ k = 10 then h.2.1 195 10 else h.2.1 c k
    split
    · rename_i z
      rw [z.1, z.2]
    · rfl
/-- the sign at p; 0 behind the text -/
def sA (V : Nat → Nat) (L p : Nat) : Nat := if p < L then V p else 0
theorem by_and : ∀ v, v < 256 → byI v &&& 255 = nI v := by decide +kernel
theorem Tx_hM {h : HT} {L : Nat} {V : Nat → Nat} {a b c e : Int32} {w : Int64} (T : Tx h L V) : Tx (hM h a b c e w) L V := T
theorem sA_lt {V : Nat → Nat} {L p : Nat} (H : ∀ i, i < L → V i < 256) : sA V L p < 256 := by
  unfold sA
  split
  · exact H p (by assumption)
  · decide
theorem k_sign {X : XT} {d p L : Nat} {h : HT} {Q : QT} {V : Nat → Nat} (T : Tx h L V) (hp : p < 2 ^ 31) : wq X d 192 0 [some (.ref 195), some (.int (nI p))] [] h Q = Q (some (.int (nI (sA V L p)))) h := by
  obtain ⟨P, T1, T2, T3, T4⟩ := T
  have e1 : (nI p < nI L) = (p < L) := nI_ltB hp (by omega)
  unfold sA
  by_cases z : p < L
  · have e3 : m_in (nI p) 1600 = true := q_in (by omega) (by decide)
    have e4 : (nI p).toNatClampNeg = p := q_cl (by omega)
    rw [if_pos z]
    simp only [u192_0, u192_1, u192_2, u192_5, u192_8, u192_9, u192_12, u192_13z, u192_13b, u192_14, u192_17, u192_18, u192_21, u192_22, eq_self, q_nl0, q_nlI, q_nlR, not_false_eq_true, q_nz0, q_nz1, q_zv0, q_zv1, q_tl1, q_tl0, q_wif, q_swc, q_swn, List.cons_append, List.nil_append, if_true, if_false, e10, e01, Bool.false_eq_true, sh_195, sh_197, T1, e1, eq_true z, p_195_1 P, e3, e4, T2 p z, by_and _ (T4 p z)]
  · rw [if_neg z]
    simp only [u192_0, u192_1, u192_2, u192_5, u192_8, u192_9, u192_12, u192_13z, u192_13b, u192_14, u192_17, u192_18, u192_21, u192_22, eq_self, q_nl0, q_nlI, q_nlR, not_false_eq_true, q_nz0, q_nz1, q_zv0, q_zv1, q_tl1, q_tl0, q_wif, q_swc, q_swn, List.cons_append, List.nil_append, if_true, if_false, e10, e01, Bool.false_eq_true, sh_195, T1, e1, eq_false z]
    rfl
theorem k_letS {X : XT} {d p L : Nat} {h : HT} {Q : QT} {V : Nat → Nat} (H : ∀ i, i < L → V i < 256) : wq X d 193 0 [some (.int (nI (sA V L p)))] [] h Q = Q (some (.int (if isLt V L p = true then 1 else 0))) h := by
  have nb0 : q_nb .boolean 0 = true := by decide
  have nb1 : q_nb .boolean 1 = true := by decide
  have hv := sA_lt (p := p) H
  have e1 : (nI (sA V L p) < 97) = (sA V L p < 97) := nI_ltB (b := 97) (by omega) (by decide)
  have e2 : (122 < nI (sA V L p)) = (122 < sA V L p) := nI_ltB (a := 122) (by decide) (by omega)
  by_cases z : p < L
  · have es : sA V L p = V p := if_pos z
    by_cases y : 97 ≤ V p ∧ V p ≤ 122
    · rw [if_pos (show isLt V L p = true from decide_eq_true ⟨z, y⟩)]
      simp only [u193_0, u193_1, u193_3, u193_6, u193_7, u193_9, u193_12, u193_13, u193_16, u193_17, eq_self, q_nl0, q_nlI, q_nlR, not_false_eq_true, q_nz0, q_nz1, q_zv0, q_zv1, q_tl1, q_tl0, q_wif, q_swc, q_swn, List.cons_append, List.nil_append, if_true, if_false, e10, e01, Bool.false_eq_true, e1, e2, nb1, nb0, eq_false (show ¬ sA V L p < 97 by omega), eq_false (show ¬ 122 < sA V L p by omega)]
    · rw [if_neg (show ¬ isLt V L p = true from fun q => y (of_decide_eq_true q).2)]
      by_cases x : sA V L p < 97
      · simp only [u193_0, u193_1, u193_3, u193_6, u193_7, u193_9, u193_12, u193_13, u193_16, u193_17, eq_self, q_nl0, q_nlI, q_nlR, not_false_eq_true, q_nz0, q_nz1, q_zv0, q_zv1, q_tl1, q_tl0, q_wif, q_swc, q_swn, List.cons_append, List.nil_append, if_true, if_false, e10, e01, Bool.false_eq_true, e1, e2, nb1, nb0, eq_true x]
      · simp only [u193_0, u193_1, u193_3, u193_6, u193_7, u193_9, u193_12, u193_13, u193_16, u193_17, eq_self, q_nl0, q_nlI, q_nlR, not_false_eq_true, q_nz0, q_nz1, q_zv0, q_zv1, q_tl1, q_tl0, q_wif, q_swc, q_swn, List.cons_append, List.nil_append, if_true, if_false, e10, e01, Bool.false_eq_true, e1, e2, nb1, nb0, eq_false x, eq_true (show 122 < sA V L p by omega)]
  · have es : sA V L p = 0 := if_neg z
    rw [if_neg (show ¬ isLt V L p = true from fun q => z (of_decide_eq_true q).1)]
    simp only [u193_0, u193_1, u193_3, u193_6, u193_7, u193_9, u193_12, u193_13, u193_16, u193_17, eq_self, q_nl0, q_nlI, q_nlR, not_false_eq_true, q_nz0, q_nz1, q_zv0, q_zv1, q_tl1, q_tl0, q_wif, q_swc, q_swn, List.cons_append, List.nil_append, if_true, if_false, e10, e01, Bool.false_eq_true, e1, nb0, eq_true (show sA V L p < 97 by omega)]
theorem k_digS {X : XT} {d p L : Nat} {h : HT} {Q : QT} {V : Nat → Nat} (H : ∀ i, i < L → V i < 256) : wq X d 195 0 [some (.int (nI (sA V L p)))] [] h Q = Q (some (.int (if isDg V L p = true then 1 else 0))) h := by
  have nb0 : q_nb .boolean 0 = true := by decide
  have nb1 : q_nb .boolean 1 = true := by decide
  have hv := sA_lt (p := p) H
  have e1 : (nI (sA V L p) < 48) = (sA V L p < 48) := nI_ltB (b := 48) (by omega) (by decide)
  have e2 : (57 < nI (sA V L p)) = (57 < sA V L p) := nI_ltB (a := 57) (by decide) (by omega)
  by_cases z : p < L
  · have es : sA V L p = V p := if_pos z
    by_cases y : 48 ≤ V p ∧ V p ≤ 57
    · rw [if_pos (show isDg V L p = true from decide_eq_true ⟨z, y⟩)]
      simp only [u195_0, u195_1, u195_3, u195_6, u195_7, u195_9, u195_12, u195_13, u195_16, u195_17, eq_self, q_nl0, q_nlI, q_nlR, not_false_eq_true, q_nz0, q_nz1, q_zv0, q_zv1, q_tl1, q_tl0, q_wif, q_swc, q_swn, List.cons_append, List.nil_append, if_true, if_false, e10, e01, Bool.false_eq_true, e1, e2, nb1, nb0, eq_false (show ¬ sA V L p < 48 by omega), eq_false (show ¬ 57 < sA V L p by omega)]
    · rw [if_neg (show ¬ isDg V L p = true from fun q => y (of_decide_eq_true q).2)]
      by_cases x : sA V L p < 48
      · simp only [u195_0, u195_1, u195_3, u195_6, u195_7, u195_9, u195_12, u195_13, u195_16, u195_17, eq_self, q_nl0, q_nlI, q_nlR, not_false_eq_true, q_nz0, q_nz1, q_zv0, q_zv1, q_tl1, q_tl0, q_wif, q_swc, q_swn, List.cons_append, List.nil_append, if_true, if_false, e10, e01, Bool.false_eq_true, e1, e2, nb1, nb0, eq_true x]
      · simp only [u195_0, u195_1, u195_3, u195_6, u195_7, u195_9, u195_12, u195_13, u195_16, u195_17, eq_self, q_nl0, q_nlI, q_nlR, not_false_eq_true, q_nz0, q_nz1, q_zv0, q_zv1, q_tl1, q_tl0, q_wif, q_swc, q_swn, List.cons_append, List.nil_append, if_true, if_false, e10, e01, Bool.false_eq_true, e1, e2, nb1, nb0, eq_false x, eq_true (show 57 < sA V L p by omega)]
  · have es : sA V L p = 0 := if_neg z
    rw [if_neg (show ¬ isDg V L p = true from fun q => z (of_decide_eq_true q).1)]
    simp only [u195_0, u195_1, u195_3, u195_6, u195_7, u195_9, u195_12, u195_13, u195_16, u195_17, eq_self, q_nl0, q_nlI, q_nlR, not_false_eq_true, q_nz0, q_nz1, q_zv0, q_zv1, q_tl1, q_tl0, q_wif, q_swc, q_swn, List.cons_append, List.nil_append, if_true, if_false, e10, e01, Bool.false_eq_true, e1, nb0, eq_true (show sA V L p < 48 by omega)]
/-- the model's sort of token -/
def mK (V : Nat → Nat) (L s : Nat) : Nat := if tK V L s = 0 then 0 else if tK V L s = 1 then (if own (nL (wN V s (nLt V L s))) = true then 3 else 2) else if tK V L s = 2 then 4 else if tK V L s = 3 then 5 else 1
def TkK (h : HT) (L : Nat) (V : Nat → Nat) (s : Nat) : Prop := Tx h L V ∧ s ≤ L ∧ m_gI h 195 6 = nI s ∧ m_gI h 195 7 = nI (tE V L s) ∧ m_gI h 195 8 = nI (mK V L s) ∧ (tK V L s = 1 → m_gL h 195 10 = nL (cv (wN V s (nLt V L s)))) ∧ (tK V L s = 2 → m_gI h 195 9 = nI (dN V s (nDg V L s)))
def FrK (h g : HT) : Prop := (∀ c k, m_gR g c k = m_gR h c k) ∧ (∀ c k, c ≠ 195 ∨ k < 6 ∨ 9 < k → m_gI g c k = m_gI h c k) ∧ ∀ c k, c ≠ 195 ∨ k ≠ 10 → m_gL g c k = m_gL h c k
theorem FrK_hM {h : HT} {a b c e : Int32} {w : Int64} : FrK h (hM h a b c e w) := by
  refine ⟨fun _ _ => rfl, fun x k z => ?_, fun x k z => ?_⟩
  · show (if x = 195 then _ else h.1 x k) = h.1 x k
    split
    · rw [if_neg (by omega), if_neg (by omega), if_neg (by omega), if_neg (by omega)]
    · rfl
  · show (if x = 195 ∧ k = 10 then _ else h.2.1 x k) = h.2.1 x k
    rw [if_neg (by omega)]
def nmM (V : Nat → Nat) (s : Nat) : Nat → Int64
  | 0 => 0
  | j + 1 => nmM V s j <<< ((8 : Int32).toInt64 &&& 63) ||| (nI (V (s + j))).toInt64
def dM (V : Nat → Nat) (s : Nat) : Nat → Nat
  | 0 => 0
  | j + 1 => if j < 4 then dM V s j * 10 + (V (s + j) - 48) else dM V s j
theorem dM_4 {V : Nat → Nat} {s : Nat} : ∀ j, j ≤ 4 → dM V s j = dN V s j
  | 0, _ => rfl
  | j + 1, h => by
    show (if j < 4 then dM V s j * 10 + (V (s + j) - 48) else dM V s j) = dN V s j * 10 + (V (s + j) - 48)
    rw [if_pos (by omega), dM_4 j (by omega)]
theorem nL_or {w v : Nat} (hw : w < 2 ^ 56) (hv : v < 256) : nL w <<< ((8 : Int32).toInt64 &&& 63) ||| nL v = nL (w * 256 + v) := by
  apply Int64.toBitVec_inj.mp
  have q : (nL w <<< ((8 : Int32).toInt64 &&& 63)).toBitVec = BitVec.ofNat 64 w <<< 8 := rfl
  show (nL w <<< ((8 : Int32).toInt64 &&& 63)).toBitVec ||| BitVec.ofNat 64 v = BitVec.ofNat 64 (w * 256 + v)
  rw [q]
  apply BitVec.eq_of_toNat_eq
  rw [BitVec.toNat_or, BitVec.toNat_shiftLeft, BitVec.toNat_ofNat, BitVec.toNat_ofNat, BitVec.toNat_ofNat, Nat.mod_eq_of_lt (a := w) (by omega), Nat.mod_eq_of_lt (a := v) (by omega), Nat.mod_eq_of_lt (a := w * 256 + v) (by omega), Nat.shiftLeft_eq, Nat.mod_eq_of_lt (a := w * 2 ^ 8) (by omega)]
  have := Nat.shiftLeft_add_eq_or_of_lt (i := 8) (b := v) (by omega) w
  rw [Nat.shiftLeft_eq] at this
  rw [← this]
theorem wN_lt {V : Nat → Nat} {L s : Nat} : ∀ j, j ≤ nLt V L s → wN V s j < 32 ^ j
  | 0, _ => Nat.lt_succ_self 0
  | j + 1, h => by
    have := wN_lt (V := V) (L := L) (s := s) j (by omega)
    have z := of_decide_eq_true (rl_lt (P := isLt V L) L s j (show j < nLt V L s by omega))
    show wN V s j * 32 + (V (s + j) - 96) < 32 ^ (j + 1)
    rw [Nat.pow_succ]
    omega
theorem cvF_w {V : Nat → Nat} {L s : Nat} : ∀ j, j ≤ nLt V L s → ∀ f, j ≤ f → cvF f (wN V s j) = cvF j (wN V s j)
  | 0, _, f, _ => by
    cases f with
    | zero => rfl
    | succ f =>
      show (if 0 = 0 then 0 else _) = 0
      rfl
  | j + 1, h, f, hf => by
    obtain ⟨f, rfl⟩ : ∃ g, f = g + 1 := ⟨f - 1, by omega⟩
    have z := of_decide_eq_true (rl_lt (P := isLt V L) L s j (show j < nLt V L s by omega))
    have ih := cvF_w (V := V) (L := L) (s := s) j (by omega) f (by omega)
    have e : wN V s (j + 1) = wN V s j * 32 + (V (s + j) - 96) := rfl
    have e1 : wN V s (j + 1) / 32 = wN V s j := by omega
    show (if wN V s (j + 1) = 0 then 0 else cvF f (wN V s (j + 1) / 32) * 256 + (wN V s (j + 1) % 32 + 96)) = if wN V s (j + 1) = 0 then 0 else cvF j (wN V s (j + 1) / 32) * 256 + (wN V s (j + 1) % 32 + 96)
    rw [e1, ih]
theorem nmM_w {V : Nat → Nat} {L s : Nat} (hv : ∀ i, i < L → V i < 256) : ∀ j, j ≤ nLt V L s → j ≤ 8 → nmM V s j = nL (cvF j (wN V s j))
  | 0, _, _ => rfl
  | j + 1, h, h8 => by
    have z := of_decide_eq_true (rl_lt (P := isLt V L) L s j (show j < nLt V L s by omega))
    have ih := nmM_w (V := V) (L := L) (s := s) hv j (by omega) (by omega)
    have e : wN V s (j + 1) = wN V s j * 32 + (V (s + j) - 96) := rfl
    have e1 : wN V s (j + 1) / 32 = wN V s j := by omega
    have e2 : wN V s (j + 1) % 32 + 96 = V (s + j) := by omega
    have hvj := hv _ z.1
    have l1 : cvF j (wN V s j) < 2 ^ 56 := by
      refine Nat.lt_of_lt_of_le (cvF_lt j _) ?_
      rw [show (256 : Nat) = 2 ^ 8 from rfl, ← Nat.pow_mul]
      exact Nat.pow_le_pow_right (by decide) (by omega)
    show nmM V s j <<< ((8 : Int32).toInt64 &&& 63) ||| (nI (V (s + j))).toInt64 = nL (if wN V s (j + 1) = 0 then 0 else cvF j (wN V s (j + 1) / 32) * 256 + (wN V s (j + 1) % 32 + 96))
    rw [ih, nI_64 (by omega), nL_or l1 hvj, if_neg (by omega), e1, e2]
theorem rl_pos {P : Nat → Bool} {n s : Nat} (z : P s = true) (hn : 0 < n) : 0 < rl P n s := by
  cases n with
  | zero => omega
  | succ n =>
    unfold rl
    rw [if_pos z]
    omega
theorem k_blank {X : XT} {d p L : Nat} {h : HT} {V : Nat → Nat} {b c e : Int32} {w : Int64} (T : Tx h L V) (hp : p ≤ L) (Q : QT) : wq X (d + 2) 191 8 [some (.ref 195), none, none] [] (hM h (nI p) b c e w) Q = wq X (d + 2) 191 58 [some (.ref 195), none, none] [] (hM h (nI (tS V L p)) b c e w) Q := by
  have hL := T.2.2.2.1
  have ks := fun (Q : QT) (p : Nat) (hp : p < 2 ^ 31) (a b c e : Int32) (w : Int64) => k_sign (X := X) (d := d + 1) (Q := Q) (p := p) (Tx_hM (a := a) (b := b) (c := c) (e := e) (w := w) T) hp
  have e0 := q_loop (fun j => wq X (d + 2) 191 8 [some (.ref 195), none, none] [] (hM h (nI (p + j)) b c e w) Q) (rl (isBl V L) L p) (fun j hj => by
    have z := of_decide_eq_true (rl_lt (P := isBl V L) L p j hj)
    have e1 : (nI (p + j) < nI L) = True := eq_true (nI_lt z.1 (by omega))
    have es : sA V L (p + j) = V (p + j) := if_pos z.1
    have hv := T.2.2.2.2 _ z.1
    have f1 : (nI (V (p + j)) = 32) = (V (p + j) = 32) := nI_eqB (b := 32) (by omega) (by decide)
    have f2 : (nI (V (p + j)) = 10) = (V (p + j) = 10) := nI_eqB (b := 10) (by omega) (by decide)
    have n1 : nI (p + j) + 1 = nI (p + (j + 1)) := nI_1 _
    show wq X (d + 2) 191 8 _ _ _ _ = _
    rw [u191_8]
    by_cases y : V (p + j) = 32
    · simp only [u191_9, u191_12, u191_13, u191_16, u191_19, u191_20, u191_21, u191_24, u191_27, u191_29, u191_32, u191_33, u191_34, u191_37, u191_40, u191_42, u191_45, u191_46, u191_47, u191_50, u191_51, u191_52, u191_55, eq_self, q_nl0, q_nlI, q_nlR, not_false_eq_true, q_nz0, q_nz1, q_zv0, q_zv1, q_tl1, q_tl0, q_wif, q_swc, q_swn, List.cons_append, List.nil_append, if_true, if_false, e10, e01, Bool.false_eq_true, sh_195, hM_6, hM_3, T.2.1, e1, ks _ (p + j) (by omega), es, f1, eq_true y, n1, hM_s6, Option.toList]
    · have y2 : V (p + j) = 10 := z.2.resolve_left y
      simp only [u191_9, u191_12, u191_13, u191_16, u191_19, u191_20, u191_21, u191_24, u191_27, u191_29, u191_32, u191_33, u191_34, u191_37, u191_40, u191_42, u191_45, u191_46, u191_47, u191_50, u191_51, u191_52, u191_55, eq_self, q_nl0, q_nlI, q_nlR, not_false_eq_true, q_nz0, q_nz1, q_zv0, q_zv1, q_tl1, q_tl0, q_wif, q_swc, q_swn, List.cons_append, List.nil_append, if_true, if_false, e10, e01, Bool.false_eq_true, sh_195, hM_6, hM_3, T.2.1, e1, ks _ (p + j) (by omega), es, f1, f2, eq_false y, eq_true y2, n1, hM_s6, Option.toList])
  refine Eq.trans e0 ?_
  show wq X (d + 2) 191 8 _ _ (hM h (nI (tS V L p)) b c e w) _ = _
  have hs := tS_L (V := V) hp
  have st : isBl V L (tS V L p) = false := rl_stop isBl_L _ _ (by omega)
  generalize tS V L p = s at hs st ⊢
  have e1 : (nI s < nI L) = (s < L) := lt_n (by omega) (by omega)
  rw [u191_8]
  by_cases z : s < L
  · have st' := of_decide_eq_false st
    have es : sA V L s = V s := if_pos z
    have hv := T.2.2.2.2 _ z
    have f1 : (nI (V s) = 32) = False := eq_false (fun q => st' ⟨z, Or.inl ((nI_eq (b := 32) (by omega) (by decide)).mp q)⟩)
    have f2 : (nI (V s) = 10) = False := eq_false (fun q => st' ⟨z, Or.inr ((nI_eq (b := 10) (by omega) (by decide)).mp q)⟩)
    simp only [u191_9, u191_12, u191_13, u191_16, u191_19, u191_20, u191_21, u191_24, u191_27, u191_29, u191_32, u191_33, u191_34, u191_37, u191_40, u191_42, eq_self, q_nl0, q_nlI, q_nlR, not_false_eq_true, q_nz0, q_nz1, q_zv0, q_zv1, q_tl1, q_tl0, q_wif, q_swc, q_swn, List.cons_append, List.nil_append, if_true, if_false, e10, e01, Bool.false_eq_true, sh_195, hM_6, hM_3, T.2.1, e1, eq_true z, ks _ s (by omega), es, f1, f2, Option.toList]
  · simp only [u191_9, u191_12, u191_13, u191_16, eq_self, q_nl0, q_nlI, q_nlR, not_false_eq_true, q_nz0, q_nz1, q_zv0, q_zv1, q_tl1, q_tl0, q_wif, q_swc, q_swn, List.cons_append, List.nil_append, if_true, if_false, e10, e01, Bool.false_eq_true, sh_195, hM_6, hM_3, T.2.1, e1, eq_false z]
theorem k_goOn {X : XT} {d p L : Nat} {h : HT} {V : Nat → Nat} (T : Tx h L V) (hp : p ≤ L) (h7 : m_gI h 195 7 = nI p) : ∃ g, FrK h g ∧ TkK g L V (tS V L p) ∧ ∀ Q : QT, wq X (d + 2) 191 0 [some (.ref 195), none, none] [] h Q = Q none g := by
  have hL := T.2.2.2.1
  have hh : h = hM h (m_gI h 195 6) (nI p) (m_gI h 195 8) (m_gI h 195 9) (m_gL h 195 10) := by
    rw [← h7]
    exact hM_id
  generalize m_gI h 195 6 = a at hh
  generalize m_gI h 195 8 = c at hh
  generalize m_gI h 195 9 = e at hh
  generalize m_gL h 195 10 = w at hh
  have st0 : ∀ Q : QT, wq X (d + 2) 191 0 [some (.ref 195), none, none] [] h Q = wq X (d + 2) 191 58 [some (.ref 195), none, none] [] (hM h (nI (tS V L p)) (nI p) c e w) Q := fun Q => by
    refine Eq.trans ?_ (k_blank (X := X) (d := d) (b := nI p) (c := c) (e := e) (w := w) T hp Q)
    refine (congrArg (fun x => wq X (d + 2) 191 0 [some (.ref 195), none, none] [] x Q) hh).trans ?_
    simp only [u191_0, u191_1, u191_2, u191_5, eq_self, q_nl0, q_nlI, q_nlR, not_false_eq_true, q_nz0, q_nz1, q_zv0, q_zv1, q_tl1, q_tl0, q_wif, q_swc, q_swn, List.cons_append, List.nil_append, if_true, if_false, e10, e01, Bool.false_eq_true, sh_195, hM_7, hM_s6]
  have hs := tS_L (V := V) hp
  generalize tS V L p = s at st0 hs ⊢
  have e1 : (nI s < nI L) = (s < L) := lt_n (by omega) (by omega)
  have ks := fun (Q : QT) (p : Nat) (hp : p < 2 ^ 31) (a b c e : Int32) (w : Int64) => k_sign (X := X) (d := d + 1) (Q := Q) (p := p) (Tx_hM (a := a) (b := b) (c := c) (e := e) (w := w) T) hp
  have kl := fun (p : Nat) (h : HT) (Q : QT) => k_letS (X := X) (d := d + 1) (p := p) (h := h) (Q := Q) T.2.2.2.2
  have kd := fun (p : Nat) (h : HT) (Q : QT) => k_digS (X := X) (d := d + 1) (p := p) (h := h) (Q := Q) T.2.2.2.2
  have hb : ∀ Q : QT, wq X (d + 2) 191 58 [some (.ref 195), none, none] [] (hM h (nI s) (nI p) c e w) Q = if s < L then wq X (d + 2) 191 112 [some (.ref 195), some (.int (nI (sA V L s))), none] [] (hM h (nI s) (nI (s + 1)) c e w) Q else wq X (d + 2) 191 88 [some (.ref 195), some (.int (nI (sA V L s))), none] [] (hM h (nI s) (nI (s + 1)) c e w) Q := fun Q => by
    simp only [u191_58, u191_59, u191_60, u191_63, u191_66, u191_67, u191_68, u191_69, u191_72, u191_73, u191_74, u191_77, u191_78, u191_81, u191_82, u191_85, eq_self, q_nl0, q_nlI, q_nlR, not_false_eq_true, q_nz0, q_nz1, q_zv0, q_zv1, q_tl1, q_tl0, q_wif, q_swc, q_swn, List.cons_append, List.nil_append, if_true, if_false, e10, e01, Bool.false_eq_true, sh_195, hM_6, hM_3, hM_s7, T.2.1, e1, ks _ s (by omega), nI_1, Option.toList]
  by_cases zL : s < L
  · have eK : ∀ {α : Type} {x y : α}, (if L ≤ s then x else y) = y := if_neg (by omega)
    by_cases zl : isLt V L s = true
    · -- a word
      have hn : s + nLt V L s ≤ L := rl_le isLt_L _ _ (by omega)
      have hn1 : 0 < nLt V L s := rl_pos zl (by omega)
      have ek : tK V L s = if nLt V L s ≤ 8 then 1 else 4 := by
        unfold tK
        rw [eK, if_pos zl]
      have ee : tE V L s = s + nLt V L s := by
        unfold tE
        rw [eK, if_pos zl]
      -- the letters
      have lp : ∀ Q : QT, wq X (d + 2) 191 119 [some (.ref 195), some (.int (nI (sA V L s))), none] [] (hM h (nI s) (nI (s + 1)) c e w) Q = wq X (d + 2) 191 146 [some (.ref 195), some (.int (nI (sA V L s))), none] [] (hM h (nI s) (nI (s + nLt V L s)) c e w) Q := fun Q => by
        have q := q_loop (fun j => wq X (d + 2) 191 119 [some (.ref 195), some (.int (nI (sA V L s))), none] [] (hM h (nI s) (nI (s + 1 + j)) c e w) Q) (nLt V L s - 1) (fun j hj => by
          have z : isLt V L (s + 1 + j) = true := by
            have := rl_lt (P := isLt V L) L s (1 + j) (show 1 + j < nLt V L s by omega)
            rw [show s + 1 + j = s + (1 + j) by omega]
            exact this
          have n1 : nI (s + 1 + j) + 1 = nI (s + 1 + (j + 1)) := nI_1 _
          show wq X (d + 2) 191 119 _ _ _ _ = _
          rw [u191_119]
          simp only [u191_120, u191_121, u191_124, u191_127, u191_130, u191_133, u191_134, u191_135, u191_138, u191_139, u191_140, u191_143, eq_self, q_nl0, q_nlI, q_nlR, not_false_eq_true, q_nz0, q_nz1, q_zv0, q_zv1, q_tl1, q_tl0, q_wif, q_swc, q_swn, List.cons_append, List.nil_append, if_true, if_false, e10, e01, Bool.false_eq_true, sh_195, hM_7, hM_s7, ks _ (s + 1 + j) (by omega), kl, z, n1, Option.toList])
        refine Eq.trans q ?_
        show wq X (d + 2) 191 119 _ _ (hM h (nI s) (nI (s + 1 + (nLt V L s - 1))) c e w) _ = _
        rw [show s + 1 + (nLt V L s - 1) = s + nLt V L s by omega, u191_119]
        have stp : isLt V L (s + nLt V L s) = false := rl_stop isLt_L _ _ (by omega)
        simp only [u191_120, u191_121, u191_124, u191_127, u191_130, eq_self, q_nl0, q_nlI, q_nlR, not_false_eq_true, q_nz0, q_nz1, q_zv0, q_zv1, q_tl1, q_tl0, q_wif, q_swc, q_swn, List.cons_append, List.nil_append, if_true, if_false, e10, e01, Bool.false_eq_true, sh_195, hM_7, ks _ (s + nLt V L s) (by omega), kl, stp, Option.toList]
      -- its number
      have lq : ∃ m, (nLt V L s ≤ 8 → m = nLt V L s) ∧ ∀ Q : QT, wq X (d + 2) 191 146 [some (.ref 195), some (.int (nI (sA V L s))), none] [] (hM h (nI s) (nI (s + nLt V L s)) c e w) Q = wq X (d + 2) 191 199 [some (.ref 195), some (.int (nI (sA V L s))), some (.int (nI (s + m)))] [] (hM h (nI s) (nI (s + nLt V L s)) c e (nmM V s m)) Q := by
        have a8 : nI s + 8 = nI (s + 8) := nI_add s 8
        have cA : ∀ j, j ≤ 8 → (nI (s + j) < nI (s + nLt V L s)) = (j < nLt V L s) := fun j hj => by
          rw [lt_n (by omega) (by omega)]
          exact propext ⟨fun q => by omega, fun q => by omega⟩
        have cB : ∀ j, j ≤ 8 → (nI (s + j) < nI (s + 8)) = (j < 8) := fun j hj => by
          rw [lt_n (by omega) (by omega)]
          exact propext ⟨fun q => by omega, fun q => by omega⟩
        have q := fun (m : Nat) (hm : m ≤ 8) (hm2 : m ≤ nLt V L s) (Q : QT) => q_loop (fun j => wq X (d + 2) 191 156 [some (.ref 195), some (.int (nI (sA V L s))), some (.int (nI (s + j)))] [] (hM h (nI s) (nI (s + nLt V L s)) c e (nmM V s j)) Q) m (fun j hj => by
          have z := of_decide_eq_true (rl_lt (P := isLt V L) L s j (show j < nLt V L s by omega))
          have es : sA V L (s + j) = V (s + j) := if_pos z.1
          have n1 : nI (s + j) + 1 = nI (s + (j + 1)) := nI_1 _
          have en : nmM V s (j + 1) = nmM V s j <<< ((8 : Int32).toInt64 &&& 63) ||| (nI (V (s + j))).toInt64 := rfl
          show wq X (d + 2) 191 156 _ _ _ _ = _
          rw [u191_156]
          simp only [u191_157, u191_158, u191_161, u191_164, u191_165, u191_166, u191_169, u191_171, u191_172, u191_175, u191_176, u191_177, u191_180, u191_182, u191_183, u191_184, u191_185, u191_188, u191_189, u191_190, u191_193, u191_196, eq_self, q_nl0, q_nlI, q_nlR, not_false_eq_true, q_nz0, q_nz1, q_zv0, q_zv1, q_tl1, q_tl0, q_wif, q_swc, q_swn, List.cons_append, List.nil_append, if_true, if_false, e10, e01, Bool.false_eq_true, sh_195, hM_7, hM_6, hM_L, hM_sL, a8, cA j (by omega), cB j (by omega), eq_true (show j < nLt V L s by omega), eq_true (show j < 8 by omega), ks _ (s + j) (by omega), es, n1, en, Option.toList])
        by_cases y : nLt V L s ≤ 8
        · refine ⟨nLt V L s, fun _ => rfl, fun Q => ?_⟩
          simp only [u191_146, u191_147, u191_148, u191_151, u191_152, u191_155, eq_self, q_nl0, q_nlI, q_nlR, not_false_eq_true, q_nz0, q_nz1, q_zv0, q_zv1, q_tl1, q_tl0, q_wif, q_swc, q_swn, List.cons_append, List.nil_append, if_true, if_false, e10, e01, Bool.false_eq_true, sh_195, hM_sL, hM_6]
          refine Eq.trans (q (nLt V L s) y (Nat.le_refl _) Q) ?_
          show wq X (d + 2) 191 156 _ _ _ _ = _
          rw [u191_156]
          simp only [u191_157, u191_158, u191_161, eq_self, q_nl0, q_nlI, q_nlR, not_false_eq_true, q_nz0, q_nz1, q_zv0, q_zv1, q_tl1, q_tl0, q_wif, q_swc, q_swn, List.cons_append, List.nil_append, if_true, if_false, e10, e01, Bool.false_eq_true, sh_195, hM_7, cA _ y, Nat.lt_irrefl]
        · refine ⟨8, fun q => absurd q y, fun Q => ?_⟩
          simp only [u191_146, u191_147, u191_148, u191_151, u191_152, u191_155, eq_self, q_nl0, q_nlI, q_nlR, not_false_eq_true, q_nz0, q_nz1, q_zv0, q_zv1, q_tl1, q_tl0, q_wif, q_swc, q_swn, List.cons_append, List.nil_append, if_true, if_false, e10, e01, Bool.false_eq_true, sh_195, hM_sL, hM_6]
          refine Eq.trans (q 8 (Nat.le_refl _) (by omega) Q) ?_
          show wq X (d + 2) 191 156 _ _ _ _ = _
          rw [u191_156]
          simp only [u191_157, u191_158, u191_161, u191_164, u191_165, u191_166, u191_169, u191_171, u191_172, eq_self, q_nl0, q_nlI, q_nlR, not_false_eq_true, q_nz0, q_nz1, q_zv0, q_zv1, q_tl1, q_tl0, q_wif, q_swc, q_swn, List.cons_append, List.nil_append, if_true, if_false, e10, e01, Bool.false_eq_true, sh_195, hM_7, hM_6, a8, cA 8 (Nat.le_refl _), cB 8 (Nat.le_refl _), eq_true (show 8 < nLt V L s by omega), Nat.lt_irrefl]
      obtain ⟨m, hm, lq⟩ := lq
      have sb : nI (s + nLt V L s) - nI s = nI (nLt V L s) := by
        rw [pk_sub (by omega)]
        congr 1
        omega
      have f8 : (8 < nI (nLt V L s)) = (8 < nLt V L s) := nI_ltB (a := 8) (by decide) (by omega)
      refine ⟨hM h (nI s) (nI (s + nLt V L s)) (nI (mK V L s)) e (nmM V s m), FrK_hM, ⟨Tx_hM T, hs, rfl, ?_, rfl, fun q => ?_, fun q => ?_⟩, fun Q => ?_⟩
      · rw [ee]
        rfl
      · rw [ek] at q
        have y : nLt V L s ≤ 8 := Classical.byContradiction (fun y => by
          rw [if_neg y] at q
          cases q)
        rw [hm y]
        show nmM V s (nLt V L s) = nL (cvF 8 (wN V s (nLt V L s)))
        rw [cvF_w (V := V) (L := L) (nLt V L s) (Nat.le_refl _) 8 y]
        exact nmM_w T.2.2.2.2 _ (Nat.le_refl _) y
      · rw [ek] at q
        split at q <;> cases q
      · rw [st0, hb, if_pos zL]
        simp only [u191_112, u191_113, u191_116, eq_self, q_nl0, q_nlI, q_nlR, not_false_eq_true, q_nz0, q_nz1, q_zv0, q_zv1, q_tl1, q_tl0, q_wif, q_swc, q_swn, List.cons_append, List.nil_append, if_true, if_false, e10, e01, Bool.false_eq_true, kl, zl, Option.toList]
        refine (lp Q).trans ((lq Q).trans ?_)
        unfold mK
        rw [ek]
        by_cases y : nLt V L s ≤ 8
        · rw [hm y]
          have hw : wN V s (nLt V L s) < 2 ^ 40 := by
            refine Nat.lt_of_lt_of_le (wN_lt (L := L) (nLt V L s) (Nat.le_refl _)) ?_
            rw [show (32 : Nat) = 2 ^ 5 from rfl, ← Nat.pow_mul]
            exact Nat.pow_le_pow_right (by decide) (by omega)
          have ev : nmM V s (nLt V L s) = nL (cv (wN V s (nLt V L s))) := by
            show _ = nL (cvF 8 (wN V s (nLt V L s)))
            rw [cvF_w (V := V) (L := L) (nLt V L s) (Nat.le_refl _) 8 y]
            exact nmM_w T.2.2.2.2 _ (Nat.le_refl _) y
          have ko : ktB (nmM V s (nLt V L s)) = own (nL (wN V s (nLt V L s))) := by
            rw [ev, Bool.eq_iff_iff, ktB_N hw, own_N hw]
          rw [if_pos y, if_neg (by decide), if_pos rfl]
          by_cases x : own (nL (wN V s (nLt V L s))) = true
          · rw [if_pos x]
            simp only [u191_199, u191_200, u191_201, u191_204, u191_205, u191_208, u191_209, u191_211, u191_214, u191_215, u191_218, u191_219, u191_222, u191_225, u191_228, u191_229, u191_232, u191_233, u191_236, u191_377, eq_self, q_nl0, q_nlI, q_nlR, not_false_eq_true, q_nz0, q_nz1, q_zv0, q_zv1, q_tl1, q_tl0, q_wif, q_swc, q_swn, List.cons_append, List.nil_append, if_true, if_false, e10, e01, Bool.false_eq_true, sh_195, hM_7, hM_6, hM_L, hM_s8, sb, f8, eq_false (show ¬ 8 < nLt V L s by omega), k_isKept, ko, x, Option.toList]
            rfl
          · have x' : own (nL (wN V s (nLt V L s))) = false := by simpa using x
            rw [if_neg x]
            simp only [u191_199, u191_200, u191_201, u191_204, u191_205, u191_208, u191_209, u191_211, u191_214, u191_215, u191_218, u191_219, u191_222, u191_225, u191_228, u191_229, u191_232, u191_233, u191_236, u191_377, eq_self, q_nl0, q_nlI, q_nlR, not_false_eq_true, q_nz0, q_nz1, q_zv0, q_zv1, q_tl1, q_tl0, q_wif, q_swc, q_swn, List.cons_append, List.nil_append, if_true, if_false, e10, e01, Bool.false_eq_true, sh_195, hM_7, hM_6, hM_L, hM_s8, sb, f8, eq_false (show ¬ 8 < nLt V L s by omega), k_isKept, ko, x', Option.toList]
            rfl
        · rw [if_neg y, if_neg (by decide), if_neg (by decide), if_neg (by decide), if_neg (by decide)]
          simp only [u191_199, u191_200, u191_201, u191_204, u191_205, u191_208, u191_209, u191_211, u191_214, u191_215, u191_218, u191_219, u191_222, u191_225, u191_228, u191_229, u191_232, u191_233, u191_236, u191_377, eq_self, q_nl0, q_nlI, q_nlR, not_false_eq_true, q_nz0, q_nz1, q_zv0, q_zv1, q_tl1, q_tl0, q_wif, q_swc, q_swn, List.cons_append, List.nil_append, if_true, if_false, e10, e01, Bool.false_eq_true, sh_195, hM_7, hM_6, hM_s8, sb, f8, eq_true (show 8 < nLt V L s by omega)]
          rfl
    · have zl' : isLt V L s = false := by simpa using zl
      by_cases zd : isDg V L s = true
      · -- a number
        have hn : s + nDg V L s ≤ L := rl_le isDg_L _ _ (by omega)
        have ek : tK V L s = if nDg V L s ≤ 4 then if isLt V L (s + nDg V L s) = true then 4 else 2 else 4 := by
          unfold tK
          rw [eK, if_neg zl, if_pos zd]
        have ee : tE V L s = s + nDg V L s := by
          unfold tE
          rw [eK, if_neg zl, if_pos zd]
        have f4 : ∀ j, j < 10000 → (nI j < 4) = (j < 4) := fun j hj => nI_ltB (b := 4) (by omega) (by decide)
        have sb : ∀ j, nI (s + j) - nI s = nI j := fun j => by
          rw [pk_sub (by omega)]
          congr 1
          omega
        have f8 : (4 < nI (nDg V L s)) = (4 < nDg V L s) := nI_ltB (a := 4) (by decide) (by omega)
        have stp : isDg V L (s + nDg V L s) = false := rl_stop isDg_L _ _ (by omega)
        refine ⟨hM h (nI s) (nI (s + nDg V L s)) (nI (mK V L s)) (nI (dM V s (nDg V L s))) w, FrK_hM, ⟨Tx_hM T, hs, rfl, ?_, rfl, fun q => ?_, fun q => ?_⟩, fun Q => ?_⟩
        · rw [ee]
          rfl
        · rw [ek] at q
          split at q
          · split at q <;> cases q
          · cases q
        · rw [ek] at q
          have y : nDg V L s ≤ 4 := Classical.byContradiction (fun y => by
            rw [if_neg y] at q
            cases q)
          show nI (dM V s (nDg V L s)) = _
          rw [dM_4 _ y]
        · rw [st0, hb, if_pos zL]
          simp only [u191_112, u191_113, u191_116, u191_239, u191_240, u191_243, u191_246, u191_247, u191_248, u191_251, u191_252, u191_253, u191_256, eq_self, q_nl0, q_nlI, q_nlR, not_false_eq_true, q_nz0, q_nz1, q_zv0, q_zv1, q_tl1, q_tl0, q_wif, q_swc, q_swn, List.cons_append, List.nil_append, if_true, if_false, e10, e01, Bool.false_eq_true, sh_195, kl, zl', kd, zd, hM_6, hM_s7, hM_s9, Option.toList]
          have q := q_loop (fun j => wq X (d + 2) 191 259 [some (.ref 195), some (.int (nI (sA V L s))), none] [] (hM h (nI s) (nI (s + j)) c (nI (dM V s j)) w) Q) (nDg V L s) (fun j hj => by
            have z := rl_lt (P := isDg V L) L s j hj
            have z' := of_decide_eq_true z
            have es : sA V L (s + j) = V (s + j) := if_pos z'.1
            have n1 : nI (s + j) + 1 = nI (s + (j + 1)) := nI_1 _
            have kdj := fun (h : HT) (Q : QT) => kd (s + j) h Q
            rw [es] at kdj
            have m10 : (10 : Int32) * nI (dM V s j) = nI (dM V s j) * 10 := by
              rw [show (10 : Int32) = nI 10 from rfl, pk_mul, pk_mul, Nat.mul_comm]
            show wq X (d + 2) 191 259 _ _ _ _ = _
            rw [u191_259]
            by_cases y : j < 4
            · have en : dM V s (j + 1) = dM V s j * 10 + (V (s + j) - 48) := if_pos y
              simp only [u191_260, u191_261, u191_264, u191_267, u191_270, u191_273, u191_274, u191_277, u191_278, u191_281, u191_282, u191_283, u191_286, u191_287, u191_289, u191_290, u191_293, u191_294, u191_295, u191_296, u191_299, u191_302, u191_303, u191_305, u191_306, u191_309, u191_310, u191_311, u191_314, u191_315, u191_316, u191_319, eq_self, q_nl0, q_nlI, q_nlR, not_false_eq_true, q_nz0, q_nz1, q_zv0, q_zv1, q_tl1, q_tl0, q_wif, q_swc, q_swn, List.cons_append, List.nil_append, if_true, if_false, e10, e01, Bool.false_eq_true, sh_195, hM_7, hM_6, hM_9, hM_s7, hM_s9, sb, f4 j (by omega), eq_true y, ks _ (s + j) (by omega), es, kdj, z, m10, nI_dg z'.2.1, n1, en, Option.toList]
            · have en : dM V s (j + 1) = dM V s j := if_neg y
              simp only [u191_260, u191_261, u191_264, u191_267, u191_270, u191_273, u191_274, u191_277, u191_278, u191_281, u191_282, u191_283, u191_286, u191_287, u191_289, u191_290, u191_293, u191_294, u191_295, u191_296, u191_299, u191_302, u191_303, u191_305, u191_306, u191_309, u191_310, u191_311, u191_314, u191_315, u191_316, u191_319, eq_self, q_nl0, q_nlI, q_nlR, not_false_eq_true, q_nz0, q_nz1, q_zv0, q_zv1, q_tl1, q_tl0, q_wif, q_swc, q_swn, List.cons_append, List.nil_append, if_true, if_false, e10, e01, Bool.false_eq_true, sh_195, hM_7, hM_6, hM_9, hM_s7, hM_s9, sb, f4 j (by omega), eq_false y, ks _ (s + j) (by omega), es, kdj, z, n1, en, Option.toList])
          refine Eq.trans q ?_
          show wq X (d + 2) 191 259 _ _ _ _ = _
          rw [u191_259]
          simp only [u191_260, u191_261, u191_264, u191_267, u191_270, eq_self, q_nl0, q_nlI, q_nlR, not_false_eq_true, q_nz0, q_nz1, q_zv0, q_zv1, q_tl1, q_tl0, q_wif, q_swc, q_swn, List.cons_append, List.nil_append, if_true, if_false, e10, e01, Bool.false_eq_true, sh_195, hM_7, ks _ (s + nDg V L s) (by omega), kd, stp, Option.toList]
          unfold mK
          rw [ek]
          by_cases y : nDg V L s ≤ 4
          · by_cases x : isLt V L (s + nDg V L s) = true
            · rw [if_pos y, if_pos x, if_neg (by decide), if_neg (by decide), if_neg (by decide), if_neg (by decide)]
              simp only [u191_322, u191_323, u191_324, u191_327, u191_328, u191_331, u191_332, u191_333, u191_336, u191_337, u191_338, u191_341, u191_344, u191_347, u191_350, u191_351, u191_354, u191_355, u191_358, u191_377, eq_self, q_nl0, q_nlI, q_nlR, not_false_eq_true, q_nz0, q_nz1, q_zv0, q_zv1, q_tl1, q_tl0, q_wif, q_swc, q_swn, List.cons_append, List.nil_append, if_true, if_false, e10, e01, Bool.false_eq_true, sh_195, hM_7, hM_6, hM_s8, sb, f8, eq_false (show ¬ 4 < nDg V L s by omega), ks _ (s + nDg V L s) (by omega), kl, x, Option.toList]
              rfl
            · have x' : isLt V L (s + nDg V L s) = false := by simpa using x
              rw [if_pos y, if_neg x, if_neg (by decide), if_neg (by decide), if_pos rfl]
              simp only [u191_322, u191_323, u191_324, u191_327, u191_328, u191_331, u191_332, u191_333, u191_336, u191_337, u191_338, u191_341, u191_344, u191_347, u191_350, u191_351, u191_354, u191_355, u191_358, u191_377, eq_self, q_nl0, q_nlI, q_nlR, not_false_eq_true, q_nz0, q_nz1, q_zv0, q_zv1, q_tl1, q_tl0, q_wif, q_swc, q_swn, List.cons_append, List.nil_append, if_true, if_false, e10, e01, Bool.false_eq_true, sh_195, hM_7, hM_6, hM_s8, sb, f8, eq_false (show ¬ 4 < nDg V L s by omega), ks _ (s + nDg V L s) (by omega), kl, x', Option.toList]
              rfl
          · rw [if_neg y, if_neg (by decide), if_neg (by decide), if_neg (by decide), if_neg (by decide)]
            simp only [u191_322, u191_323, u191_324, u191_327, u191_328, u191_331, u191_332, u191_333, u191_336, u191_337, u191_338, u191_341, u191_344, u191_347, u191_350, u191_351, u191_354, u191_355, u191_358, u191_377, eq_self, q_nl0, q_nlI, q_nlR, not_false_eq_true, q_nz0, q_nz1, q_zv0, q_zv1, q_tl1, q_tl0, q_wif, q_swc, q_swn, List.cons_append, List.nil_append, if_true, if_false, e10, e01, Bool.false_eq_true, sh_195, hM_7, hM_6, hM_s8, sb, f8, eq_true (show 4 < nDg V L s by omega)]
            rfl
      · have zd' : isDg V L s = false := by simpa using zd
        have ek : tK V L s = if isSg (V s) = true then 3 else 4 := by
          unfold tK
          rw [eK, if_neg zl, if_neg zd]
        have ee : tE V L s = s + 1 := by
          unfold tE
          rw [eK, if_neg zl, if_neg zd]
        have es : sA V L s = V s := if_pos zL
        have hv := T.2.2.2.2 s zL
        refine ⟨hM h (nI s) (nI (s + 1)) (nI (mK V L s)) e w, FrK_hM, ⟨Tx_hM T, hs, rfl, ?_, rfl, fun q => ?_, fun q => ?_⟩, fun Q => ?_⟩
        · rw [ee]
          rfl
        · rw [ek] at q
          split at q <;> cases q
        · rw [ek] at q
          split at q <;> cases q
        · rw [st0, hb, if_pos zL]
          have kls := fun (h : HT) (Q : QT) => kl s h Q
          have kds := fun (h : HT) (Q : QT) => kd s h Q
          rw [es] at kls kds ⊢
          unfold mK
          rw [ek]
          by_cases y : isSg (V s) = true
          · rw [if_pos y, if_neg (by decide), if_neg (by decide), if_neg (by decide), if_pos rfl]
            simp only [u191_112, u191_113, u191_116, u191_239, u191_240, u191_243, u191_361, u191_362, u191_363, u191_366, u191_369, u191_370, u191_373, u191_374, u191_377, eq_self, q_nl0, q_nlI, q_nlR, not_false_eq_true, q_nz0, q_nz1, q_zv0, q_zv1, q_tl1, q_tl0, q_wif, q_swc, q_swn, List.cons_append, List.nil_append, if_true, if_false, e10, e01, Bool.false_eq_true, sh_195, kls, zl', kds, zd', k_isSign hv, y, hM_s8, Option.toList]
            rfl
          · have y' : isSg (V s) = false := by simpa using y
            rw [if_neg y, if_neg (by decide), if_neg (by decide), if_neg (by decide), if_neg (by decide)]
            simp only [u191_112, u191_113, u191_116, u191_239, u191_240, u191_243, u191_361, u191_362, u191_363, u191_366, u191_369, u191_370, u191_373, u191_374, u191_377, eq_self, q_nl0, q_nlI, q_nlR, not_false_eq_true, q_nz0, q_nz1, q_zv0, q_zv1, q_tl1, q_tl0, q_wif, q_swc, q_swn, List.cons_append, List.nil_append, if_true, if_false, e10, e01, Bool.false_eq_true, sh_195, kls, zl', kds, zd', k_isSign hv, y', hM_s8, Option.toList]
            rfl
  · have hsL : s = L := by omega
    have eK : ∀ {α : Type} {x y : α}, (if L ≤ s then x else y) = x := if_pos (by omega)
    have ek : tK V L s = 0 := by
      unfold tK
      rw [eK]
    have ee : tE V L s = s := by
      unfold tE
      rw [eK]
    refine ⟨hM h (nI L) (nI L) 0 e w, FrK_hM, ⟨Tx_hM T, hs, ?_, ?_, ?_, fun q => ?_, fun q => ?_⟩, fun Q => ?_⟩
    · rw [hsL]
      rfl
    · rw [ee, hsL]
      rfl
    · unfold mK
      rw [ek]
      rfl
    · rw [ek] at q
      cases q
    · rw [ek] at q
      cases q
    · rw [st0, hb, if_neg zL]
      simp only [u191_88, u191_89, u191_90, u191_93, u191_94, u191_95, u191_98, u191_101, u191_102, u191_103, u191_106, u191_109, u191_377, eq_self, q_nl0, q_nlI, q_nlR, not_false_eq_true, q_nz0, q_nz1, q_zv0, q_zv1, q_tl1, q_tl0, q_wif, q_swc, q_swn, List.cons_append, List.nil_append, if_true, if_false, e10, e01, Bool.false_eq_true, sh_195, hM_s8, hM_s6, hM_s7, hM_3, T.2.1]
