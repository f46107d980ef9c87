/-! THE MODEL'S TOKENS -/
def Tx (h : HT) (L : Nat) (V : Nat → Nat) : Prop := Ptr h ∧ m_gI h 195 3 = nI L ∧ (∀ i, i < L → m_gI h 197 i = byI (V i)) ∧ L ≤ 1600 ∧ ∀ i, i < L → V i < 256
def hM (h : HT) (a b c e : Int32) (w : Int64) : HT := (fun x k => if x = 195 then (if k = 6 then a else if k = 7 then b else if k = 8 then c else if k = 9 then e else h.1 x k) else h.1 x k, fun x k => if x = 195 ∧ k = 10 then w else h.2.1 x k, h.2.2)
theorem hM_6 {h : HT} {a b c e : Int32} {w : Int64} : m_gI (hM h a b c e w) 195 6 = a := rfl
theorem hM_7 {h : HT} {a b c e : Int32} {w : Int64} : m_gI (hM h a b c e w) 195 7 = b := rfl
theorem hM_8 {h : HT} {a b c e : Int32} {w : Int64} : m_gI (hM h a b c e w) 195 8 = c := rfl
theorem hM_9 {h : HT} {a b c e : Int32} {w : Int64} : m_gI (hM h a b c e w) 195 9 = e := rfl
theorem hM_3 {h : HT} {a b c e : Int32} {w : Int64} : m_gI (hM h a b c e w) 195 3 = m_gI h 195 3 := rfl
theorem hM_L {h : HT} {a b c e : Int32} {w : Int64} : m_gL (hM h a b c e w) 195 10 = w := rfl
theorem hM_R {h : HT} {a b c e : Int32} {w : Int64} {x y : Nat} : m_gR (hM h a b c e w) x y = m_gR h x y := rfl
theorem hM_s {h : HT} {a b c e v : Int32} {w : Int64} (i : Nat) : m_sI (hM h a b c e w) 195 i v = (fun x k => if x = 195 then (if k = i then v else if k = 6 then a else if k = 7 then b else if k = 8 then c else if k = 9 then e else h.1 x k) else h.1 x k, fun x k => if x = 195 ∧ k = 10 then w else h.2.1 x k, h.2.2) := by
  apply hx
  · intro x k
    show (if x = 195 ∧ k = i then v else if x = 195 then _ else h.1 x k) = if x = 195 then _ else h.1 x k
    by_cases z : x = 195
    · by_cases y : k = i
      · rw [if_pos ⟨z, y⟩, if_pos z, if_pos y]
      · rw [if_neg (fun q => y q.2), if_pos z, if_pos z, if_neg y]
    · rw [if_neg (fun q => z q.1), if_neg z, if_neg z]
  · rfl
theorem hM_s6 {h : HT} {a b c e v : Int32} {w : Int64} : m_sI (hM h a b c e w) 195 6 v = hM h v b c e w := by
  rw [hM_s]
  apply hx
  · intro x k
    show (if x = 195 then _ else h.1 x k) = if x = 195 then _ else h.1 x k
    split
    · by_cases y : k = 6
      · rw [if_pos y, if_pos y]
      · rw [if_neg y, if_neg y, if_neg y]
    · rfl
  · rfl
theorem hM_s7 {h : HT} {a b c e v : Int32} {w : Int64} : m_sI (hM h a b c e w) 195 7 v = hM h a v c e w := by
  rw [hM_s]
  apply hx
  · intro x k
    show (if x = 195 then _ else h.1 x k) = if x = 195 then _ else h.1 x k
    split
    · by_cases y : k = 7
      · rw [if_pos y, if_neg (by omega), if_pos y]
      · rw [if_neg y]
        split
        · rfl
        · first
          | rfl
          | rw [if_neg y, if_neg y]
    · rfl
  · rfl
theorem hM_s8 {h : HT} {a b c e v : Int32} {w : Int64} : m_sI (hM h a b c e w) 195 8 v = hM h a b v e w := by
  rw [hM_s]
  apply hx
  · intro x k
    show (if x = 195 then _ else h.1 x k) = if x = 195 then _ else h.1 x k
    split
    · by_cases y : k = 8
      · rw [if_pos y, if_neg (by omega), if_neg (by omega), if_pos y]
      · rw [if_neg y]
        split
        · rfl
        · split
          · rfl
          · first
            | rfl
            | rw [if_neg y, if_neg y]
    · rfl
  · rfl
theorem hM_s9 {h : HT} {a b c e v : Int32} {w : Int64} : m_sI (hM h a b c e w) 195 9 v = hM h a b c v w := by
  rw [hM_s]
  apply hx
  · intro x k
    show (if x = 195 then _ else h.1 x k) = if x = 195 then _ else h.1 x k
    split
    · by_cases y : k = 9
      · rw [if_pos y, if_neg (by omega), if_neg (by omega), if_neg (by omega), if_pos y]
      · rw [if_neg y]
        split
        · rfl
        · split
          · rfl
          · split
            · rfl
            · first
              | rfl
              | rw [if_neg y, if_neg y]
    · rfl
  · rfl
theorem hM_sL {h : HT} {a b c e : Int32} {w v : Int64} : m_sL (hM h a b c e w) 195 10 v = hM h a b c e v := by
  unfold hM m_sL
  refine Prod.ext rfl (Prod.ext ?_ rfl)
  funext x k
  show (if x = 195 ∧ k = 10 then v else if x = 195 ∧ k = 10 then w else h.2.1 x k) = if x = 195 ∧ k = 10 then v else h.2.1 x k
  split
  · rfl
  · rfl
theorem hM_id {h : HT} : h = hM h (m_gI h 195 6) (m_gI h 195 7) (m_gI h 195 8) (m_gI h 195 9) (m_gL h 195 10) := by
  refine Prod.ext ?_ (Prod.ext ?_ rfl)
  · funext c k
    show h.1 c k = if c = 195 then (if k = 6 then h.1 195 6 else if k = 7 then h.1 195 7 else if k = 8 then h.1 195 8 else if k = 9 then h.1 195 9 else h.1 c k) else h.1 c k
    split
    · rename_i z
      subst z
      split
      · rename_i y
        rw [y]
      · split
        · rename_i y
          rw [y]
        · split
          · rename_i y
            rw [y]
          · split
            · rename_i y
              rw [y]
            · rfl
    · rfl
  · funext c k
    show h.2.1 c k = if c = 195 ∧ k = 10 then h.2.1 195 10 else h.2.1 c k
    split
    · rename_i z
      rw [z.1, z.2]
    · rfl
/-- the sign at p; 0 behind the text -/
def sA (V : Nat → Nat) (L p : Nat) : Nat := if p < L then V p else 0
theorem by_and : ∀ v, v < 256 → byI v &&& 255 = nI v := by decide +kernel
theorem Tx_hM {h : HT} {L : Nat} {V : Nat → Nat} {a b c e : Int32} {w : Int64} (T : Tx h L V) : Tx (hM h a b c e w) L V := T
theorem sA_lt {V : Nat → Nat} {L p : Nat} (H : ∀ i, i < L → V i < 256) : sA V L p < 256 := by
  unfold sA
  split
  · exact H p (by assumption)
  · decide
theorem k_sign {X : XT} {d p L : Nat} {h : HT} {Q : QT} {V : Nat → Nat} (T : Tx h L V) (hp : p < 2 ^ 31) : wq X d 192 0 [some (.ref 195), some (.int (nI p))] [] h Q = Q (some (.int (nI (sA V L p)))) h := by
  obtain ⟨P, T1, T2, T3, T4⟩ := T
  have e1 : (nI p < nI L) = (p < L) := nI_ltB hp (by omega)
  unfold sA
  by_cases z : p < L
  · have e3 : m_in (nI p) 1600 = true := q_in (by omega) (by decide)
    have e4 : (nI p).toNatClampNeg = p := q_cl (by omega)
    rw [if_pos z]
    simp only [u192_0, u192_1, u192_2, u192_5, u192_8, u192_9, u192_12, u192_13z, u192_13b, u192_14, u192_17, u192_18, u192_21, u192_22, eq_self, q_nl0, q_nlI, q_nlR, not_false_eq_true, q_nz0, q_nz1, q_zv0, q_zv1, q_tl1, q_tl0, q_wif, q_swc, q_swn, List.cons_append, List.nil_append, if_true, if_false, e10, e01, Bool.false_eq_true, sh_195, sh_197, T1, e1, eq_true z, p_195_1 P, e3, e4, T2 p z, by_and _ (T4 p z)]
  · rw [if_neg z]
    simp only [u192_0, u192_1, u192_2, u192_5, u192_8, u192_9, u192_12, u192_13z, u192_13b, u192_14, u192_17, u192_18, u192_21, u192_22, eq_self, q_nl0, q_nlI, q_nlR, not_false_eq_true, q_nz0, q_nz1, q_zv0, q_zv1, q_tl1, q_tl0, q_wif, q_swc, q_swn, List.cons_append, List.nil_append, if_true, if_false, e10, e01, Bool.false_eq_true, sh_195, T1, e1, eq_false z]
    rfl
theorem k_letS {X : XT} {d p L : Nat} {h : HT} {Q : QT} {V : Nat → Nat} (H : ∀ i, i < L → V i < 256) : wq X d 193 0 [some (.int (nI (sA V L p)))] [] h Q = Q (some (.int (if isLt V L p = true then 1 else 0))) h := by
  have nb0 : q_nb .boolean 0 = true := by decide
  have nb1 : q_nb .boolean 1 = true := by decide
  have hv := sA_lt (p := p) H
  have e1 : (nI (sA V L p) < 97) = (sA V L p < 97) := nI_ltB (b := 97) (by omega) (by decide)
  have e2 : (122 < nI (sA V L p)) = (122 < sA V L p) := nI_ltB (a := 122) (by decide) (by omega)
  by_cases z : p < L
  · have es : sA V L p = V p := if_pos z
    by_cases y : 97 ≤ V p ∧ V p ≤ 122
    · rw [if_pos (show isLt V L p = true from decide_eq_true ⟨z, y⟩)]
      simp only [u193_0, u193_1, u193_3, u193_6, u193_7, u193_9, u193_12, u193_13, u193_16, u193_17, eq_self, q_nl0, q_nlI, q_nlR, not_false_eq_true, q_nz0, q_nz1, q_zv0, q_zv1, q_tl1, q_tl0, q_wif, q_swc, q_swn, List.cons_append, List.nil_append, if_true, if_false, e10, e01, Bool.false_eq_true, e1, e2, nb1, nb0, eq_false (show ¬ sA V L p < 97 by omega), eq_false (show ¬ 122 < sA V L p by omega)]
    · rw [if_neg (show ¬ isLt V L p = true from fun q => y (of_decide_eq_true q).2)]
      by_cases x : sA V L p < 97
      · simp only [u193_0, u193_1, u193_3, u193_6, u193_7, u193_9, u193_12, u193_13, u193_16, u193_17, eq_self, q_nl0, q_nlI, q_nlR, not_false_eq_true, q_nz0, q_nz1, q_zv0, q_zv1, q_tl1, q_tl0, q_wif, q_swc, q_swn, List.cons_append, List.nil_append, if_true, if_false, e10, e01, Bool.false_eq_true, e1, e2, nb1, nb0, eq_true x]
      · simp only [u193_0, u193_1, u193_3, u193_6, u193_7, u193_9, u193_12, u193_13, u193_16, u193_17, eq_self, q_nl0, q_nlI, q_nlR, not_false_eq_true, q_nz0, q_nz1, q_zv0, q_zv1, q_tl1, q_tl0, q_wif, q_swc, q_swn, List.cons_append, List.nil_append, if_true, if_false, e10, e01, Bool.false_eq_true, e1, e2, nb1, nb0, eq_false x, eq_true (show 122 < sA V L p by omega)]
  · have es : sA V L p = 0 := if_neg z
    rw [if_neg (show ¬ isLt V L p = true from fun q => z (of_decide_eq_true q).1)]
    simp only [u193_0, u193_1, u193_3, u193_6, u193_7, u193_9, u193_12, u193_13, u193_16, u193_17, eq_self, q_nl0, q_nlI, q_nlR, not_false_eq_true, q_nz0, q_nz1, q_zv0, q_zv1, q_tl1, q_tl0, q_wif, q_swc, q_swn, List.cons_append, List.nil_append, if_true, if_false, e10, e01, Bool.false_eq_true, e1, nb0, eq_true (show sA V L p < 97 by omega)]
theorem k_digS {X : XT} {d p L : Nat} {h : HT} {Q : QT} {V : Nat → Nat} (H : ∀ i, i < L → V i < 256) : wq X d 195 0 [some (.int (nI (sA V L p)))] [] h Q = Q (some (.int (if isDg V L p = true then 1 else 0))) h := by
  have nb0 : q_nb .boolean 0 = true := by decide
  have nb1 : q_nb .boolean 1 = true := by decide
  have hv := sA_lt (p := p) H
  have e1 : (nI (sA V L p) < 48) = (sA V L p < 48) := nI_ltB (b := 48) (by omega) (by decide)
  have e2 : (57 < nI (sA V L p)) = (57 < sA V L p) := nI_ltB (a := 57) (by decide) (by omega)
  by_cases z : p < L
  · have es : sA V L p = V p := if_pos z
    by_cases y : 48 ≤ V p ∧ V p ≤ 57
    · rw [if_pos (show isDg V L p = true from decide_eq_true ⟨z, y⟩)]
      simp only [u195_0, u195_1, u195_3, u195_6, u195_7, u195_9, u195_12, u195_13, u195_16, u195_17, eq_self, q_nl0, q_nlI, q_nlR, not_false_eq_true, q_nz0, q_nz1, q_zv0, q_zv1, q_tl1, q_tl0, q_wif, q_swc, q_swn, List.cons_append, List.nil_append, if_true, if_false, e10, e01, Bool.false_eq_true, e1, e2, nb1, nb0, eq_false (show ¬ sA V L p < 48 by omega), eq_false (show ¬ 57 < sA V L p by omega)]
    · rw [if_neg (show ¬ isDg V L p = true from fun q => y (of_decide_eq_true q).2)]
      by_cases x : sA V L p < 48
      · simp only [u195_0, u195_1, u195_3, u195_6, u195_7, u195_9, u195_12, u195_13, u195_16, u195_17, eq_self, q_nl0, q_nlI, q_nlR, not_false_eq_true, q_nz0, q_nz1, q_zv0, q_zv1, q_tl1, q_tl0, q_wif, q_swc, q_swn, List.cons_append, List.nil_append, if_true, if_false, e10, e01, Bool.false_eq_true, e1, e2, nb1, nb0, eq_true x]
      · simp only [u195_0, u195_1, u195_3, u195_6, u195_7, u195_9, u195_12, u195_13, u195_16, u195_17, eq_self, q_nl0, q_nlI, q_nlR, not_false_eq_true, q_nz0, q_nz1, q_zv0, q_zv1, q_tl1, q_tl0, q_wif, q_swc, q_swn, List.cons_append, List.nil_append, if_true, if_false, e10, e01, Bool.false_eq_true, e1, e2, nb1, nb0, eq_false x, eq_true (show 57 < sA V L p by omega)]
  · have es : sA V L p = 0 := if_neg z
    rw [if_neg (show ¬ isDg V L p = true from fun q => z (of_decide_eq_true q).1)]
    simp only [u195_0, u195_1, u195_3, u195_6, u195_7, u195_9, u195_12, u195_13, u195_16, u195_17, eq_self, q_nl0, q_nlI, q_nlR, not_false_eq_true, q_nz0, q_nz1, q_zv0, q_zv1, q_tl1, q_tl0, q_wif, q_swc, q_swn, List.cons_append, List.nil_append, if_true, if_false, e10, e01, Bool.false_eq_true, e1, nb0, eq_true (show sA V L p < 48 by omega)]
/-- the model's sort of token -/
def mK (V : Nat → Nat) (L s : Nat) : Nat := if tK V L s = 0 then 0 else if tK V L s = 1 then (if own (nL (wN V s (nLt V L s))) = true then 3 else 2) else if tK V L s = 2 then 4 else if tK V L s = 3 then 5 else 1
def TkK (h : HT) (L : Nat) (V : Nat → Nat) (s : Nat) : Prop := Tx h L V ∧ s ≤ L ∧ m_gI h 195 6 = nI s ∧ m_gI h 195 7 = nI (tE V L s) ∧ m_gI h 195 8 = nI (mK V L s) ∧ (tK V L s = 1 → m_gL h 195 10 = nL (cv (wN V s (nLt V L s)))) ∧ (tK V L s = 2 → m_gI h 195 9 = nI (dN V s (nDg V L s)))
def FrK (h g : HT) : Prop := (∀ c k, m_gR g c k = m_gR h c k) ∧ (∀ c k, c ≠ 195 ∨ k < 6 ∨ 9 < k → m_gI g c k = m_gI h c k) ∧ ∀ c k, c ≠ 195 ∨ k ≠ 10 → m_gL g c k = m_gL h c k
theorem FrK_hM {h : HT} {a b c e : Int32} {w : Int64} : FrK h (hM h a b c e w) := by
  refine ⟨fun _ _ => rfl, fun x k z => ?_, fun x k z => ?_⟩
  · show (if x = 195 then _ else h.1 x k) = h.1 x k
    split
    · rw [if_neg (by omega), if_neg (by omega), if_neg (by omega), if_neg (by omega)]
    · rfl
  · show (if x = 195 ∧ k = 10 then _ else h.2.1 x k) = h.2.1 x k
    rw [if_neg (by omega)]
def nmM (V : Nat → Nat) (s : Nat) : Nat → Int64
  | 0 => 0
  | j + 1 => nmM V s j <<< ((8 : Int32).toInt64 &&& 63) ||| (nI (V (s + j))).toInt64
def dM (V : Nat → Nat) (s : Nat) : Nat → Nat
  | 0 => 0
  | j + 1 => if j < 4 then dM V s j * 10 + (V (s + j) - 48) else dM V s j
theorem dM_4 {V : Nat → Nat} {s : Nat} : ∀ j, j ≤ 4 → dM V s j = dN V s j
  | 0, _ => rfl
  | j + 1, h => by
    show (if j < 4 then dM V s j * 10 + (V (s + j) - 48) else dM V s j) = dN V s j * 10 + (V (s + j) - 48)
    rw [if_pos (by omega), dM_4 j (by omega)]
theorem nL_or {w v : Nat} (hw : w < 2 ^ 56) (hv : v < 256) : nL w <<< ((8 : Int32).toInt64 &&& 63) ||| nL v = nL (w * 256 + v) := by
  apply Int64.toBitVec_inj.mp
  have q : (nL w <<< ((8 : Int32).toInt64 &&& 63)).toBitVec = BitVec.ofNat 64 w <<< 8 := rfl
  show (nL w <<< ((8 : Int32).toInt64 &&& 63)).toBitVec ||| BitVec.ofNat 64 v = BitVec.ofNat 64 (w * 256 + v)
  rw [q]
  apply BitVec.eq_of_toNat_eq
  rw [BitVec.toNat_or, BitVec.toNat_shiftLeft, BitVec.toNat_ofNat, BitVec.toNat_ofNat, BitVec.toNat_ofNat, Nat.mod_eq_of_lt (a := w) (by omega), Nat.mod_eq_of_lt (a := v) (by omega), Nat.mod_eq_of_lt (a := w * 256 + v) (by omega), Nat.shiftLeft_eq, Nat.mod_eq_of_lt (a := w * 2 ^ 8) (by omega)]
  have := Nat.shiftLeft_add_eq_or_of_lt (i := 8) (b := v) (by omega) w
  rw [Nat.shiftLeft_eq] at this
  rw [← this]
theorem wN_lt {V : Nat → Nat} {L s : Nat} : ∀ j, j ≤ nLt V L s → wN V s j < 32 ^ j
  | 0, _ => Nat.lt_succ_self 0
  | j + 1, h => by
    have := wN_lt (V := V) (L := L) (s := s) j (by omega)
    have z := of_decide_eq_true (rl_lt (P := isLt V L) L s j (show j < nLt V L s by omega))
    show wN V s j * 32 + (V (s + j) - 96) < 32 ^ (j + 1)
    rw [Nat.pow_succ]
    omega
theorem cvF_w {V : Nat → Nat} {L s : Nat} : ∀ j, j ≤ nLt V L s → ∀ f, j ≤ f → cvF f (wN V s j) = cvF j (wN V s j)
  | 0, _, f, _ => by
    cases f with
    | zero => rfl
    | succ f =>
      show (if 0 = 0 then 0 else _) = 0
      rfl
  | j + 1, h, f, hf => by
    obtain ⟨f, rfl⟩ : ∃ g, f = g + 1 := ⟨f - 1, by omega⟩
    have z := of_decide_eq_true (rl_lt (P := isLt V L) L s j (show j < nLt V L s by omega))
    have ih := cvF_w (V := V) (L := L) (s := s) j (by omega) f (by omega)
    have e : wN V s (j + 1) = wN V s j * 32 + (V (s + j) - 96) := rfl
    have e1 : wN V s (j + 1) / 32 = wN V s j := by omega
    show (if wN V s (j + 1) = 0 then 0 else cvF f (wN V s (j + 1) / 32) * 256 + (wN V s (j + 1) % 32 + 96)) = if wN V s (j + 1) = 0 then 0 else cvF j (wN V s (j + 1) / 32) * 256 + (wN V s (j + 1) % 32 + 96)
    rw [e1, ih]
theorem nmM_w {V : Nat → Nat} {L s : Nat} (hv : ∀ i, i < L → V i < 256) : ∀ j, j ≤ nLt V L s → j ≤ 8 → nmM V s j = nL (cvF j (wN V s j))
  | 0, _, _ => rfl
  | j + 1, h, h8 => by
    have z := of_decide_eq_true (rl_lt (P := isLt V L) L s j (show j < nLt V L s by omega))
    have ih := nmM_w (V := V) (L := L) (s := s) hv j (by omega) (by omega)
    have e : wN V s (j + 1) = wN V s j * 32 + (V (s + j) - 96) := rfl
    have e1 : wN V s (j + 1) / 32 = wN V s j := by omega
    have e2 : wN V s (j + 1) % 32 + 96 = V (s + j) := by omega
    have hvj := hv _ z.1
    have l1 : cvF j (wN V s j) < 2 ^ 56 := by
      refine Nat.lt_of_lt_of_le (cvF_lt j _) ?_
      rw [show (256 : Nat) = 2 ^ 8 from rfl, ← Nat.pow_mul]
      exact Nat.pow_le_pow_right (by decide) (by omega)
    show nmM V s j <<< ((8 : Int32).toInt64 &&& 63) ||| (nI (V (s + j))).toInt64 = nL (if wN V s (j + 1) = 0 then 0 else cvF j (wN V s (j + 1) / 32) * 256 + (wN V s (j + 1) % 32 + 96))
    rw [ih, nI_64 (by omega), nL_or l1 hvj, if_neg (by omega), e1, e2]
