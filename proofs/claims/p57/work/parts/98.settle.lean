/-! THE CLASS'S TABLES, MADE OF WHATEVER ITS DRAFT HOLDS -/
def hZ (h : HT) (C : Nat) (a b e : Nat → Int32) : HT := (fun c k => if c = C + 3 then a k else if c = C + 13 then b k else if c = C + 14 then e k else h.1 c k, h.2)
theorem hZ_id {h : HT} {C : Nat} : hZ h C (m_gI h (C + 3)) (m_gI h (C + 13)) (m_gI h (C + 14)) = h := by
  refine Prod.ext (funext fun c => funext fun k => ?_) rfl
  show (if c = C + 3 then m_gI h (C + 3) k else if c = C + 13 then m_gI h (C + 13) k else if c = C + 14 then m_gI h (C + 14) k else h.1 c k) = h.1 c k
  by_cases x : c = C + 3
  · rw [if_pos x, x]; rfl
  · rw [if_neg x]
    by_cases y : c = C + 13
    · rw [if_pos y, y]; rfl
    · rw [if_neg y]
      by_cases z : c = C + 14
      · rw [if_pos z, z]; rfl
      · rw [if_neg z]
theorem gI_hZ3 {h : HT} {C k : Nat} {a b e : Nat → Int32} : m_gI (hZ h C a b e) (C + 3) k = a k := if_pos rfl
theorem gI_hZ13 {h : HT} {C k : Nat} {a b e : Nat → Int32} : m_gI (hZ h C a b e) (C + 13) k = b k := (if_neg (by omega)).trans (if_pos rfl)
theorem gI_hZ14 {h : HT} {C k : Nat} {a b e : Nat → Int32} : m_gI (hZ h C a b e) (C + 14) k = e k := (if_neg (by omega)).trans ((if_neg (by omega)).trans (if_pos rfl))
theorem gI_hZo {h : HT} {C c k : Nat} {a b e : Nat → Int32} (n : c ≠ C + 3 ∧ c ≠ C + 13 ∧ c ≠ C + 14) : m_gI (hZ h C a b e) c k = m_gI h c k := (if_neg n.1).trans ((if_neg n.2.1).trans (if_neg n.2.2))
theorem sI_hZ3 {h : HT} {C k : Nat} {a b e : Nat → Int32} {v : Int32} : m_sI (hZ h C a b e) (C + 3) k v = hZ h C (up a k v) b e := by
  refine Prod.ext (funext fun c => funext fun j => ?_) rfl
  show (if c = C + 3 ∧ j = k then v else if c = C + 3 then a j else if c = C + 13 then b j else if c = C + 14 then e j else h.1 c j) = if c = C + 3 then (if j = k then v else a j) else if c = C + 13 then b j else if c = C + 14 then e j else h.1 c j
  by_cases x : c = C + 3
  · rw [if_pos x, if_pos x]
    by_cases y : j = k
    · rw [if_pos ⟨x, y⟩, if_pos y]
    · rw [if_neg (fun q => y q.2), if_neg y]
  · rw [if_neg (fun q => x q.1), if_neg x, if_neg x]
theorem sI_hZ13 {h : HT} {C k : Nat} {a b e : Nat → Int32} {v : Int32} : m_sI (hZ h C a b e) (C + 13) k v = hZ h C a (up b k v) e := by
  refine Prod.ext (funext fun c => funext fun j => ?_) rfl
  show (if c = C + 13 ∧ j = k then v else if c = C + 3 then a j else if c = C + 13 then b j else if c = C + 14 then e j else h.1 c j) = if c = C + 3 then a j else if c = C + 13 then (if j = k then v else b j) else if c = C + 14 then e j else h.1 c j
  by_cases w : c = C + 3
  · rw [if_neg (by omega), if_pos w, if_pos w]
  · by_cases x : c = C + 13
    · rw [if_neg w, if_pos x, if_neg w, if_pos x]
      by_cases y : j = k
      · rw [if_pos ⟨x, y⟩, if_pos y]
      · rw [if_neg (fun q => y q.2), if_neg y]
    · rw [if_neg (fun q => x q.1), if_neg w, if_neg w, if_neg x, if_neg x]
theorem sI_hZ14 {h : HT} {C k : Nat} {a b e : Nat → Int32} {v : Int32} : m_sI (hZ h C a b e) (C + 14) k v = hZ h C a b (up e k v) := by
  refine Prod.ext (funext fun c => funext fun j => ?_) rfl
  show (if c = C + 14 ∧ j = k then v else if c = C + 3 then a j else if c = C + 13 then b j else if c = C + 14 then e j else h.1 c j) = if c = C + 3 then a j else if c = C + 13 then b j else if c = C + 14 then (if j = k then v else e j) else h.1 c j
  by_cases w : c = C + 3
  · rw [if_neg (by omega), if_pos w, if_pos w]
  · by_cases x : c = C + 13
    · rw [if_neg (by omega), if_neg w, if_pos x, if_neg w, if_pos x]
    · by_cases u : c = C + 14
      · rw [if_neg w, if_neg x, if_pos u, if_neg w, if_neg x, if_pos u]
        by_cases y : j = k
        · rw [if_pos ⟨u, y⟩, if_pos y]
        · rw [if_neg (fun q => y q.2), if_neg y]
      · rw [if_neg (fun q => u q.1), if_neg w, if_neg x, if_neg u, if_neg w, if_neg x, if_neg u]
theorem cl_lt {x : Int32} {i : Nat} (hi : i < 2 ^ 31) : (nI i < x) = (i < x.toNatClampNeg) := by
  have e : (nI i).toInt = i := Int32.toInt_ofNat_of_lt hi
  rw [Int32.lt_iff_toInt_lt, e]
  show ((i : Int) < x.toInt) = (i < x.toInt.toNat)
  exact propext (by omega)
theorem and_1 (x : Int32) : x &&& 1 = 0 ∨ x &&& 1 = 1 := by
  have h : ∀ y : BitVec 32, y &&& 1#32 = 0#32 ∨ y &&& 1#32 = 1#32 := by
    intro y
    have e : y &&& 1#32 = BitVec.ofNat 32 (y.toNat % 2) := by
      apply BitVec.eq_of_toNat_eq
      rw [BitVec.toNat_and, BitVec.toNat_ofNat]
      show y.toNat &&& (1 % 2 ^ 32) = y.toNat % 2 % 2 ^ 32
      rw [show (1 % 2 ^ 32) = 2 ^ 1 - 1 from rfl, Nat.and_two_pow_sub_one_eq_mod]
      omega
    rcases Nat.mod_two_eq_zero_or_one y.toNat with z | z
    · left
      rw [e, z]
    · right
      rw [e, z]
  rcases h x.toBitVec with z | z
  · left
    exact Int32.toBitVec_inj.mp z
  · right
    exact Int32.toBitVec_inj.mp z
/-- who has a craft, of the first i; a table of skills of any kind -/
def zM (sk : Nat → Int32) (c : Nat) : Nat → Nat
  | 0 => 0
  | i + 1 => if (sk i >>> (nI c &&& 31)) &&& 1 = 1 then zM sk c i ||| 2 ^ i else zM sk c i
theorem zM_lt {sk : Nat → Int32} {c : Nat} : ∀ i, zM sk c i < 2 ^ i
  | 0 => Nat.lt_succ_self 0
  | i + 1 => by
    have := zM_lt (sk := sk) (c := c) i
    have h2 : zM sk c i < 2 ^ (i + 1) := Nat.lt_of_lt_of_le this (Nat.pow_le_pow_right (by decide) (by omega))
    unfold zM
    split
    · exact orb h2 (by omega)
    · exact h2
def zS (nd : Nat → Int32) (mm : Nat → Nat) (o : Nat) : Nat → Nat
  | 0 => 0
  | c + 1 => if nI (pcN (mm c &&& (127 ^^^ o))) < nd c then zS nd mm o c ||| 2 ^ c else zS nd mm o c
def zL (hm : Nat → Int32) (s : Nat) : Nat → Int32
  | 0 => 0
  | i + 1 => if s.testBit i = true then zL hm s i + hm i else zL hm s i
section SETTLE
variable {X : XT} {d C : Nat} {h : HT} {Q : QT}
theorem z_hands {c n m : Nat} (hp : Ptr h) (hU : isT C) (hc : c < 4) (hn : n < 128) (hm : m < 128) (e : m_gI h (C + 3) c = nI m) : wq X (d + 1) 73 0 [some (.ref C), some (.int (nI c)), some (.int (nI n))] [] h Q = Q (some (.int (nI (pcN (m &&& (127 ^^^ n)))))) h := by
  have e1 : (nI c < 0) = False := eq_false (nI_pos (by omega))
  have e2 : (nI c < 4) = True := eq_true (nI_lt (b := 4) (by omega) (by omega))
  have e3 : m_in (nI c) 4 = true := q_in (by omega) (by decide)
  have e4 : m &&& (127 ^^^ n) < 128 := Nat.lt_of_le_of_lt Nat.and_le_left hm
  simp only [u73_0, u73_1, u73_4, u73_5, u73_6, u73_9, u73_10, u73_13, u73_14, u73_15, u73_16, u73_17, u73_18, u73_19, u73_22, u73_25, u73_26, eq_self, q_nl0, q_nlI, q_nlR, not_false_eq_true, q_nz0, q_nz1, q_zv0, q_zv1, q_tl1, q_tl0, q_wif, q_swc, q_swn, List.cons_append, List.nil_append, if_true, if_false, e10, e01, Bool.false_eq_true, shT_0 hU, shT_3 hU, pT_3 hU hp, e1, e2, e3, q_cl (show c < 2 ^ 31 by omega), e, nI_not _ hm _ hn, c_bitCount e4, Option.toList]
theorem z_sum {X : XT} {s R : Nat} (hR : m_sh (KS X) R = (20, 4)) (hs : s < 16) : wq X d 75 0 [some (.ref R), some (.int (nI s)), none, none] [] h Q = Q (some (.int (zL (m_gI h R) s 4))) h := by
  have e20 : (Nat.ble 20 (m_sh (KS X) R).1 && Nat.blt (m_sh (KS X) R).1 99) = true := by rw [hR]; rfl
  have st : wq X d 75 0 [some (.ref R), some (.int (nI s)), none, none] [] h Q = wq X d 75 4 [some (.ref R), some (.int (nI s)), some (.int (zL (m_gI h R) s 0)), some (.int (nI 0))] [] h Q := by
    rw [u75_0, u75_1, u75_2, u75_3]
    rfl
  rw [st, q_loop (fun i => wq X d 75 4 [some (.ref R), some (.int (nI s)), some (.int (zL (m_gI h R) s i)), some (.int (nI i))] [] h Q) 4 (fun i hi => by
    have c1 : (nI i < Int32.ofNat 4) = True := eq_true (nI_lt (b := 4) hi (by decide))
    have c2 : m_in (nI i) 4 = true := q_in hi (by decide)
    have c3 := nI_bit4 s (by omega) i (by omega)
    show wq X d 75 4 _ [] h Q = wq X d 75 4 [some (.ref R), some (.int (nI s)), some (.int (zL (m_gI h R) s (i + 1))), some (.int (nI (i + 1)))] [] h Q
    generalize hz : wq X d 75 4 [some (.ref R), some (.int (nI s)), some (.int (zL (m_gI h R) s (i + 1))), some (.int (nI (i + 1)))] [] h Q = Z
    unfold zL at hz
    by_cases z : s.testBit i = true
    · rw [if_pos z] at hz
      rw [u75_4]
      simp only [u75_0, u75_1, u75_2, u75_3, u75_5, u75_7, u75_10, u75_11, u75_12, u75_13, u75_14, u75_15, u75_16, u75_19, u75_20, u75_21, u75_22, u75_23, u75_24, u75_25, u75_28, u75_31, u75_32, u75_6 (r0 := R) e20, eq_self, q_nl0, q_nlI, q_nlR, not_false_eq_true, q_nz0, q_nz1, q_zv0, q_zv1, q_tl1, q_tl0, q_wif, q_swc, q_swn, List.cons_append, List.nil_append, if_true, if_false, e10, e01, Bool.false_eq_true, hR, c1, c2, q_cl (show i < 2 ^ 31 by omega), c3, z, nI_1]
      exact hz
    · rw [if_neg z] at hz
      rw [u75_4]
      simp only [u75_0, u75_1, u75_2, u75_3, u75_5, u75_7, u75_10, u75_11, u75_12, u75_13, u75_14, u75_15, u75_16, u75_19, u75_20, u75_21, u75_22, u75_23, u75_24, u75_25, u75_28, u75_31, u75_32, u75_6 (r0 := R) e20, eq_self, q_nl0, q_nlI, q_nlR, not_false_eq_true, q_nz0, q_nz1, q_zv0, q_zv1, q_tl1, q_tl0, q_wif, q_swc, q_swn, List.cons_append, List.nil_append, if_true, if_false, e10, e01, Bool.false_eq_true, hR, c1, c2, c3, z, nI_1]
      exact hz)]
  have c1 : (nI 4 < Int32.ofNat 4) = False := eq_false (by decide)
  rw [u75_4]
  generalize zL (m_gI h R) s 4 = v
  simp only [u75_0, u75_1, u75_2, u75_3, u75_5, u75_7, u75_10, u75_11, u75_12, u75_13, u75_14, u75_15, u75_16, u75_19, u75_20, u75_21, u75_22, u75_23, u75_24, u75_25, u75_28, u75_31, u75_32, u75_6 (r0 := R) e20, eq_self, q_nl0, q_nlI, q_nlR, not_false_eq_true, q_nz0, q_nz1, q_zv0, q_zv1, q_tl1, q_tl0, q_wif, q_swc, q_swn, List.cons_append, List.nil_append, if_true, if_false, e10, e01, Bool.false_eq_true, hR, c1]
def zA (h : HT) (C : Nat) (a : Nat → Int32) (c : Nat) : Nat → Int32 := fun k => if k < c then nI (zM (m_gI h (C + 4)) k (min 7 (m_gI h C 4).toNatClampNeg)) else a k
theorem z_in1 {c : Nat} {a b e : Nat → Int32} (hp : Ptr h) (hU : isT C) (hc : c < 4) : ∀ k i, i + k = min 7 (m_gI h C 4).toNatClampNeg → wq X d 72 16 [some (.ref C), some (.int (nI c)), some (.int (nI i))] [] (hZ h C (up a c (nI (zM (m_gI h (C + 4)) c i))) b e) Q = wq X d 72 57 [some (.ref C), some (.int (nI c)), some (.int (nI (i + k)))] [] (hZ h C (up a c (nI (zM (m_gI h (C + 4)) c (i + k)))) b e) Q := by
  have hp' : ∀ a b e, Ptr (hZ h C a b e) := fun a b e => hp
  have m4 : m_in (nI c) 4 = true := q_in hc (by decide)
  have cc : (nI c).toNatClampNeg = c := q_cl (by omega)
  have g4 : ∀ a b e, m_gI (hZ h C a b e) C 4 = m_gI h C 4 := fun a b e => gI_hZo (by omega)
  have gs : ∀ a b e i, m_gI (hZ h C a b e) (C + 4) i = m_gI h (C + 4) i := fun a b e i => gI_hZo (by omega)
  intro k
  induction k with
  | zero =>
    intro i hi
    have hi : i = min 7 (m_gI h C 4).toNatClampNeg := hi
    have i8 : i < 8 := by omega
    have c1 := cl_lt (x := m_gI h C 4) (i := i) (by omega)
    have c2 : (nI i < 7) = (i < 7) := nI_ltB (b := 7) (by omega) (by decide)
    by_cases z : i < (m_gI h C 4).toNatClampNeg
    · have y : ¬ i < 7 := by omega
      simp only [u72_16, u72_17, u72_18, u72_21, u72_24, u72_25, u72_27, eq_self, q_nl0, q_nlI, q_nlR, not_false_eq_true, q_nz0, q_nz1, q_zv0, q_zv1, q_tl1, q_tl0, q_wif, q_swc, q_swn, List.cons_append, List.nil_append, if_true, if_false, e10, e01, Bool.false_eq_true, shT_0 hU, g4, c1, c2, z, y, Nat.add_zero]
    · simp only [u72_16, u72_17, u72_18, u72_21, u72_24, u72_25, u72_27, eq_self, q_nl0, q_nlI, q_nlR, not_false_eq_true, q_nz0, q_nz1, q_zv0, q_zv1, q_tl1, q_tl0, q_wif, q_swc, q_swn, List.cons_append, List.nil_append, if_true, if_false, e10, e01, Bool.false_eq_true, shT_0 hU, g4, c1, c2, z, Nat.add_zero]
  | succ k ih =>
    intro i hi
    have z : i < (m_gI h C 4).toNatClampNeg := by omega
    have y : i < 7 := by omega
    have c1 := cl_lt (x := m_gI h C 4) (i := i) (by omega)
    have c2 : (nI i < 7) = (i < 7) := nI_ltB (b := 7) (by omega) (by decide)
    have m7 : m_in (nI i) 7 = true := q_in y (by decide)
    have ci : (nI i).toNatClampNeg = i := q_cl (by omega)
    rw [show i + (k + 1) = i + 1 + k by omega, ← ih (i + 1) (by omega), u72_16]
    generalize hz : wq X d 72 16 [some (.ref C), some (.int (nI c)), some (.int (nI (i + 1)))] [] (hZ h C (up a c (nI (zM (m_gI h (C + 4)) c (i + 1)))) b e) Q = Z
    have ev : nI (zM (m_gI h (C + 4)) c i) ||| ((m_gI h (C + 4) i >>> (nI c &&& 31)) &&& 1) <<< (nI i &&& 31) = nI (zM (m_gI h (C + 4)) c (i + 1)) := by
      show _ = nI (if (m_gI h (C + 4) i >>> (nI c &&& 31)) &&& 1 = 1 then _ else _)
      rcases and_1 (m_gI h (C + 4) i >>> (nI c &&& 31)) with w | w
      · rw [w, if_neg (by decide), show (0 : Int32) <<< (nI i &&& 31) = nI 0 from by
          have : ∀ i, i < 7 → (0 : Int32) <<< (nI i &&& 31) = nI 0 := by decide +kernel
          exact this i y, nI_or, Nat.or_zero]
      · rw [w, if_pos rfl, nI_sh i (by omega), nI_or]
    simp only [u72_17, u72_18, u72_21, u72_24, u72_25, u72_27, u72_30, u72_31, u72_34, u72_35, u72_36, u72_37, u72_38, u72_41, u72_42, u72_43, u72_44, u72_45, u72_46, u72_47, u72_48, u72_49, u72_50, u72_51, u72_54, eq_self, q_nl0, q_nlI, q_nlR, not_false_eq_true, q_nz0, q_nz1, q_zv0, q_zv1, q_tl1, q_tl0, q_wif, q_swc, q_swn, List.cons_append, List.nil_append, if_true, if_false, e10, e01, Bool.false_eq_true, shT_0 hU, shT_3 hU, shT_4 hU, pT_3 hU (hp' _ _ _), pT_5 hU (hp' _ _ _), g4, gs, gI_hZ3, sI_hZ3, up_s, up_up, c1, c2, z, y, m4, cc, m7, ci, ev, nI_1]
    exact hz
theorem z_l1 {a b e : Nat → Int32} (hp : Ptr h) (hU : isT C) : ∀ k c (y : Option Value), c + k = 4 → ∃ y', wq X d 72 2 [some (.ref C), some (.int (nI c)), y] [] (hZ h C (zA h C a c) b e) Q = wq X d 72 63 [some (.ref C), some (.int (nI 4)), y'] [] (hZ h C (zA h C a 4) b e) Q := by
  have hp' : ∀ a b e, Ptr (hZ h C a b e) := fun a b e => hp
  intro k
  induction k with
  | zero =>
    intro c y hc
    have : c = 4 := by omega
    subst this
    refine ⟨y, ?_⟩
    have c1 : (nI 4 < (4 : Int32)) = False := eq_false (by decide)
    simp only [u72_2, u72_3, u72_4, eq_self, q_nl0, q_nlI, q_nlR, not_false_eq_true, q_nz0, q_nz1, q_zv0, q_zv1, q_tl1, q_tl0, q_wif, q_swc, q_swn, List.cons_append, List.nil_append, if_true, if_false, e10, e01, Bool.false_eq_true, c1]
  | succ k ih =>
    intro c y hc
    have c1 : (nI c < 4) = True := eq_true (nI_lt (b := 4) (by omega) (by decide))
    have m4 : m_in (nI c) 4 = true := q_in (by omega) (by decide)
    have cc : (nI c).toNatClampNeg = c := q_cl (by omega)
    obtain ⟨y', e'⟩ := ih (c + 1) (some (.int (nI (0 + min 7 (m_gI h C 4).toNatClampNeg)))) (by omega)
    refine ⟨y', ?_⟩
    rw [← e']
    have t := z_in1 (X := X) (d := d) (Q := Q) (a := zA h C a c) (b := b) (e := e) hp hU (show c < 4 by omega) (min 7 (m_gI h C 4).toNatClampNeg) 0 (by omega)
    have za : up (zA h C a c) c (nI (zM (m_gI h (C + 4)) c (0 + min 7 (m_gI h C 4).toNatClampNeg))) = zA h C a (c + 1) := by
      funext j
      show (if j = c then _ else if j < c then _ else a j) = if j < c + 1 then _ else a j
      by_cases w : j = c
      · rw [if_pos w, if_pos (by omega), w, Nat.zero_add]
      · rw [if_neg w]
        by_cases v : j < c
        · rw [if_pos v, if_pos (by omega)]
        · rw [if_neg v, if_neg (by omega)]
    rw [za] at t
    generalize hz : wq X d 72 2 [some (.ref C), some (.int (nI (c + 1))), some (.int (nI (0 + min 7 (m_gI h C 4).toNatClampNeg)))] [] (hZ h C (zA h C a (c + 1)) b e) Q = Z
    simp only [u72_2, u72_3, u72_4, u72_7, u72_8, u72_11, u72_12, u72_13, u72_14, u72_15, eq_self, q_nl0, q_nlI, q_nlR, not_false_eq_true, q_nz0, q_nz1, q_zv0, q_zv1, q_tl1, q_tl0, q_wif, q_swc, q_swn, List.cons_append, List.nil_append, if_true, if_false, e10, e01, Bool.false_eq_true, c1, shT_0 hU, shT_3 hU, pT_3 hU (hp' _ _ _), m4, cc, sI_hZ3]
    refine Eq.trans t ?_
    simp only [u72_57, u72_60, eq_self, q_nl0, q_nlI, q_nlR, not_false_eq_true, q_nz0, q_nz1, q_zv0, q_zv1, q_tl1, q_tl0, q_wif, q_swc, q_swn, List.cons_append, List.nil_append, if_true, if_false, e10, e01, Bool.false_eq_true, nI_1]
    exact hz
end SETTLE
