/-! feed -/
def fdC (x s : Int32) : Int32 := (x.toUInt32 >>> (s.toUInt32 &&& Int32.toUInt32 31)).toInt32 &&& 255
def fdK (x s : Int32) : Int32 := (x >>> (s &&& 31)).toInt8.toInt32
theorem and255 (y : Int32) : ∃ v, v < 256 ∧ y &&& 255 = nI v := by
  refine ⟨y.toBitVec.toNat % 256, Nat.mod_lt _ (by decide), ?_⟩
  apply Int32.toBitVec_inj.mp
  show y.toBitVec &&& 255#32 = BitVec.ofNat 32 (y.toBitVec.toNat % 256)
  apply BitVec.eq_of_toNat_eq
  rw [BitVec.toNat_and, BitVec.toNat_ofNat, BitVec.toNat_ofNat, show (255 % 2 ^ 32 : Nat) = 2 ^ 8 - 1 from rfl, Nat.and_two_pow_sub_one_eq_mod]
  omega
theorem fd8 (a b : BitVec 32) (h : ∀ i, i < 8 → a.getLsbD i = b.getLsbD i) : a.setWidth 8 = (b &&& 255#32).setWidth 8 := by
  apply BitVec.eq_of_getLsbD_eq
  intro i hi
  rw [BitVec.getLsbD_setWidth, BitVec.getLsbD_setWidth, BitVec.getLsbD_and, h i hi]
  have : (255#32).getLsbD i = true := by
    have : i = 0 ∨ i = 1 ∨ i = 2 ∨ i = 3 ∨ i = 4 ∨ i = 5 ∨ i = 6 ∨ i = 7 := by omega
    rcases this with rfl | rfl | rfl | rfl | rfl | rfl | rfl | rfl <;> rfl
  rw [this, Bool.and_true]
theorem fd_g (x s : Int32) (n : Nat) (h1 : ((s &&& 31).toBitVec.smod 32).toNat = n) (h2 : ((s.toUInt32 &&& Int32.toUInt32 31).toBitVec % 32).toNat = n) (hn : n ≤ 24) : (x >>> (s &&& 31)).toInt8 = (fdC x s).toInt8 := by
  apply Int8.toBitVec_inj.mp
  have q1 : (x >>> (s &&& 31)).toBitVec = x.toBitVec.sshiftRight n := by
    rw [← h1]
    rfl
  have q2 : (fdC x s).toBitVec = (x.toBitVec >>> n) &&& 255#32 := by
    rw [← h2]
    rfl
  show (x >>> (s &&& 31)).toBitVec.signExtend 8 = (fdC x s).toBitVec.signExtend 8
  rw [q1, q2, BitVec.signExtend_eq_setWidth_of_le _ (by decide), BitVec.signExtend_eq_setWidth_of_le _ (by decide)]
  apply fd8
  intro i hi
  rw [BitVec.getLsbD_sshiftRight, BitVec.getLsbD_ushiftRight]
  rw [if_pos (by omega)]
  simp [show ¬ 32 ≤ i by omega]
theorem fd_s (x : Int32) (s : Int32) (hs : s = 24 ∨ s = 16 ∨ s = 8 ∨ s = 0) : (x >>> (s &&& 31)).toInt8 = (fdC x s).toInt8 := by
  rcases hs with rfl | rfl | rfl | rfl
  · exact fd_g x _ 24 (by decide) (by decide) (by decide)
  · exact fd_g x _ 16 (by decide) (by decide) (by decide)
  · exact fd_g x _ 8 (by decide) (by decide) (by decide)
  · exact fd_g x _ 0 (by decide) (by decide) (by decide)
/-- the byte of an int at a shift, as a number -/
def fdN (x s : Int32) : Nat := (fdC x s).toNatClampNeg
theorem fdN_ok (x s : Int32) : fdN x s < 256 ∧ fdC x s = nI (fdN x s) := by
  obtain ⟨v, h1, h2⟩ := and255 (x.toUInt32 >>> (s.toUInt32 &&& Int32.toUInt32 31)).toInt32
  have e : fdC x s = nI v := h2
  unfold fdN
  rw [e, q_cl (by omega)]
  exact ⟨h1, rfl⟩
theorem fdK_ok (x s : Int32) (hs : s = 24 ∨ s = 16 ∨ s = 8 ∨ s = 0) : fdK x s = byI (fdN x s) := by
  unfold fdK byI
  rw [fd_s x s hs, (fdN_ok x s).2]
def put4 (f : Nat → Int32) (L : Nat) (x : Int32) : Nat → Int32 := up (up (up (up f L (fdC x 24)) (L + 1) (fdC x 16)) (L + 2) (fdC x 8)) (L + 3) (fdC x 0)
theorem c_put {X : XT} {d L : Nat} {h : HT} {Q : QT} {f : Nat → Int32} {x : Int32} (hp : Ptr h) (hL : L + 4 ≤ 1600) : wq X d 12 0 [some (.ref 2), some (.int x), none] [] (hFt h 2 1 3 (nI L) f) Q = Q none (hFt h 2 1 3 (nI (L + 4)) (put4 f L x)) := by
  have f0 : ∀ j, j < 4 → (nI (L + j) < 0) = False := fun j hj => eq_false (nI_nlt (b := 0) (Nat.zero_le _) (by omega))
  have f1 : ∀ j, j < 4 → (nI (L + j) < Int32.ofNat 1600) = True := fun j hj => eq_true (nI_lt (b := 1600) (by omega) (by decide))
  have f2 : ∀ j, j < 4 → m_in (nI (L + j)) 1600 = true := fun j hj => q_in (by omega) (by decide)
  have f3 : ∀ j, j < 4 → (nI (L + j)).toNatClampNeg = L + j := fun j hj => q_cl (by omega)
  have n32 : (3 : Nat) ≠ 2 := by decide
  have z0 : ((24 : Int32) < 0) = False := eq_false (by decide)
  have z1 : ((24 : Int32) + -8) = 16 := by decide
  have z2 : ((16 : Int32) < 0) = False := eq_false (by decide)
  have z3 : ((16 : Int32) + -8) = 8 := by decide
  have z4 : ((8 : Int32) < 0) = False := eq_false (by decide)
  have z5 : ((8 : Int32) + -8) = 0 := by decide
  have z6 : ((0 : Int32) < 0) = False := eq_false (by decide)
  have z7 : ((0 : Int32) + -8) = -8 := by decide
  have z8 : ((-8 : Int32) < 0) = True := eq_true (by decide)
  have a1 : nI (L + 0) + 1 = nI (L + 1) := nI_1 _
  have a2 : nI (L + 1) + 1 = nI (L + 2) := nI_1 _
  have a3 : nI (L + 2) + 1 = nI (L + 3) := nI_1 _
  have a4 : nI (L + 3) + 1 = nI (L + 4) := nI_1 _
  have g := fun c f => gI_hFtA (h := h) (a := 2) (q := 1) (b := 3) (c := c) (f := f)
  show wq X d 12 0 [some (.ref 2), some (.int x), none] [] (hFt h 2 1 3 (nI (L + 0)) f) Q = _
  simp only [u12_0, u12_2, eq_self, q_nl0, q_nlI, q_nlR, not_false_eq_true, q_nz0, q_nz1, q_zv0, q_zv1, q_tl1, q_tl0, q_wif, q_swc, q_swn, List.cons_append, List.nil_append, if_true, if_false, e10, e01, Bool.false_eq_true]
  rw [u12_3]
  simp only [u12_4, u12_7, u12_8, u12_11, u12_14, u12_15, u12_18, u12_19, u12_22 (X := X) (r0 := 3) (by rw [sh_3]; rfl), sh_3, u12_23, u12_26, u12_27, u12_30, u12_31, u12_34, u12_35, u12_36, u12_37, u12_40, u12_41, u12_42, u12_43, u12_44, u12_47, u12_48, u12_49, u12_52, u12_55, eq_self, q_nl0, q_nlI, q_nlR, not_false_eq_true, q_nz0, q_nz1, q_zv0, q_zv1, q_tl1, q_tl0, q_wif, q_swc, q_swn, List.cons_append, List.nil_append, if_true, if_false, e10, e01, Bool.false_eq_true, sh_2, sh_3, z0, z1, gI_hFtA, gR_hFt, p_2_0 hp, f0 0, f1 0, f2 0, f3 0, f0 1, f1 1, f2 1, f3 1, f0 2, f1 2, f2 2, f3 2, f0 3, f1 3, f2 3, f3 3, Nat.lt_irrefl, show (0 : Nat) < 4 by decide, show (1 : Nat) < 4 by decide, show (2 : Nat) < 4 by decide, show (3 : Nat) < 4 by decide, sI_hFtA, sI_hFtB n32, a1]
  rw [u12_3]
  simp only [u12_4, u12_7, u12_8, u12_11, u12_14, u12_15, u12_18, u12_19, u12_22 (X := X) (r0 := 3) (by rw [sh_3]; rfl), sh_3, u12_23, u12_26, u12_27, u12_30, u12_31, u12_34, u12_35, u12_36, u12_37, u12_40, u12_41, u12_42, u12_43, u12_44, u12_47, u12_48, u12_49, u12_52, u12_55, eq_self, q_nl0, q_nlI, q_nlR, not_false_eq_true, q_nz0, q_nz1, q_zv0, q_zv1, q_tl1, q_tl0, q_wif, q_swc, q_swn, List.cons_append, List.nil_append, if_true, if_false, e10, e01, Bool.false_eq_true, sh_2, sh_3, z2, z3, gI_hFtA, gR_hFt, p_2_0 hp, f0 1, f1 1, f2 1, f3 1, show (1 : Nat) < 4 by decide, sI_hFtA, sI_hFtB n32, a2]
  rw [u12_3]
  simp only [u12_4, u12_7, u12_8, u12_11, u12_14, u12_15, u12_18, u12_19, u12_22 (X := X) (r0 := 3) (by rw [sh_3]; rfl), sh_3, u12_23, u12_26, u12_27, u12_30, u12_31, u12_34, u12_35, u12_36, u12_37, u12_40, u12_41, u12_42, u12_43, u12_44, u12_47, u12_48, u12_49, u12_52, u12_55, eq_self, q_nl0, q_nlI, q_nlR, not_false_eq_true, q_nz0, q_nz1, q_zv0, q_zv1, q_tl1, q_tl0, q_wif, q_swc, q_swn, List.cons_append, List.nil_append, if_true, if_false, e10, e01, Bool.false_eq_true, sh_2, sh_3, z4, z5, gI_hFtA, gR_hFt, p_2_0 hp, f0 2, f1 2, f2 2, f3 2, show (2 : Nat) < 4 by decide, sI_hFtA, sI_hFtB n32, a3]
  rw [u12_3]
  simp only [u12_4, u12_7, u12_8, u12_11, u12_14, u12_15, u12_18, u12_19, u12_22 (X := X) (r0 := 3) (by rw [sh_3]; rfl), sh_3, u12_23, u12_26, u12_27, u12_30, u12_31, u12_34, u12_35, u12_36, u12_37, u12_40, u12_41, u12_42, u12_43, u12_44, u12_47, u12_48, u12_49, u12_52, u12_55, eq_self, q_nl0, q_nlI, q_nlR, not_false_eq_true, q_nz0, q_nz1, q_zv0, q_zv1, q_tl1, q_tl0, q_wif, q_swc, q_swn, List.cons_append, List.nil_append, if_true, if_false, e10, e01, Bool.false_eq_true, sh_2, sh_3, z6, z7, gI_hFtA, gR_hFt, p_2_0 hp, f0 3, f1 3, f2 3, f3 3, show (3 : Nat) < 4 by decide, sI_hFtA, sI_hFtB n32, a4]
  rw [u12_3]
  simp only [u12_4, u12_7, u12_8, u12_11, u12_14, u12_15, u12_18, u12_19, u12_22, u12_23, u12_26, u12_27, u12_30, u12_31, u12_34, u12_35, u12_36, u12_37, u12_40, u12_41, u12_42, u12_43, u12_44, u12_47, u12_48, u12_49, u12_52, u12_55, u12_58, eq_self, q_nl0, q_nlI, q_nlR, not_false_eq_true, q_nz0, q_nz1, q_zv0, q_zv1, q_tl1, q_tl0, q_wif, q_swc, q_swn, List.cons_append, List.nil_append, if_true, if_false, e10, e01, Bool.false_eq_true, z8]
  rfl
def fdS (r : Nat) : Int32 := if r = 0 then 24 else if r = 1 then 16 else if r = 2 then 8 else 0
theorem fdS_o (r : Nat) : fdS r = 24 ∨ fdS r = 16 ∨ fdS r = 8 ∨ fdS r = 0 := by
  unfold fdS
  repeat' split
  all_goals simp
def fdV (V : Nat → Nat) (L : Nat) (x : Int32) : Nat → Nat := fun i => if L ≤ i ∧ i < L + 4 then fdN x (fdS (i - L)) else V i
theorem fdV_in {V : Nat → Nat} {L i : Nat} {x : Int32} (h1 : L ≤ i) (h2 : i < L + 4) : fdV V L x i = fdN x (fdS (i - L)) := if_pos ⟨h1, h2⟩
theorem fdV_out {V : Nat → Nat} {L i : Nat} {x : Int32} (h : i < L ∨ L + 4 ≤ i) : fdV V L x i = V i := if_neg (by omega)
theorem put4_V {f : Nat → Int32} {V : Nat → Nat} {L : Nat} {x : Int32} (H : ∀ i, i < L → f i = nI (V i)) : ∀ i, i < L + 4 → put4 f L x i = nI (fdV V L x i) := by
  intro i hi
  show (if i = L + 3 then fdC x 0 else if i = L + 2 then fdC x 8 else if i = L + 1 then fdC x 16 else if i = L then fdC x 24 else f i) = _
  by_cases z : i < L
  · rw [if_neg (by omega), if_neg (by omega), if_neg (by omega), if_neg (by omega), fdV_out (Or.inl z), H i z]
  · rw [fdV_in (by omega) hi, ← (fdN_ok x _).2]
    have : i = L ∨ i = L + 1 ∨ i = L + 2 ∨ i = L + 3 := by omega
    rcases this with rfl | rfl | rfl | rfl
    · rw [if_neg (by omega), if_neg (by omega), if_neg (by omega), if_pos rfl, Nat.sub_self]
      rfl
    · rw [if_neg (by omega), if_neg (by omega), if_pos rfl, show L + 1 - L = 1 by omega]
      rfl
    · rw [if_neg (by omega), if_pos rfl, show L + 2 - L = 2 by omega]
      rfl
    · rw [if_pos rfl, show L + 3 - L = 3 by omega]
      rfl
def fdW (V : Nat → Nat) (L : Nat) (v1 v2 v3 v4 v5 : Int32) : Nat → Nat := fdV (fdV (fdV (fdV (fdV V L v1) (L + 4) v2) (L + 8) v3) (L + 12) v4) (L + 16) v5
theorem fdV_lt {V : Nat → Nat} {L L' : Nat} {x : Int32} (H : ∀ i, i < L → V i < 256) (e : L' = L + 4) : ∀ i, i < L' → fdV V L x i < 256 := by
  intro i hi
  by_cases z : i < L
  · rw [fdV_out (Or.inl z)]
    exact H i z
  · rw [fdV_in (by omega) (by omega)]
    exact (fdN_ok x _).1
theorem hFt_s {h : HT} {a q b : Nat} (n : b ≠ a) : h = hFt h a q b (m_gI h a q) (m_gI h b) := by
  apply hx
  · intro e k
    show h.1 e k = if e = a ∧ k = q then h.1 a q else if e = b then h.1 b k else h.1 e k
    by_cases z : e = a ∧ k = q
    · rw [if_pos z, z.1, z.2]
    · rw [if_neg z]
      by_cases y : e = b
      · rw [if_pos y, y]
      · rw [if_neg y]
  · rfl
def fdM (f : Nat → Int32) (Y : Nat → Nat) (L i : Nat) : Nat → Int32 := fun k => if L ≤ k ∧ k < L + i then byI (Y k) else f k
theorem fdM_0 {f : Nat → Int32} {Y : Nat → Nat} {L : Nat} : fdM f Y L 0 = f := funext fun k => if_neg (by omega)
theorem fdM_s {f : Nat → Int32} {Y : Nat → Nat} {L i : Nat} : fdM f Y L (i + 1) = up (fdM f Y L i) (L + i) (byI (Y (L + i))) := by
  funext k
  show (if L ≤ k ∧ k < L + (i + 1) then byI (Y k) else f k) = if k = L + i then byI (Y (L + i)) else if L ≤ k ∧ k < L + i then byI (Y k) else f k
  by_cases z : k = L + i
  · rw [if_pos z, if_pos (by omega), z]
  · rw [if_neg z]
    by_cases y : L ≤ k ∧ k < L + i
    · rw [if_pos y, if_pos (by omega)]
    · rw [if_neg y, if_neg (by omega)]
theorem fd_sh : ∀ i, i < 20 → 24 - 8 * (nI i &&& 3) = fdS (i % 4) := by decide +kernel
theorem by_by (v : Nat) : vp_nar .byte (byI v) = byI v := by
  show (nI v).toInt8.toInt32.toInt8.toInt32 = (nI v).toInt8.toInt32
  rw [Int8.toInt8_toInt32]
theorem fd_one {x : Int32} {Y : Nat → Nat} {L i : Nat} (hi : i < 20) (e : Y (L + i) = fdN x (fdS (i % 4))) : (x >>> ((24 - 8 * (nI i &&& 3)) &&& 31)).toInt8.toInt32 = byI (Y (L + i)) := by
  rw [fd_sh i hi, e]
  exact fdK_ok x _ (fdS_o _)
