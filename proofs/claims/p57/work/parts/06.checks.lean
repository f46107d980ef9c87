/-! the tables against the Statement's words -/
theorem k_con : ∀ c, c < 20 → ∀ q ∈ m_con.getD c [], s_wd q.2.2 = some (Cond.constant (m_cn c) q.1 q.2.1) := by decide +kernel
theorem k_lcon : ∀ c, c < 20 → ∀ q ∈ m_lcon.getD c [], s_wd q.2.2 = some (Cond.constantLong (m_cn c) q.1 q.2.1) := by decide +kernel
theorem k_fld : ∀ c, c < 20 → ∀ q ∈ m_fld.getD c [], q.2.1 < 10 ∧ q.2.2.1 < m_NN.getD q.2.1 0 ∧ s_so q.2.1 q.2.2.1 = q.2.2.2.1 ∧ s_wd q.2.2.2.2 = some (Cond.fieldLink (m_cn c) q.1 (mT q.2.1 q.2.2.1).1 (mT q.2.1 q.2.2.1).2.1 (mT q.2.1 q.2.2.1).2.2.1) := by decide +kernel
theorem k_cll : ∀ c, c < 20 → ∀ q ∈ m_cll.getD c [], s_wd q.2.2 = some (Cond.classLink (m_cn c) q.1 (m_cn q.2.1)) := by decide +kernel
theorem k_lay : ∀ c, c < 10 → u_ws (m_cn c) (mT c) (m_NN.getD c 0) = (m_lay.getD c []).filterMap s_wd := by decide +kernel
theorem k_layg : ∀ c, c < 10 → ((u_ws (m_cn c) (mT c) (m_NN.getD c 0)).all goodWord) = true := by decide +kernel
theorem k_cw : ∀ c, c < 10 → s_wd (m_cw.getD c (0, 0)).1 = some (Cond.instantiable (m_cn c) (m_NN.getD c 0)) ∧ s_wd (m_cw.getD c (0, 0)).2 = some (Cond.initialized (m_cn c)) := by decide +kernel
def s_ft (c k : Nat) : FieldType := (parseFieldDescriptor (mT c k).2.2.1).getD .int
theorem k_ft : ∀ c, c < 10 → ∀ k, k < m_NN.getD c 0 → parseFieldDescriptor (mT c k).2.2.1 = some (s_ft c k) := by decide +kernel
theorem k_sort : ∀ c, c < 10 → ∀ k, k < m_NN.getD c 0 → (match s_so c k with
    | 0 => decide (s_ft c k = .int)
    | 1 => decide (s_ft c k = .long)
    | 3 => decide (s_ft c k = .boolean)
    | _ => (match s_ft c k with
      | .object _ => true
      | .array _ => true
      | _ => false)) = true := by decide +kernel
theorem k_nm : ∀ c, c < 10 → ∀ a, a < m_NN.getD c 0 → ∀ b, b < m_NN.getD c 0 → a ≠ b → (mT c a).2.1 ≠ (mT c b).2.1 := by decide +kernel
theorem k_own : ∀ c, c < 10 → ∀ k, k < m_NN.getD c 0 → (mT c k).1 = m_cn c := by decide +kernel
theorem k_mok1 : ∀ y, y < 315 → (match s_wd (m_wx.getD y (0, 0, 0, 0)).1 with
    | some (.code z _ ml rt) => decide (z = m_nm y ∧ ml = m_ml y ∧ rt = m_rt y)
    | _ => false) = true := by decide +kernel
theorem k_code {y : Nat} (hy : y < 315) : s_wd (m_wx.getD y (0, 0, 0, 0)).1 = some (Cond.code (m_nm y) (m_bts y) (m_ml y) (m_rt y)) := by
  have h := k_mok1 y hy
  unfold m_bts
  rw [if_neg (by omega)]
  split at h
  · rename_i e
    obtain ⟨h1, h2, h3⟩ := of_decide_eq_true h
    rw [e, ← h1, ← h2, ← h3]
  · cases h
theorem k_mok2 : ∀ y, y < 315 → m_ml y ≤ 40 := by decide +kernel
theorem k_mok3 : ∀ y, y < 315 → (m_nm y).cls = m_cn (m_own y) := by decide +kernel
theorem k_mok4 : ∀ y, y < 315 → m_own y < 20 := by decide +kernel
theorem k_mok5 : ∀ y, y < 315 → (m_nm y).cls ≠ "java/lang/invoke/MethodHandle" ∧ (m_nm y).cls ≠ "java/lang/invoke/VarHandle" := by decide +kernel
def s_ini (y : Nat) : Bool := decide (s_wd (m_wx.getD y (0, 0, 0, 0)).2.2.2 = some (Cond.initialized (m_nm y).cls))
def s_ins (y : Nat) : Bool := decide (s_wd (m_wx.getD y (0, 0, 0, 0)).2.1 = some (Cond.instanceMethod (m_nm y)))
def s_stc (y : Nat) : Bool := decide (s_wd (m_wx.getD y (0, 0, 0, 0)).2.1 = some (Cond.static (m_nm y)))
def s_sel (y : Nat) : Bool := decide (s_wd (m_wx.getD y (0, 0, 0, 0)).2.2.1 = some (Cond.selects (m_nm y).cls (m_nm y) (m_nm y)))
def s_par (y na : Nat) : Bool := decide ((parseMethodDescriptor (m_nm y).desc).map (fun d => d.parameters.length) = some na)
/-- a link: (index, kind, callee, arguments, word) -/
def s_lok (c : Nat) (q : Nat × Nat × Nat × Nat × Nat) : Bool := match q.2.1 with
  | 0 => decide (q.2.2.1 < 315) && plainFor (m_nm q.2.2.1) && decide (s_wd q.2.2.2.2 = some (Cond.methodLink (m_cn c) q.1 (m_nm q.2.2.1))) && s_ins q.2.2.1 && s_sel q.2.2.1 && s_ini q.2.2.1 && s_par q.2.2.1 q.2.2.2.1
  | 1 => decide (q.2.2.1 < 315) && plainFor (m_nm q.2.2.1) && decide (s_wd q.2.2.2.2 = some (Cond.methodLink (m_cn c) q.1 (m_nm q.2.2.1))) && s_stc q.2.2.1 && s_ini q.2.2.1 && s_par q.2.2.1 q.2.2.2.1
  | 2 => decide (q.2.2.1 < 315) && plainFor (m_nm q.2.2.1) && decide (s_wd q.2.2.2.2 = some (Cond.methodLink (m_cn c) q.1 (m_nm q.2.2.1))) && s_ins q.2.2.1 && s_ini q.2.2.1 && s_par q.2.2.1 q.2.2.2.1 && decide ((m_nm q.2.2.1).name = "<init>") && decide (m_rt q.2.2.1 = none)
  | 3 => decide (q.2.2.1 < 315) && plainFor (m_nm q.2.2.1) && decide (s_wd q.2.2.2.2 = some (Cond.methodLinkNest (m_cn c) q.1 (m_nm q.2.2.1) "HillLeavers")) && s_ins q.2.2.1 && s_ini q.2.2.1 && s_par q.2.2.1 q.2.2.2.1 && decide ((m_nm q.2.2.1).name = "<init>") && decide (m_rt q.2.2.1 = none)
  | 4 => decide (q.2.2.1 < 315) && plainFor (m_nm q.2.2.1) && decide (s_wd q.2.2.2.2 = some (Cond.methodLinkNest (m_cn c) q.1 (m_nm q.2.2.1) "HillLeavers")) && s_stc q.2.2.1 && s_ini q.2.2.1 && s_par q.2.2.1 q.2.2.2.1
  | 5 => decide (s_wd q.2.2.2.2 = some (Cond.methodLink (m_cn c) q.1 Lib.objectInit))
  | 6 => decide (s_wd q.2.2.2.2 = some (Cond.methodLink (m_cn c) q.1 Lib.Math.max.name))
  | 7 => decide (s_wd q.2.2.2.2 = some (Cond.methodLink (m_cn c) q.1 Lib.Math.min.name))
  | _ => false
theorem k_lnk_0 : ∀ q ∈ m_lnk.getD 0 [], s_lok 0 q = true := by decide +kernel
theorem k_lnk_1 : ∀ q ∈ m_lnk.getD 1 [], s_lok 1 q = true := by decide +kernel
theorem k_lnk_2 : ∀ q ∈ m_lnk.getD 2 [], s_lok 2 q = true := by decide +kernel
theorem k_lnk_3 : ∀ q ∈ m_lnk.getD 3 [], s_lok 3 q = true := by decide +kernel
theorem k_lnk_4 : ∀ q ∈ m_lnk.getD 4 [], s_lok 4 q = true := by decide +kernel
theorem k_lnk_5 : ∀ q ∈ m_lnk.getD 5 [], s_lok 5 q = true := by decide +kernel
theorem k_lnk_6 : ∀ q ∈ m_lnk.getD 6 [], s_lok 6 q = true := by decide +kernel
theorem k_lnk_7 : ∀ q ∈ m_lnk.getD 7 [], s_lok 7 q = true := by decide +kernel
theorem k_lnk_8 : ∀ q ∈ m_lnk.getD 8 [], s_lok 8 q = true := by decide +kernel
theorem k_lnk_9 : ∀ q ∈ m_lnk.getD 9 [], s_lok 9 q = true := by decide +kernel
theorem k_lnk_10 : ∀ q ∈ m_lnk.getD 10 [], s_lok 10 q = true := by decide +kernel
theorem k_lnk_11 : ∀ q ∈ m_lnk.getD 11 [], s_lok 11 q = true := by decide +kernel
theorem k_lnk_12 : ∀ q ∈ m_lnk.getD 12 [], s_lok 12 q = true := by decide +kernel
theorem k_lnk_13 : ∀ q ∈ m_lnk.getD 13 [], s_lok 13 q = true := by decide +kernel
theorem k_lnk_14 : ∀ q ∈ m_lnk.getD 14 [], s_lok 14 q = true := by decide +kernel
theorem k_lnk_15 : ∀ q ∈ m_lnk.getD 15 [], s_lok 15 q = true := by decide +kernel
theorem k_lnk_16 : ∀ q ∈ m_lnk.getD 16 [], s_lok 16 q = true := by decide +kernel
theorem k_lnk_17 : ∀ q ∈ m_lnk.getD 17 [], s_lok 17 q = true := by decide +kernel
theorem k_lnk_18 : ∀ q ∈ m_lnk.getD 18 [], s_lok 18 q = true := by decide +kernel
theorem k_lnk_19 : ∀ q ∈ m_lnk.getD 19 [], s_lok 19 q = true := by decide +kernel
theorem k_lnk {c : Nat} (hc : c < 20) : ∀ q ∈ m_lnk.getD c [], s_lok c q = true := by
  have h : c = 0 ∨ c = 1 ∨ c = 2 ∨ c = 3 ∨ c = 4 ∨ c = 5 ∨ c = 6 ∨ c = 7 ∨ c = 8 ∨ c = 9 ∨ c = 10 ∨ c = 11 ∨ c = 12 ∨ c = 13 ∨ c = 14 ∨ c = 15 ∨ c = 16 ∨ c = 17 ∨ c = 18 ∨ c = 19 := by omega
  rcases h with rfl | rfl | rfl | rfl | rfl | rfl | rfl | rfl | rfl | rfl | rfl | rfl | rfl | rfl | rfl | rfl | rfl | rfl | rfl | rfl
  · exact k_lnk_0
  · exact k_lnk_1
  · exact k_lnk_2
  · exact k_lnk_3
  · exact k_lnk_4
  · exact k_lnk_5
  · exact k_lnk_6
  · exact k_lnk_7
  · exact k_lnk_8
  · exact k_lnk_9
  · exact k_lnk_10
  · exact k_lnk_11
  · exact k_lnk_12
  · exact k_lnk_13
  · exact k_lnk_14
  · exact k_lnk_15
  · exact k_lnk_16
  · exact k_lnk_17
  · exact k_lnk_18
  · exact k_lnk_19
theorem k_obj1 : s_wd 1024 = some (Cond.instanceMethod Lib.objectInit) := by decide +kernel
theorem k_obj2 : s_wd 1025 = some (Cond.code Lib.objectInit ⟨#[0xb1]⟩ 1 none) := by decide +kernel
theorem k_max1 : s_wd 4045 = some (Cond.static Lib.Math.max.name) := by decide +kernel
theorem k_max2 : s_wd 4046 = some (Cond.code Lib.Math.max.name Lib.Math.max.code 2 (some .int)) := by decide +kernel
theorem k_min1 : s_wd 3007 = some (Cond.static Lib.Math.min.name) := by decide +kernel
theorem k_min2 : s_wd 3008 = some (Cond.code Lib.Math.min.name Lib.Math.min.code 2 (some .int)) := by decide +kernel
theorem k_mini : s_wd 1015 = some (Cond.initialized "java/lang/Math") := by decide +kernel
theorem k_arr_20 : s_wd 1059 = some (Cond.arrayClass (s_ty 20)) := by decide +kernel
theorem k_arr_21 : s_wd 1216 = some (Cond.arrayClass (s_ty 21)) := by decide +kernel
theorem k_arr_22 : s_wd 2072 = some (Cond.arrayClass (s_ty 22)) := by decide +kernel
theorem k_arr_23 : s_wd 5143 = some (Cond.arrayClass (s_ty 23)) := by decide +kernel
theorem k_ord : s_wd 3121 = some (Cond.fieldLink "HillLeavers" 287 "HillLeavers" "ORDERS" "[I") := by decide +kernel
theorem k_cs : s_wd 4077 = some (Cond.fieldLink "java/lang/String" 38 "java/lang/String" "COMPACT_STRINGS" "Z") := by decide +kernel
theorem k_fo : s_wd 4093 = some (Cond.fieldLink "java/lang/String" 1053 "jdk/internal/util/Preconditions" "SIOOBE_FORMATTER" "Ljava/util/function/BiFunction;") := by decide +kernel
theorem k_cdr : s_wd 5230 = some (Cond.fieldLink "java/lang/String" 15 "java/lang/String" "coder" "B") := by decide +kernel
theorem k_val : s_wd 5229 = some (Cond.fieldLink "java/lang/String" 9 "java/lang/String" "value" "[B") := by decide +kernel
