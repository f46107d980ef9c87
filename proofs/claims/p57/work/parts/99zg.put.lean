/-! THE LAW WRITES A CITY: up to eight bytes come onto the tape -/
def wbT (w : Int64) (n : Nat) : Bool := decide (lg_cmp ((w.toUInt64 >>> ((56 - 8 * nI n : Int32).toInt64.toUInt64 &&& Int64.toUInt64 63)).toInt64 &&& 255) 0 = 0)
def wbH (w : Int64) : Int32 := ((w.toUInt64 >>> ((32 : Int32).toInt64.toUInt64 &&& Int64.toUInt64 63)).toInt64).toInt32
def wbY (w : Int64) (k : Nat) : Nat := if k < 4 then fdN (wbH w) (fdS k) else fdN w.toInt32 (fdS (k - 4))
/-- a long holds these bytes -/
def wbB (w : Int64) (bs : List Nat) : Bool := Nat.ble bs.length 8 && (List.range bs.length).all (fun n => !wbT w n) && (Nat.beq bs.length 8 || wbT w bs.length) && (List.range bs.length).all (fun k => Nat.beq (wbY w k) (bs.getD k 0))
theorem wb_1 {w : Int64} {bs : List Nat} (h : wbB w bs = true) : bs.length ≤ 8 ∧ (∀ n, n < bs.length → wbT w n = false) ∧ (bs.length < 8 → wbT w bs.length = true) ∧ ∀ k, k < bs.length → wbY w k = bs.getD k 0 := by
  unfold wbB at h
  rw [Bool.and_eq_true, Bool.and_eq_true, Bool.and_eq_true] at h
  obtain ⟨⟨⟨h1, h2⟩, h3⟩, h4⟩ := h
  refine ⟨Nat.le_of_ble_eq_true h1, fun n hn => ?_, fun hl => ?_, fun k hk => ?_⟩
  · have := List.all_eq_true.mp h2 n (List.mem_range.mpr hn)
    simpa using this
  · rcases Bool.or_eq_true_iff.mp h3 with z | z
    · have := Nat.eq_of_beq_eq_true z
      omega
    · exact z
  · exact Nat.eq_of_beq_eq_true (List.all_eq_true.mp h4 k (List.mem_range.mpr hk))
/-- the class as it is told a city: the tape holds T, the law's row is t -/
def TW (h : HT) (T : List Nat) (t : Nat → Int32) : Prop := ∃ (τ : CT) (A : Nat → Int32) (bh ah : Nat) (W : Nat → Nat → Int32) (F : Nat → Bool) (B : Nat → Nat → Int32) (n : Nat) (S : Nat → Nat → Int32) (V : Nat → Nat) (x y : Int32), CI h (τ, A, bh, ah, W, F, B, n, 0, S, T.length, V, x, y) ∧ OKs (τ, A, bh, ah, W, F, B, n, 0, S, T.length, V, x, y) ∧ (∀ i, i < T.length → V i = T.getD i 0) ∧ m_gI h 195 = t
theorem Lo_h5 {h : HT} {v : Nat → Int32} : Lo h (hC h 195 v) := ⟨rfl, fun c k z => gI_hCo (by omega)⟩
theorem tw_t {h : HT} {T : List Nat} {t : Nat → Int32} (W : TW h T t) (v : Nat → Int32) : TW (hC h 195 v) T v := by
  obtain ⟨τ, A, bh, ah, w, F, B, n, S, V, x, y, c, o, e, r⟩ := W
  exact ⟨τ, A, bh, ah, w, F, B, n, S, V, x, y, CI_lo Lo_h5 c, o, e, funext fun k => gI_hC⟩
theorem getD_app1 {T bs : List Nat} {i : Nat} (h : i < T.length) : (T ++ bs).getD i 0 = T.getD i 0 := by
  rw [List.getD_eq_getElem?_getD, List.getD_eq_getElem?_getD, List.getElem?_append_left h]
theorem getD_app2 {T bs : List Nat} {k : Nat} : (T ++ bs).getD (T.length + k) 0 = bs.getD k 0 := by
  rw [List.getD_eq_getElem?_getD, List.getD_eq_getElem?_getD, List.getElem?_append_right (by omega), Nat.add_sub_cancel_left]
section PUT
variable {X : XT} {d : Nat} {h : HT} {T : List Nat} {t : Nat → Int32}
theorem l_put (W : TW h T t) {w : Int64} {bs : List Nat} (hw : wbB w bs = true) (hl : T.length + 20 ≤ 1600) : ∃ g, TW g (T ++ bs) t ∧ ∀ Q : QT, wq X (d + 11) 128 0 [some (.ref 1), some (.int (nI T.length)), some (.long w), none, none] [] h Q = Q (some (.int (nI (T ++ bs).length))) g := by
  obtain ⟨b1, b2, b3, b4⟩ := wb_1 hw
  obtain ⟨τ, A, bh, ah, W', F, B, n, S, V, x, y, c, o, e, r⟩ := W
  obtain ⟨o1, g1, i1, c1, q1⟩ := a_feed (X := X) (d := d) (v1 := wbH w) (v2 := w.toInt32) (v3 := 0) (v4 := 0) (v5 := 0) c o hl
  obtain ⟨o2, g2, i2, c2, q2⟩ := a_end (X := X) (d := d) (m := T.length + bs.length) c1 o1 (by omega)
  have el : (T ++ bs).length = T.length + bs.length := List.length_append
  refine ⟨g2, ⟨τ, A, bh, ah, W', F, B, n, S, fdW V T.length (wbH w) w.toInt32 0 0 0, x, y, ?_, ?_, fun i hi => ?_, ?_⟩, fun Q => ?_⟩
  · rw [el]
    exact c2
  · rw [el]
    exact o2
  · rw [el] at hi
    unfold fdW
    rw [fdV_out (by omega), fdV_out (by omega), fdV_out (by omega)]
    by_cases z : i < T.length
    · rw [fdV_out (by omega), fdV_out (by omega), getD_app1 z, e i z]
    · obtain ⟨k, rfl⟩ : ∃ k, i = T.length + k := ⟨i - T.length, by omega⟩
      rw [getD_app2, ← b4 k (by omega)]
      unfold wbY
      by_cases y : k < 4
      · rw [fdV_out (by omega), fdV_in (by omega) (by omega), if_pos y, Nat.add_sub_cancel_left]
      · rw [fdV_in (by omega) (by omega), if_neg y, show T.length + k - (T.length + 4) = k - 4 by omega]
  · rw [← r]
    funext k
    exact (i2.2 195 k (by omega)).trans (i1.2 195 k (by omega))
  · simp only [u128_0, u128_1, eq_self, q_nl0, q_nlI, q_nlR, not_false_eq_true, q_nz0, q_nz1, q_zv0, q_zv1, q_tl1, q_tl0, q_wif, q_swc, q_swn, List.cons_append, List.nil_append, if_true, if_false, e10, e01, Bool.false_eq_true]
    refine Eq.trans (b := wq X (d + 11) 128 3 [some (.ref 1), some (.int (nI T.length)), some (.long w), none, some (.int (nI 0))] [] h Q) rfl ?_
    refine (q_loop (fun n => wq X (d + 11) 128 3 [some (.ref 1), some (.int (nI T.length)), some (.long w), none, some (.int (nI n))] [] h Q) bs.length ?_).trans ?_
    · intro n hn
      have f1 : (nI n < 8) = True := eq_true (nI_lt (b := 8) (by omega) (by decide))
      have f2 := b2 n hn
      unfold wbT at f2
      have f3 := of_decide_eq_false f2
      show wq X (d + 11) 128 3 _ _ _ _ = _
      rw [u128_3]
      simp only [u128_5, u128_7, u128_10, u128_11, u128_13, u128_15, u128_17, u128_18, u128_19, u128_20, u128_23, u128_24, u128_25, u128_26, u128_29, u128_32, eq_self, q_nl0, q_nlI, q_nlR, not_false_eq_true, q_nz0, q_nz1, q_zv0, q_zv1, q_tl1, q_tl0, q_wif, q_swc, q_swn, List.cons_append, List.nil_append, if_true, if_false, e10, e01, Bool.false_eq_true, f1, f3, nI_1]
    · have tail : wq X (d + 11) 128 35 [some (.ref 1), some (.int (nI T.length)), some (.long w), none, some (.int (nI bs.length))] [] h Q = Q (some (.int (nI (T ++ bs).length))) g2 := by
        have e1 : nI T.length + nI bs.length = nI (T.length + bs.length) := nI_add _ _
        have eh : ((w.toUInt64 >>> ((32 : Int32).toInt64.toUInt64 &&& Int64.toUInt64 63)).toInt64).toInt32 = wbH w := rfl
        rw [el]
        simp only [u128_35, u128_36, u128_37, u128_39, u128_40, u128_41, u128_42, u128_43, u128_44, u128_45, u128_46, eq_self, q_nl0, q_nlI, q_nlR, not_false_eq_true, q_nz0, q_nz1, q_zv0, q_zv1, q_tl1, q_tl0, q_wif, q_swc, q_swn, List.cons_append, List.nil_append, if_true, if_false, e10, e01, Bool.false_eq_true, sh_1, eh, q1]
        simp only [u128_49, u128_50, u128_51, u128_52, u128_54, u128_55, eq_self, q_nl0, q_nlI, q_nlR, not_false_eq_true, q_nz0, q_nz1, q_zv0, q_zv1, q_tl1, q_tl0, q_wif, q_swc, q_swn, List.cons_append, List.nil_append, if_true, if_false, e10, e01, Bool.false_eq_true, sh_1, e1, q2]
        simp only [u128_58, eq_self, q_nl0, q_nlI, q_nlR, not_false_eq_true, q_nz0, q_nz1, q_zv0, q_zv1, q_tl1, q_tl0, q_wif, q_swc, q_swn, List.cons_append, List.nil_append, if_true, if_false, e10, e01, Bool.false_eq_true]
      rw [u128_3]
      by_cases z : bs.length < 8
      · have f1 : (nI bs.length < 8) = True := eq_true (nI_lt (b := 8) z (by decide))
        have f2 := b3 z
        unfold wbT at f2
        have f3 := of_decide_eq_true f2
        simp only [u128_5, u128_7, u128_10, u128_11, u128_13, u128_15, u128_17, u128_18, u128_19, u128_20, u128_23, u128_24, u128_25, u128_26, eq_self, q_nl0, q_nlI, q_nlR, not_false_eq_true, q_nz0, q_nz1, q_zv0, q_zv1, q_tl1, q_tl0, q_wif, q_swc, q_swn, List.cons_append, List.nil_append, if_true, if_false, e10, e01, Bool.false_eq_true, f1, f3]
        exact tail
      · have f1 : (nI bs.length < 8) = False := eq_false (nI_nlt (a := bs.length) (b := 8) (by omega) (by omega))
        simp only [u128_5, u128_7, eq_self, q_nl0, q_nlI, q_nlR, not_false_eq_true, q_nz0, q_nz1, q_zv0, q_zv1, q_tl1, q_tl0, q_wif, q_swc, q_swn, List.cons_append, List.nil_append, if_true, if_false, e10, e01, Bool.false_eq_true, f1]
        exact tail
/-- a name, and a blank -/
theorem wb_nm : ∀ k, k < 5 → wbB ((nI (97 + k)).toInt64 <<< ((56 : Int32).toInt64 &&& 63)) [97 + k] = true := by decide +kernel
theorem wb_bl : wbB 2305843009213693952 [32] = true := by decide +kernel
theorem wb_dg : ∀ v, v < 10 → wbB ((48 + (nI v).toInt64) <<< ((56 : Int32).toInt64 &&& 63)) [48 + v] = true := by decide +kernel
theorem l_name (W : TW h T t) {k : Nat} (hk : k < 5) (hl : T.length + 40 ≤ 1600) : ∃ g, TW g (T ++ [97 + k, 32]) t ∧ ∀ Q : QT, wq X (d + 12) 149 0 [some (.ref 1), some (.int (nI T.length)), some (.int (nI (97 + k)))] [] h Q = Q (some (.int (nI (T ++ [97 + k, 32]).length))) g := by
  obtain ⟨g1, W1, q1⟩ := l_put (X := X) (d := d) W (wb_nm k hk) (by omega)
  obtain ⟨g2, W2, q2⟩ := l_put (X := X) (d := d) W1 wb_bl (by rw [List.length_append]; show T.length + 1 + 20 ≤ 1600; omega)
  rw [List.append_assoc] at W2 q2
  refine ⟨g2, W2, fun Q => ?_⟩
  simp only [u149_0, u149_1, u149_2, u149_3, u149_4, u149_5, u149_7, u149_8, eq_self, q_nl0, q_nlI, q_nlR, not_false_eq_true, q_nz0, q_nz1, q_zv0, q_zv1, q_tl1, q_tl0, q_wif, q_swc, q_swn, List.cons_append, List.nil_append, if_true, if_false, e10, e01, Bool.false_eq_true, q1]
  simp only [u149_11, u149_14, eq_self, q_nl0, q_nlI, q_nlR, not_false_eq_true, q_nz0, q_nz1, q_zv0, q_zv1, q_tl1, q_tl0, q_wif, q_swc, q_swn, List.cons_append, List.nil_append, if_true, if_false, e10, e01, Bool.false_eq_true, q2]
  simp only [u149_17, eq_self, q_nl0, q_nlI, q_nlR, not_false_eq_true, q_nz0, q_nz1, q_zv0, q_zv1, q_tl1, q_tl0, q_wif, q_swc, q_swn, List.cons_append, List.nil_append, if_true, if_false, e10, e01, Bool.false_eq_true]
end PUT
