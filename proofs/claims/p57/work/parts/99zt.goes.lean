/-! THE THREE RULES, as they are worked out, are the law's own -/
section GOES
variable {τ : CT} {u : UT} {c : Nat → Int32}
theorem gu {i k n h : Nat} (z : τ 9 i = k) (w : τ 10 i = n) (hk : k ∈ fOps) (hh : fH τ i = h) : fH τ (i + 1) = h + 1 ∧ (∀ j, j ≠ h → fC τ u c (i + 1) j = fC τ u c i j) ∧ fC τ u c (i + 1) h = fUnit u k n := by
  have e : fC τ u c (i + 1) = up (fC τ u c i) h (fUnit u k n) := by
    show (if τ 9 i ∈ fOps then up (fC τ u c i) (fH τ i) (fUnit u (τ 9 i) (τ 10 i)) else _) = _
    rw [z, w, if_pos hk, hh]
  refine ⟨?_, fun j hj => by rw [e]; exact up_o hj, by rw [e]; exact up_s⟩
  show (if τ 9 i ∈ fOps then fH τ i + 1 else _) = _
  rw [z, if_pos hk, hh]
theorem gb {i k h : Nat} (z : τ 9 i = k) (hk : k ∉ fOps ∧ k ≠ 126) (hh : fH τ i = h + 2) : fH τ (i + 1) = h + 1 ∧ (∀ j, j ≠ h → fC τ u c (i + 1) j = fC τ u c i j) ∧ fC τ u c (i + 1) h = fJoin k (fC τ u c i h) (fC τ u c i (h + 1)) := by
  have e : fC τ u c (i + 1) = up (fC τ u c i) h (fJoin k (fC τ u c i h) (fC τ u c i (h + 1))) := by
    show (if τ 9 i ∈ fOps then _ else if τ 9 i = 126 then _ else up (fC τ u c i) (fH τ i - 2) (fJoin (τ 9 i) (fC τ u c i (fH τ i - 2)) (fC τ u c i (fH τ i - 1)))) = _
    rw [z, if_neg hk.1, if_neg hk.2, hh]
    rfl
  refine ⟨?_, fun j hj => by rw [e]; exact up_o hj, by rw [e]; exact up_s⟩
  show (if τ 9 i ∈ fOps then fH τ i + 1 else if τ 9 i = 126 then fH τ i else fH τ i - 1) = _
  rw [z, if_neg hk.1, if_neg hk.2, hh]
  rfl
theorem gn {i h : Nat} (z : τ 9 i = 126) (hh : fH τ i = h + 1) : fH τ (i + 1) = h + 1 ∧ (∀ j, j ≠ h → fC τ u c (i + 1) j = fC τ u c i j) ∧ fC τ u c (i + 1) h = if fC τ u c i h = 0 then 1 else 0 := by
  have e : fC τ u c (i + 1) = up (fC τ u c i) h (if fC τ u c i h = 0 then 1 else 0) := by
    show (if τ 9 i ∈ fOps then _ else if τ 9 i = 126 then up (fC τ u c i) (fH τ i - 1) (if fC τ u c i (fH τ i - 1) = 0 then 1 else 0) else _) = _
    rw [z, if_neg (by decide), if_pos rfl, hh]
    rfl
  refine ⟨?_, fun j hj => by rw [e]; exact up_o hj, by rw [e]; exact up_s⟩
  show (if τ 9 i ∈ fOps then fH τ i + 1 else if τ 9 i = 126 then fH τ i else fH τ i - 1) = _
  rw [z, if_neg (by decide), if_pos rfl, hh]
theorem fv_1 (h9 : τ 0 9 = 9) (h : ∀ i, i < 9 → τ 9 i = [108, 110, 61, 121, 111, 110, 43, 62, 124].getD i 0) (h2 : ∀ i, i < 9 → τ 10 i = [0, 0, 0, 0, 0, 3, 0, 0, 0].getD i 0) : fVal τ u = (fJoin 124 (fJoin 61 u.1 (nI 0)) (fJoin 62 u.2.2.2.2.1 (fJoin 43 u.2.2.1 (nI 3)))) := by
  have z0 : τ 9 0 = 108 := by rw [h 0 (by decide)]; rfl
  have w0 : τ 10 0 = 0 := by rw [h2 0 (by decide)]; rfl
  have z1 : τ 9 1 = 110 := by rw [h 1 (by decide)]; rfl
  have w1 : τ 10 1 = 0 := by rw [h2 1 (by decide)]; rfl
  have z2 : τ 9 2 = 61 := by rw [h 2 (by decide)]; rfl
  have w2 : τ 10 2 = 0 := by rw [h2 2 (by decide)]; rfl
  have z3 : τ 9 3 = 121 := by rw [h 3 (by decide)]; rfl
  have w3 : τ 10 3 = 0 := by rw [h2 3 (by decide)]; rfl
  have z4 : τ 9 4 = 111 := by rw [h 4 (by decide)]; rfl
  have w4 : τ 10 4 = 0 := by rw [h2 4 (by decide)]; rfl
  have z5 : τ 9 5 = 110 := by rw [h 5 (by decide)]; rfl
  have w5 : τ 10 5 = 3 := by rw [h2 5 (by decide)]; rfl
  have z6 : τ 9 6 = 43 := by rw [h 6 (by decide)]; rfl
  have w6 : τ 10 6 = 0 := by rw [h2 6 (by decide)]; rfl
  have z7 : τ 9 7 = 62 := by rw [h 7 (by decide)]; rfl
  have w7 : τ 10 7 = 0 := by rw [h2 7 (by decide)]; rfl
  have z8 : τ 9 8 = 124 := by rw [h 8 (by decide)]; rfl
  have w8 : τ 10 8 = 0 := by rw [h2 8 (by decide)]; rfl
  have e0 : fH τ 0 = 0 := rfl
  obtain ⟨e1, f1, v1_0⟩ := gu (u := u) (c := fun _ => 0) z0 w0 (by decide) e0
  have v1_0 : fC τ u (fun _ => 0) 1 0 = u.1 := v1_0
  obtain ⟨e2, f2, v2_1⟩ := gu (u := u) (c := fun _ => 0) z1 w1 (by decide) e1
  have v2_1 : fC τ u (fun _ => 0) 2 1 = (nI 0) := v2_1
  have v2_0 : fC τ u (fun _ => 0) 2 0 = u.1 := (f2 0 (by decide)).trans v1_0
  obtain ⟨e3, f3, v3_0⟩ := gb (u := u) (c := fun _ => 0) z2 (by decide) e2
  rw [v2_0, v2_1] at v3_0
  obtain ⟨e4, f4, v4_1⟩ := gu (u := u) (c := fun _ => 0) z3 w3 (by decide) e3
  have v4_1 : fC τ u (fun _ => 0) 4 1 = u.2.2.2.2.1 := v4_1
  have v4_0 : fC τ u (fun _ => 0) 4 0 = (fJoin 61 u.1 (nI 0)) := (f4 0 (by decide)).trans v3_0
  obtain ⟨e5, f5, v5_2⟩ := gu (u := u) (c := fun _ => 0) z4 w4 (by decide) e4
  have v5_2 : fC τ u (fun _ => 0) 5 2 = u.2.2.1 := v5_2
  have v5_0 : fC τ u (fun _ => 0) 5 0 = (fJoin 61 u.1 (nI 0)) := (f5 0 (by decide)).trans v4_0
  have v5_1 : fC τ u (fun _ => 0) 5 1 = u.2.2.2.2.1 := (f5 1 (by decide)).trans v4_1
  obtain ⟨e6, f6, v6_3⟩ := gu (u := u) (c := fun _ => 0) z5 w5 (by decide) e5
  have v6_3 : fC τ u (fun _ => 0) 6 3 = (nI 3) := v6_3
  have v6_0 : fC τ u (fun _ => 0) 6 0 = (fJoin 61 u.1 (nI 0)) := (f6 0 (by decide)).trans v5_0
  have v6_1 : fC τ u (fun _ => 0) 6 1 = u.2.2.2.2.1 := (f6 1 (by decide)).trans v5_1
  have v6_2 : fC τ u (fun _ => 0) 6 2 = u.2.2.1 := (f6 2 (by decide)).trans v5_2
  obtain ⟨e7, f7, v7_2⟩ := gb (u := u) (c := fun _ => 0) z6 (by decide) e6
  rw [v6_2, v6_3] at v7_2
  have v7_0 : fC τ u (fun _ => 0) 7 0 = (fJoin 61 u.1 (nI 0)) := (f7 0 (by decide)).trans v6_0
  have v7_1 : fC τ u (fun _ => 0) 7 1 = u.2.2.2.2.1 := (f7 1 (by decide)).trans v6_1
  obtain ⟨e8, f8, v8_1⟩ := gb (u := u) (c := fun _ => 0) z7 (by decide) e7
  rw [v7_1, v7_2] at v8_1
  have v8_0 : fC τ u (fun _ => 0) 8 0 = (fJoin 61 u.1 (nI 0)) := (f8 0 (by decide)).trans v7_0
  obtain ⟨e9, f9, v9_0⟩ := gb (u := u) (c := fun _ => 0) z8 (by decide) e8
  rw [v8_0, v8_1] at v9_0
  unfold fVal
  rw [h9]
  exact v9_0
theorem fv_2 (h9 : τ 0 9 = 5) (h : ∀ i, i < 5 → τ 9 i = [103, 110, 115, 45, 60].getD i 0) (h2 : ∀ i, i < 5 → τ 10 i = [0, 2, 0, 0, 0].getD i 0) : fVal τ u = (fJoin 60 u.2.2.2.1 (fJoin 45 (nI 2) u.2.2.2.2.2)) := by
  have z0 : τ 9 0 = 103 := by rw [h 0 (by decide)]; rfl
  have w0 : τ 10 0 = 0 := by rw [h2 0 (by decide)]; rfl
  have z1 : τ 9 1 = 110 := by rw [h 1 (by decide)]; rfl
  have w1 : τ 10 1 = 2 := by rw [h2 1 (by decide)]; rfl
  have z2 : τ 9 2 = 115 := by rw [h 2 (by decide)]; rfl
  have w2 : τ 10 2 = 0 := by rw [h2 2 (by decide)]; rfl
  have z3 : τ 9 3 = 45 := by rw [h 3 (by decide)]; rfl
  have w3 : τ 10 3 = 0 := by rw [h2 3 (by decide)]; rfl
  have z4 : τ 9 4 = 60 := by rw [h 4 (by decide)]; rfl
  have w4 : τ 10 4 = 0 := by rw [h2 4 (by decide)]; rfl
  have e0 : fH τ 0 = 0 := rfl
  obtain ⟨e1, f1, v1_0⟩ := gu (u := u) (c := fun _ => 0) z0 w0 (by decide) e0
  have v1_0 : fC τ u (fun _ => 0) 1 0 = u.2.2.2.1 := v1_0
  obtain ⟨e2, f2, v2_1⟩ := gu (u := u) (c := fun _ => 0) z1 w1 (by decide) e1
  have v2_1 : fC τ u (fun _ => 0) 2 1 = (nI 2) := v2_1
  have v2_0 : fC τ u (fun _ => 0) 2 0 = u.2.2.2.1 := (f2 0 (by decide)).trans v1_0
  obtain ⟨e3, f3, v3_2⟩ := gu (u := u) (c := fun _ => 0) z2 w2 (by decide) e2
  have v3_2 : fC τ u (fun _ => 0) 3 2 = u.2.2.2.2.2 := v3_2
  have v3_0 : fC τ u (fun _ => 0) 3 0 = u.2.2.2.1 := (f3 0 (by decide)).trans v2_0
  have v3_1 : fC τ u (fun _ => 0) 3 1 = (nI 2) := (f3 1 (by decide)).trans v2_1
  obtain ⟨e4, f4, v4_1⟩ := gb (u := u) (c := fun _ => 0) z3 (by decide) e3
  rw [v3_1, v3_2] at v4_1
  have v4_0 : fC τ u (fun _ => 0) 4 0 = u.2.2.2.1 := (f4 0 (by decide)).trans v3_0
  obtain ⟨e5, f5, v5_0⟩ := gb (u := u) (c := fun _ => 0) z4 (by decide) e4
  rw [v4_0, v4_1] at v5_0
  unfold fVal
  rw [h9]
  exact v5_0
theorem fv_3 (h9 : τ 0 9 = 12) (h : ∀ i, i < 12 → τ 9 i = [108, 103, 43, 100, 110, 47, 60, 115, 110, 61, 126, 38].getD i 0) (h2 : ∀ i, i < 12 → τ 10 i = [0, 0, 0, 0, 4, 0, 0, 0, 3, 0, 0, 0].getD i 0) : fVal τ u = (fJoin 38 (fJoin 60 (fJoin 43 u.1 u.2.2.2.1) (fJoin 47 u.2.1 (nI 4))) (if (fJoin 61 u.2.2.2.2.2 (nI 3)) = 0 then (1 : Int32) else 0)) := by
  have z0 : τ 9 0 = 108 := by rw [h 0 (by decide)]; rfl
  have w0 : τ 10 0 = 0 := by rw [h2 0 (by decide)]; rfl
  have z1 : τ 9 1 = 103 := by rw [h 1 (by decide)]; rfl
  have w1 : τ 10 1 = 0 := by rw [h2 1 (by decide)]; rfl
  have z2 : τ 9 2 = 43 := by rw [h 2 (by decide)]; rfl
  have w2 : τ 10 2 = 0 := by rw [h2 2 (by decide)]; rfl
  have z3 : τ 9 3 = 100 := by rw [h 3 (by decide)]; rfl
  have w3 : τ 10 3 = 0 := by rw [h2 3 (by decide)]; rfl
  have z4 : τ 9 4 = 110 := by rw [h 4 (by decide)]; rfl
  have w4 : τ 10 4 = 4 := by rw [h2 4 (by decide)]; rfl
  have z5 : τ 9 5 = 47 := by rw [h 5 (by decide)]; rfl
  have w5 : τ 10 5 = 0 := by rw [h2 5 (by decide)]; rfl
  have z6 : τ 9 6 = 60 := by rw [h 6 (by decide)]; rfl
  have w6 : τ 10 6 = 0 := by rw [h2 6 (by decide)]; rfl
  have z7 : τ 9 7 = 115 := by rw [h 7 (by decide)]; rfl
  have w7 : τ 10 7 = 0 := by rw [h2 7 (by decide)]; rfl
  have z8 : τ 9 8 = 110 := by rw [h 8 (by decide)]; rfl
  have w8 : τ 10 8 = 3 := by rw [h2 8 (by decide)]; rfl
  have z9 : τ 9 9 = 61 := by rw [h 9 (by decide)]; rfl
  have w9 : τ 10 9 = 0 := by rw [h2 9 (by decide)]; rfl
  have z10 : τ 9 10 = 126 := by rw [h 10 (by decide)]; rfl
  have w10 : τ 10 10 = 0 := by rw [h2 10 (by decide)]; rfl
  have z11 : τ 9 11 = 38 := by rw [h 11 (by decide)]; rfl
  have w11 : τ 10 11 = 0 := by rw [h2 11 (by decide)]; rfl
  have e0 : fH τ 0 = 0 := rfl
  obtain ⟨e1, f1, v1_0⟩ := gu (u := u) (c := fun _ => 0) z0 w0 (by decide) e0
  have v1_0 : fC τ u (fun _ => 0) 1 0 = u.1 := v1_0
  obtain ⟨e2, f2, v2_1⟩ := gu (u := u) (c := fun _ => 0) z1 w1 (by decide) e1
  have v2_1 : fC τ u (fun _ => 0) 2 1 = u.2.2.2.1 := v2_1
  have v2_0 : fC τ u (fun _ => 0) 2 0 = u.1 := (f2 0 (by decide)).trans v1_0
  obtain ⟨e3, f3, v3_0⟩ := gb (u := u) (c := fun _ => 0) z2 (by decide) e2
  rw [v2_0, v2_1] at v3_0
  obtain ⟨e4, f4, v4_1⟩ := gu (u := u) (c := fun _ => 0) z3 w3 (by decide) e3
  have v4_1 : fC τ u (fun _ => 0) 4 1 = u.2.1 := v4_1
  have v4_0 : fC τ u (fun _ => 0) 4 0 = (fJoin 43 u.1 u.2.2.2.1) := (f4 0 (by decide)).trans v3_0
  obtain ⟨e5, f5, v5_2⟩ := gu (u := u) (c := fun _ => 0) z4 w4 (by decide) e4
  have v5_2 : fC τ u (fun _ => 0) 5 2 = (nI 4) := v5_2
  have v5_0 : fC τ u (fun _ => 0) 5 0 = (fJoin 43 u.1 u.2.2.2.1) := (f5 0 (by decide)).trans v4_0
  have v5_1 : fC τ u (fun _ => 0) 5 1 = u.2.1 := (f5 1 (by decide)).trans v4_1
  obtain ⟨e6, f6, v6_1⟩ := gb (u := u) (c := fun _ => 0) z5 (by decide) e5
  rw [v5_1, v5_2] at v6_1
  have v6_0 : fC τ u (fun _ => 0) 6 0 = (fJoin 43 u.1 u.2.2.2.1) := (f6 0 (by decide)).trans v5_0
  obtain ⟨e7, f7, v7_0⟩ := gb (u := u) (c := fun _ => 0) z6 (by decide) e6
  rw [v6_0, v6_1] at v7_0
  obtain ⟨e8, f8, v8_1⟩ := gu (u := u) (c := fun _ => 0) z7 w7 (by decide) e7
  have v8_1 : fC τ u (fun _ => 0) 8 1 = u.2.2.2.2.2 := v8_1
  have v8_0 : fC τ u (fun _ => 0) 8 0 = (fJoin 60 (fJoin 43 u.1 u.2.2.2.1) (fJoin 47 u.2.1 (nI 4))) := (f8 0 (by decide)).trans v7_0
  obtain ⟨e9, f9, v9_2⟩ := gu (u := u) (c := fun _ => 0) z8 w8 (by decide) e8
  have v9_2 : fC τ u (fun _ => 0) 9 2 = (nI 3) := v9_2
  have v9_0 : fC τ u (fun _ => 0) 9 0 = (fJoin 60 (fJoin 43 u.1 u.2.2.2.1) (fJoin 47 u.2.1 (nI 4))) := (f9 0 (by decide)).trans v8_0
  have v9_1 : fC τ u (fun _ => 0) 9 1 = u.2.2.2.2.2 := (f9 1 (by decide)).trans v8_1
  obtain ⟨e10, f10, v10_1⟩ := gb (u := u) (c := fun _ => 0) z9 (by decide) e9
  rw [v9_1, v9_2] at v10_1
  have v10_0 : fC τ u (fun _ => 0) 10 0 = (fJoin 60 (fJoin 43 u.1 u.2.2.2.1) (fJoin 47 u.2.1 (nI 4))) := (f10 0 (by decide)).trans v9_0
  obtain ⟨e11, f11, v11_1⟩ := gn (u := u) (c := fun _ => 0) z10 e10
  rw [v10_1] at v11_1
  have v11_0 : fC τ u (fun _ => 0) 11 0 = (fJoin 60 (fJoin 43 u.1 u.2.2.2.1) (fJoin 47 u.2.1 (nI 4))) := (f11 0 (by decide)).trans v10_0
  obtain ⟨e12, f12, v12_0⟩ := gb (u := u) (c := fun _ => 0) z11 (by decide) e11
  rw [v11_0, v11_1] at v12_0
  unfold fVal
  rw [h9]
  exact v12_0
theorem go_0 {n m : Nat} {l y : Int32} (h9 : τ 0 9 = 0) : sGoes τ n l y m = lwB τ 0 n l y m := by
  unfold sGoes lwB
  rw [if_pos h9, if_pos rfl]
theorem go_1 {n m : Nat} {l y : Int32} (h9 : τ 0 9 = 9) (h : ∀ i, i < 9 → τ 9 i = [108, 110, 61, 121, 111, 110, 43, 62, 124].getD i 0) (h2 : ∀ i, i < 9 → τ 10 i = [0, 0, 0, 0, 0, 3, 0, 0, 0].getD i 0) : sGoes τ n l y m = lwB τ 1 n l y m := by
  unfold sGoes lwB
  rw [if_neg (by omega), fv_1 h9 h h2, if_neg (by decide), if_pos rfl]
  unfold sU
  show decide ((if (if l = nI 0 then (1 : Int32) else 0) = 0 then if (if nI (τ 6 m) + nI 3 < y then (1 : Int32) else 0) = 0 then 0 else 1 else 1) ≠ 0) = (decide (l = 0) || decide (nI (τ 6 m) + 3 < y))
  rw [show nI 0 = (0 : Int32) from rfl, show nI 3 = (3 : Int32) from rfl]
  by_cases a : l = 0
  · simp [a]
  · by_cases b : nI (τ 6 m) + 3 < y
    · simp [a, b]
    · simp [a, b]
theorem go_2 {n m : Nat} {l y : Int32} (h9 : τ 0 9 = 5) (h : ∀ i, i < 5 → τ 9 i = [103, 110, 115, 45, 60].getD i 0) (h2 : ∀ i, i < 5 → τ 10 i = [0, 2, 0, 0, 0].getD i 0) : sGoes τ n l y m = lwB τ 2 n l y m := by
  unfold sGoes lwB
  rw [if_neg (by omega), fv_2 h9 h h2, if_neg (by decide), if_neg (by decide), if_pos rfl]
  unfold sU
  show decide ((if nI (pcN n) - 1 < nI 2 - nI (pcN (sShort τ n)) then (1 : Int32) else 0) ≠ 0) = decide (nI (pcN n) - 1 < 2 - nI (pcN (sShort τ n)))
  rw [show nI 2 = (2 : Int32) from rfl]
  by_cases a : nI (pcN n) - 1 < 2 - nI (pcN (sShort τ n))
  · simp [a]
  · simp [a]
theorem go_3 {n m : Nat} {l y : Int32} (h9 : τ 0 9 = 12) (h : ∀ i, i < 12 → τ 9 i = [108, 103, 43, 100, 110, 47, 60, 115, 110, 61, 126, 38].getD i 0) (h2 : ∀ i, i < 12 → τ 10 i = [0, 0, 0, 0, 4, 0, 0, 0, 3, 0, 0, 0].getD i 0) : sGoes τ n l y m = lwB τ 3 n l y m := by
  unfold sGoes lwB
  rw [if_neg (by omega), fv_3 h9 h h2, if_neg (show ¬ (3 : Nat) = 0 by decide), if_neg (show ¬ (3 : Nat) = 1 by decide), if_neg (show ¬ (3 : Nat) = 2 by decide)]
  unfold sU
  have e47 : fJoin 47 (nI (τ 5 m)) (nI 4) = nI (τ 5 m) / 4 := by
    unfold fJoin
    simp
    rfl
  show decide (fJoin 38 (fJoin 60 (l + (nI (pcN n) - 1)) (fJoin 47 (nI (τ 5 m)) (nI 4))) (if (if nI (pcN (sShort τ n)) = nI 3 then (1 : Int32) else 0) = 0 then 1 else 0) ≠ 0) = (decide (l + (nI (pcN n) - 1) < nI (τ 5 m) / 4) && !decide (nI (pcN (sShort τ n)) = 3))
  rw [e47, show nI 3 = (3 : Int32) from rfl]
  show decide ((if (if l + (nI (pcN n) - 1) < nI (τ 5 m) / 4 then (1 : Int32) else 0) = 0 then (0 : Int32) else if (if (if nI (pcN (sShort τ n)) = 3 then (1 : Int32) else 0) = 0 then (1 : Int32) else 0) = 0 then 0 else 1) ≠ 0) = _
  by_cases a : l + (nI (pcN n) - 1) < nI (τ 5 m) / 4
  · by_cases b : nI (pcN (sShort τ n)) = 3
    · simp [a, b]
    · simp [a, b]
  · simp [a]
end GOES
