/-! which cell points where: what no call changes -/
def PT : List (Nat × Nat × Nat) := [(1, 0, 2), (1, 1, 4), (1, 3, 38), (1, 4, 41), (1, 5, 44), (1, 6, 169), (1, 7, 170), (1, 8, 171), (1, 9, 178), (1, 10, 179), (2, 0, 3), (4, 0, 2), (4, 4, 20), (4, 5, 21), (4, 6, 22), (5, 1, 6), (5, 2, 7), (5, 3, 8), (5, 5, 9), (5, 6, 10), (5, 7, 11), (5, 8, 12), (5, 11, 13), (5, 12, 14), (5, 13, 15), (5, 17, 18), (5, 18, 19), (15, 0, 16), (15, 3, 17), (23, 1, 24), (23, 2, 25), (23, 3, 26), (23, 5, 27), (23, 6, 28), (23, 7, 29), (23, 8, 30), (23, 11, 31), (23, 12, 32), (23, 13, 33), (23, 17, 36), (23, 18, 37), (33, 0, 34), (33, 3, 35), (38, 1, 39), (38, 2, 40), (41, 1, 42), (41, 2, 43), (44, 0, 45), (45, 0, 46), (45, 1, 49), (45, 2, 52), (45, 3, 55), (45, 4, 58), (45, 5, 61), (45, 6, 64), (45, 7, 67), (45, 8, 70), (45, 9, 73), (45, 10, 76), (45, 11, 79), (45, 12, 82), (45, 13, 85), (45, 14, 88), (45, 15, 91), (45, 16, 94), (45, 17, 97), (45, 18, 100), (45, 19, 103), (45, 20, 106), (45, 21, 109), (45, 22, 112), (45, 23, 115), (45, 24, 118), (45, 25, 121), (45, 26, 124), (45, 27, 127), (45, 28, 130), (45, 29, 133), (45, 30, 136), (45, 31, 139), (45, 32, 142), (45, 33, 145), (45, 34, 148), (45, 35, 151), (45, 36, 154), (45, 37, 157), (45, 38, 160), (45, 39, 163), (45, 40, 166), (46, 1, 47), (46, 2, 48), (49, 1, 50), (49, 2, 51), (52, 1, 53), (52, 2, 54), (55, 1, 56), (55, 2, 57), (58, 1, 59), (58, 2, 60), (61, 1, 62), (61, 2, 63), (64, 1, 65), (64, 2, 66), (67, 1, 68), (67, 2, 69), (70, 1, 71), (70, 2, 72), (73, 1, 74), (73, 2, 75), (76, 1, 77), (76, 2, 78), (79, 1, 80), (79, 2, 81), (82, 1, 83), (82, 2, 84), (85, 1, 86), (85, 2, 87), (88, 1, 89), (88, 2, 90), (91, 1, 92), (91, 2, 93), (94, 1, 95), (94, 2, 96), (97, 1, 98), (97, 2, 99), (100, 1, 101), (100, 2, 102), (103, 1, 104), (103, 2, 105), (106, 1, 107), (106, 2, 108), (109, 1, 110), (109, 2, 111), (112, 1, 113), (112, 2, 114), (115, 1, 116), (115, 2, 117), (118, 1, 119), (118, 2, 120), (121, 1, 122), (121, 2, 123), (124, 1, 125), (124, 2, 126), (127, 1, 128), (127, 2, 129), (130, 1, 131), (130, 2, 132), (133, 1, 134), (133, 2, 135), (136, 1, 137), (136, 2, 138), (139, 1, 140), (139, 2, 141), (142, 1, 143), (142, 2, 144), (145, 1, 146), (145, 2, 147), (148, 1, 149), (148, 2, 150), (151, 1, 152), (151, 2, 153), (154, 1, 155), (154, 2, 156), (157, 1, 158), (157, 2, 159), (160, 1, 161), (160, 2, 162), (163, 1, 164), (163, 2, 165), (166, 1, 167), (166, 2, 168), (169, 0, 186), (169, 1, 189), (169, 2, 192), (171, 0, 172), (171, 1, 175), (171, 2, 176), (171, 3, 177), (172, 1, 173), (172, 2, 174), (179, 0, 180), (179, 1, 181), (179, 2, 182), (179, 3, 183), (179, 4, 184), (179, 8, 185), (186, 1, 187), (186, 2, 188), (189, 1, 190), (189, 2, 191), (192, 1, 193), (192, 2, 194)]
def Ptr (h : HT) : Prop := ∀ q ∈ PT, m_gR h q.1 q.2.1 = q.2.2
theorem Ptr_sI {h : HT} {a k : Nat} {v : Int32} : Ptr (m_sI h a k v) = Ptr h := rfl
theorem Ptr_sL {h : HT} {a k : Nat} {v : Int64} : Ptr (m_sL h a k v) = Ptr h := rfl
theorem Ptr_of {h h' : HT} (hp : Ptr h) (e : ∀ a k, m_gR h' a k = m_gR h a k) : Ptr h' := fun q hq => (e q.1 q.2.1).trans (hp q hq)
def isT (T : Nat) : Prop := T = 5 ∨ T = 23
def stIds : List Nat := [38, 41, 46, 49, 52, 55, 58, 61, 64, 67, 70, 73, 76, 79, 82, 85, 88, 91, 94, 97, 100, 103, 106, 109, 112, 115, 118, 121, 124, 127, 130, 133, 136, 139, 142, 145, 148, 151, 154, 157, 160, 163, 166, 172, 186, 189, 192]
def isS (a : Nat) : Prop := a ∈ stIds
theorem p_1_0 {h : HT} (hp : Ptr h) : m_gR h 1 0 = 2 := hp (1, 0, 2) (List.mem_of_getElem? (i := 0) rfl)
theorem p_1_1 {h : HT} (hp : Ptr h) : m_gR h 1 1 = 4 := hp (1, 1, 4) (List.mem_of_getElem? (i := 1) rfl)
theorem p_1_3 {h : HT} (hp : Ptr h) : m_gR h 1 3 = 38 := hp (1, 3, 38) (List.mem_of_getElem? (i := 2) rfl)
theorem p_1_4 {h : HT} (hp : Ptr h) : m_gR h 1 4 = 41 := hp (1, 4, 41) (List.mem_of_getElem? (i := 3) rfl)
theorem p_1_5 {h : HT} (hp : Ptr h) : m_gR h 1 5 = 44 := hp (1, 5, 44) (List.mem_of_getElem? (i := 4) rfl)
theorem p_1_6 {h : HT} (hp : Ptr h) : m_gR h 1 6 = 169 := hp (1, 6, 169) (List.mem_of_getElem? (i := 5) rfl)
theorem p_1_7 {h : HT} (hp : Ptr h) : m_gR h 1 7 = 170 := hp (1, 7, 170) (List.mem_of_getElem? (i := 6) rfl)
theorem p_1_8 {h : HT} (hp : Ptr h) : m_gR h 1 8 = 171 := hp (1, 8, 171) (List.mem_of_getElem? (i := 7) rfl)
theorem p_1_9 {h : HT} (hp : Ptr h) : m_gR h 1 9 = 178 := hp (1, 9, 178) (List.mem_of_getElem? (i := 8) rfl)
theorem p_1_10 {h : HT} (hp : Ptr h) : m_gR h 1 10 = 179 := hp (1, 10, 179) (List.mem_of_getElem? (i := 9) rfl)
theorem p_2_0 {h : HT} (hp : Ptr h) : m_gR h 2 0 = 3 := hp (2, 0, 3) (List.mem_of_getElem? (i := 10) rfl)
theorem p_4_0 {h : HT} (hp : Ptr h) : m_gR h 4 0 = 2 := hp (4, 0, 2) (List.mem_of_getElem? (i := 11) rfl)
theorem p_4_4 {h : HT} (hp : Ptr h) : m_gR h 4 4 = 20 := hp (4, 4, 20) (List.mem_of_getElem? (i := 12) rfl)
theorem p_4_5 {h : HT} (hp : Ptr h) : m_gR h 4 5 = 21 := hp (4, 5, 21) (List.mem_of_getElem? (i := 13) rfl)
theorem p_4_6 {h : HT} (hp : Ptr h) : m_gR h 4 6 = 22 := hp (4, 6, 22) (List.mem_of_getElem? (i := 14) rfl)
theorem p_44_0 {h : HT} (hp : Ptr h) : m_gR h 44 0 = 45 := hp (44, 0, 45) (List.mem_of_getElem? (i := 47) rfl)
theorem p_169_0 {h : HT} (hp : Ptr h) : m_gR h 169 0 = 186 := hp (169, 0, 186) (List.mem_of_getElem? (i := 171) rfl)
theorem p_169_1 {h : HT} (hp : Ptr h) : m_gR h 169 1 = 189 := hp (169, 1, 189) (List.mem_of_getElem? (i := 172) rfl)
theorem p_169_2 {h : HT} (hp : Ptr h) : m_gR h 169 2 = 192 := hp (169, 2, 192) (List.mem_of_getElem? (i := 173) rfl)
theorem p_171_0 {h : HT} (hp : Ptr h) : m_gR h 171 0 = 172 := hp (171, 0, 172) (List.mem_of_getElem? (i := 174) rfl)
theorem p_171_1 {h : HT} (hp : Ptr h) : m_gR h 171 1 = 175 := hp (171, 1, 175) (List.mem_of_getElem? (i := 175) rfl)
theorem p_171_2 {h : HT} (hp : Ptr h) : m_gR h 171 2 = 176 := hp (171, 2, 176) (List.mem_of_getElem? (i := 176) rfl)
theorem p_171_3 {h : HT} (hp : Ptr h) : m_gR h 171 3 = 177 := hp (171, 3, 177) (List.mem_of_getElem? (i := 177) rfl)
theorem p_179_0 {h : HT} (hp : Ptr h) : m_gR h 179 0 = 180 := hp (179, 0, 180) (List.mem_of_getElem? (i := 180) rfl)
theorem p_179_1 {h : HT} (hp : Ptr h) : m_gR h 179 1 = 181 := hp (179, 1, 181) (List.mem_of_getElem? (i := 181) rfl)
theorem p_179_2 {h : HT} (hp : Ptr h) : m_gR h 179 2 = 182 := hp (179, 2, 182) (List.mem_of_getElem? (i := 182) rfl)
theorem p_179_3 {h : HT} (hp : Ptr h) : m_gR h 179 3 = 183 := hp (179, 3, 183) (List.mem_of_getElem? (i := 183) rfl)
theorem p_179_4 {h : HT} (hp : Ptr h) : m_gR h 179 4 = 184 := hp (179, 4, 184) (List.mem_of_getElem? (i := 184) rfl)
theorem p_179_8 {h : HT} (hp : Ptr h) : m_gR h 179 8 = 185 := hp (179, 8, 185) (List.mem_of_getElem? (i := 185) rfl)
theorem p_ring {h : HT} (hp : Ptr h) : ∀ i, i < 41 → m_gR h 45 i = 46 + 3 * i := by
  have key : ∀ i, i < 41 → (45, i, 46 + 3 * i) ∈ PT := by decide +kernel
  exact fun i hi => hp _ (key i hi)
theorem pT_1 {h : HT} {T : Nat} (hT : isT T) (hp : Ptr h) : m_gR h T 1 = T + 1 := by
  rcases hT with rfl | rfl
  · exact hp (5, 1, 6) (List.mem_of_getElem? (i := 15) rfl)
  · exact hp (23, 1, 24) (List.mem_of_getElem? (i := 29) rfl)
theorem pT_2 {h : HT} {T : Nat} (hT : isT T) (hp : Ptr h) : m_gR h T 2 = T + 2 := by
  rcases hT with rfl | rfl
  · exact hp (5, 2, 7) (List.mem_of_getElem? (i := 16) rfl)
  · exact hp (23, 2, 25) (List.mem_of_getElem? (i := 30) rfl)
theorem pT_3 {h : HT} {T : Nat} (hT : isT T) (hp : Ptr h) : m_gR h T 3 = T + 3 := by
  rcases hT with rfl | rfl
  · exact hp (5, 3, 8) (List.mem_of_getElem? (i := 17) rfl)
  · exact hp (23, 3, 26) (List.mem_of_getElem? (i := 31) rfl)
theorem pT_5 {h : HT} {T : Nat} (hT : isT T) (hp : Ptr h) : m_gR h T 5 = T + 4 := by
  rcases hT with rfl | rfl
  · exact hp (5, 5, 9) (List.mem_of_getElem? (i := 18) rfl)
  · exact hp (23, 5, 27) (List.mem_of_getElem? (i := 32) rfl)
theorem pT_6 {h : HT} {T : Nat} (hT : isT T) (hp : Ptr h) : m_gR h T 6 = T + 5 := by
  rcases hT with rfl | rfl
  · exact hp (5, 6, 10) (List.mem_of_getElem? (i := 19) rfl)
  · exact hp (23, 6, 28) (List.mem_of_getElem? (i := 33) rfl)
theorem pT_7 {h : HT} {T : Nat} (hT : isT T) (hp : Ptr h) : m_gR h T 7 = T + 6 := by
  rcases hT with rfl | rfl
  · exact hp (5, 7, 11) (List.mem_of_getElem? (i := 20) rfl)
  · exact hp (23, 7, 29) (List.mem_of_getElem? (i := 34) rfl)
theorem pT_8 {h : HT} {T : Nat} (hT : isT T) (hp : Ptr h) : m_gR h T 8 = T + 7 := by
  rcases hT with rfl | rfl
  · exact hp (5, 8, 12) (List.mem_of_getElem? (i := 21) rfl)
  · exact hp (23, 8, 30) (List.mem_of_getElem? (i := 35) rfl)
theorem pT_11 {h : HT} {T : Nat} (hT : isT T) (hp : Ptr h) : m_gR h T 11 = T + 8 := by
  rcases hT with rfl | rfl
  · exact hp (5, 11, 13) (List.mem_of_getElem? (i := 22) rfl)
  · exact hp (23, 11, 31) (List.mem_of_getElem? (i := 36) rfl)
theorem pT_12 {h : HT} {T : Nat} (hT : isT T) (hp : Ptr h) : m_gR h T 12 = T + 9 := by
  rcases hT with rfl | rfl
  · exact hp (5, 12, 14) (List.mem_of_getElem? (i := 23) rfl)
  · exact hp (23, 12, 32) (List.mem_of_getElem? (i := 37) rfl)
theorem pT_13 {h : HT} {T : Nat} (hT : isT T) (hp : Ptr h) : m_gR h T 13 = T + 10 := by
  rcases hT with rfl | rfl
  · exact hp (5, 13, 15) (List.mem_of_getElem? (i := 24) rfl)
  · exact hp (23, 13, 33) (List.mem_of_getElem? (i := 38) rfl)
theorem pT_17 {h : HT} {T : Nat} (hT : isT T) (hp : Ptr h) : m_gR h T 17 = T + 13 := by
  rcases hT with rfl | rfl
  · exact hp (5, 17, 18) (List.mem_of_getElem? (i := 25) rfl)
  · exact hp (23, 17, 36) (List.mem_of_getElem? (i := 39) rfl)
theorem pT_18 {h : HT} {T : Nat} (hT : isT T) (hp : Ptr h) : m_gR h T 18 = T + 14 := by
  rcases hT with rfl | rfl
  · exact hp (5, 18, 19) (List.mem_of_getElem? (i := 26) rfl)
  · exact hp (23, 18, 37) (List.mem_of_getElem? (i := 40) rfl)
theorem pF_0 {h : HT} {T : Nat} (hT : isT T) (hp : Ptr h) : m_gR h (T + 10) 0 = T + 11 := by
  rcases hT with rfl | rfl
  · exact hp (15, 0, 16) (List.mem_of_getElem? (i := 27) rfl)
  · exact hp (33, 0, 34) (List.mem_of_getElem? (i := 41) rfl)
theorem pF_3 {h : HT} {T : Nat} (hT : isT T) (hp : Ptr h) : m_gR h (T + 10) 3 = T + 12 := by
  rcases hT with rfl | rfl
  · exact hp (15, 3, 17) (List.mem_of_getElem? (i := 28) rfl)
  · exact hp (33, 3, 35) (List.mem_of_getElem? (i := 42) rfl)
theorem shT_0 {X : XT} {T : Nat} (hT : isT T) : m_sh (KS X) T = (9, 19) := by
  rcases hT with rfl | rfl <;> exact (sh_le (Nat.le_of_ble_eq_true rfl)).trans (by decide +kernel)
theorem shT_1 {X : XT} {T : Nat} (hT : isT T) : m_sh (KS X) (T + 1) = (20, 4) := by
  rcases hT with rfl | rfl <;> exact (sh_le (Nat.le_of_ble_eq_true rfl)).trans (by decide +kernel)
theorem shT_2 {X : XT} {T : Nat} (hT : isT T) : m_sh (KS X) (T + 2) = (20, 4) := by
  rcases hT with rfl | rfl <;> exact (sh_le (Nat.le_of_ble_eq_true rfl)).trans (by decide +kernel)
theorem shT_3 {X : XT} {T : Nat} (hT : isT T) : m_sh (KS X) (T + 3) = (20, 4) := by
  rcases hT with rfl | rfl <;> exact (sh_le (Nat.le_of_ble_eq_true rfl)).trans (by decide +kernel)
theorem shT_4 {X : XT} {T : Nat} (hT : isT T) : m_sh (KS X) (T + 4) = (20, 7) := by
  rcases hT with rfl | rfl <;> exact (sh_le (Nat.le_of_ble_eq_true rfl)).trans (by decide +kernel)
theorem shT_5 {X : XT} {T : Nat} (hT : isT T) : m_sh (KS X) (T + 5) = (20, 7) := by
  rcases hT with rfl | rfl <;> exact (sh_le (Nat.le_of_ble_eq_true rfl)).trans (by decide +kernel)
theorem shT_6 {X : XT} {T : Nat} (hT : isT T) : m_sh (KS X) (T + 6) = (20, 7) := by
  rcases hT with rfl | rfl <;> exact (sh_le (Nat.le_of_ble_eq_true rfl)).trans (by decide +kernel)
theorem shT_7 {X : XT} {T : Nat} (hT : isT T) : m_sh (KS X) (T + 7) = (20, 7) := by
  rcases hT with rfl | rfl <;> exact (sh_le (Nat.le_of_ble_eq_true rfl)).trans (by decide +kernel)
theorem shT_8 {X : XT} {T : Nat} (hT : isT T) : m_sh (KS X) (T + 8) = (20, 5) := by
  rcases hT with rfl | rfl <;> exact (sh_le (Nat.le_of_ble_eq_true rfl)).trans (by decide +kernel)
theorem shT_9 {X : XT} {T : Nat} (hT : isT T) : m_sh (KS X) (T + 9) = (20, 5) := by
  rcases hT with rfl | rfl <;> exact (sh_le (Nat.le_of_ble_eq_true rfl)).trans (by decide +kernel)
theorem shT_10 {X : XT} {T : Nat} (hT : isT T) : m_sh (KS X) (T + 10) = (2, 5) := by
  rcases hT with rfl | rfl <;> exact (sh_le (Nat.le_of_ble_eq_true rfl)).trans (by decide +kernel)
theorem shT_11 {X : XT} {T : Nat} (hT : isT T) : m_sh (KS X) (T + 11) = (20, 1600) := by
  rcases hT with rfl | rfl <;> exact (sh_le (Nat.le_of_ble_eq_true rfl)).trans (by decide +kernel)
theorem shT_12 {X : XT} {T : Nat} (hT : isT T) : m_sh (KS X) (T + 12) = (20, 30) := by
  rcases hT with rfl | rfl <;> exact (sh_le (Nat.le_of_ble_eq_true rfl)).trans (by decide +kernel)
theorem shT_13 {X : XT} {T : Nat} (hT : isT T) : m_sh (KS X) (T + 13) = (20, 128) := by
  rcases hT with rfl | rfl <;> exact (sh_le (Nat.le_of_ble_eq_true rfl)).trans (by decide +kernel)
theorem shT_14 {X : XT} {T : Nat} (hT : isT T) : m_sh (KS X) (T + 14) = (20, 16) := by
  rcases hT with rfl | rfl <;> exact (sh_le (Nat.le_of_ble_eq_true rfl)).trans (by decide +kernel)
theorem stk {X : XT} {a : Nat} (ha : isS a) : m_sh (KS X) a = (7, 8) ∧ m_sh (KS X) (a + 1) = (20, 7) ∧ m_sh (KS X) (a + 2) = (20, 7) ∧ 38 ≤ a ∧ a < 195 := by
  have key : ∀ a ∈ stIds, m_sh KS0 a = (7, 8) ∧ m_sh KS0 (a + 1) = (20, 7) ∧ m_sh KS0 (a + 2) = (20, 7) ∧ 38 ≤ a ∧ a < 193 := by decide +kernel
  obtain ⟨k1, k2, k3, k4, k5⟩ := key a ha
  exact ⟨(sh_le (by omega)).trans k1, (sh_le (by omega)).trans k2, (sh_le (by omega)).trans k3, k4, by omega⟩
theorem stp {a : Nat} (ha : isS a) : (a, 1, a + 1) ∈ PT ∧ (a, 2, a + 2) ∈ PT := by
  have key : ∀ a ∈ stIds, (a, 1, a + 1) ∈ PT ∧ (a, 2, a + 2) ∈ PT := by decide +kernel
  exact key a ha
theorem shS_0 {X : XT} {a : Nat} (ha : isS a) : m_sh (KS X) a = (7, 8) := (stk ha).1
theorem shS_1 {X : XT} {a : Nat} (ha : isS a) : m_sh (KS X) (a + 1) = (20, 7) := (stk ha).2.1
theorem shS_2 {X : XT} {a : Nat} (ha : isS a) : m_sh (KS X) (a + 2) = (20, 7) := (stk ha).2.2.1
theorem pS_1 {h : HT} {a : Nat} (ha : isS a) (hp : Ptr h) : m_gR h a 1 = a + 1 := hp _ (stp ha).1
theorem pS_2 {h : HT} {a : Nat} (ha : isS a) (hp : Ptr h) : m_gR h a 2 = a + 2 := hp _ (stp ha).2
theorem isS_38 : isS 38 := by unfold isS; decide
theorem isS_41 : isS 41 := by unfold isS; decide
theorem isS_172 : isS 172 := by unfold isS; decide
theorem isS_ring : ∀ i, i < 41 → isS (46 + 3 * i) := by unfold isS; decide +kernel
theorem isS_box : ∀ i, i < 3 → isS (186 + 3 * i) := by unfold isS; decide
