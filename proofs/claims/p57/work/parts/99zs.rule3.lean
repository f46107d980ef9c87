/-! WHAT THE LAW WROTE, READ AGAIN: the third rule -/
section RULES3
variable {V : Nat → Nat} {L s : Nat} {τ : CT} { U : List Nat}
theorem tx_42 : tb 42 = [98, 97, 99, 107, 32, 40, 108, 111, 97, 118, 101, 115, 43, 103, 111, 110, 101, 60, 100, 101, 98, 116, 47, 52, 41, 32, 97, 110, 100, 32, 110, 111, 116, 32, 115, 104, 111, 114, 116, 61, 51, 59] := by decide +kernel
theorem p_rule3 (H : St V L s (tb 42 ++ U)) (n : nb U) (h0 : τ 0 7 = 0) : tK V L s ≠ 0 ∧ ∃ s' S, exL V L 59 (liX V L s τ) = .inr (s', upB τ S) ∧ St V L s' U ∧ S.2.1 = 12 ∧ ∀ i, i < 12 → S.2.2 i = [(108, 0), (103, 0), (43, 0), (100, 0), (110, 4), (47, 0), (60, 0), (115, 0), (110, 3), (61, 0), (126, 0), (38, 0)].getD i (0, 0) := by
  rw [tx_42] at H
  have G0 : St V L s ([98, 97, 99, 107] ++ (32 :: ([40, 108, 111, 97, 118, 101, 115, 43, 103, 111, 110, 101, 60, 100, 101, 98, 116, 47, 52, 41, 32, 97, 110, 100, 32, 110, 111, 116, 32, 115, 104, 111, 114, 116, 61, 51, 59] ++ U))) := H
  obtain ⟨K0, W0, H1⟩ := tk_w1 G0 (by decide) (by decide) (by decide) (nbc (by decide))
  have k0 : kuC V L s = 0 := (ku_w K0 W0).trans (by decide +kernel)
  have g0 : isG V L s 40 = false := isG_no (by rw [K0]; decide)
  have n0 : isW V L s 18 = false := (isW_is K0 W0).trans (by decide +kernel)
  have o0_0 : opC V L s 0 = 0 := (op_w K0 W0).trans (by decide +kernel)
  have o0_1 : opC V L s 1 = 0 := (op_w K0 W0).trans (by decide +kernel)
  have o0_2 : opC V L s 2 = 0 := (op_w K0 W0).trans (by decide +kernel)
  have o0_3 : opC V L s 3 = 0 := (op_w K0 W0).trans (by decide +kernel)
  have o0_4 : opC V L s 4 = 0 := (op_w K0 W0).trans (by decide +kernel)
  have G1 : St V L (nx V L s) (40 :: ([108, 111, 97, 118, 101, 115, 43, 103, 111, 110, 101, 60, 100, 101, 98, 116, 47, 52, 41, 32, 97, 110, 100, 32, 110, 111, 116, 32, 115, 104, 111, 114, 116, 61, 51, 59] ++ U)) := H1
  obtain ⟨K1, W1, H2⟩ := tk_s0 G1 (by decide +kernel) (by decide) (by decide) (nbc (by decide))
  have k1 : kuC V L (nx V L s) = 0 := ku_o (by rw [K1]; decide)
  have g1 : isG V L (nx V L s) 40 = true := (isG_is K1 W1).trans (by decide)
  have e1 : isG V L (nx V L s) 41 = false := (isG_is K1 W1).trans (by decide)
  have n1 : isW V L (nx V L s) 18 = false := isW_no (by rw [K1]; decide)
  have o1_0 : opC V L (nx V L s) 0 = 0 := (opl_s K1 W1).trans (by decide +kernel)
  have o1_1 : opC V L (nx V L s) 1 = 0 := (opl_s K1 W1).trans (by decide +kernel)
  have o1_2 : opC V L (nx V L s) 2 = 0 := (opl_s K1 W1).trans (by decide +kernel)
  have o1_3 : opC V L (nx V L s) 3 = 0 := (opl_s K1 W1).trans (by decide +kernel)
  have o1_4 : opC V L (nx V L s) 4 = 0 := (opl_s K1 W1).trans (by decide +kernel)
  have G2 : St V L (nx V L (nx V L s)) ([108, 111, 97, 118, 101, 115] ++ ([43, 103, 111, 110, 101, 60, 100, 101, 98, 116, 47, 52, 41, 32, 97, 110, 100, 32, 110, 111, 116, 32, 115, 104, 111, 114, 116, 61, 51, 59] ++ U)) := H2
  obtain ⟨K2, W2, H3⟩ := tk_w0 G2 (by decide) (by decide) (by decide) (nlc (by decide)) (nbc (by decide))
  have k2 : kuC V L (nx V L (nx V L s)) = 108 := (ku_w K2 W2).trans (by decide +kernel)
  have g2 : isG V L (nx V L (nx V L s)) 40 = false := isG_no (by rw [K2]; decide)
  have n2 : isW V L (nx V L (nx V L s)) 18 = false := (isW_is K2 W2).trans (by decide +kernel)
  have o2_0 : opC V L (nx V L (nx V L s)) 0 = 0 := (op_w K2 W2).trans (by decide +kernel)
  have o2_1 : opC V L (nx V L (nx V L s)) 1 = 0 := (op_w K2 W2).trans (by decide +kernel)
  have o2_2 : opC V L (nx V L (nx V L s)) 2 = 0 := (op_w K2 W2).trans (by decide +kernel)
  have o2_3 : opC V L (nx V L (nx V L s)) 3 = 0 := (op_w K2 W2).trans (by decide +kernel)
  have o2_4 : opC V L (nx V L (nx V L s)) 4 = 0 := (op_w K2 W2).trans (by decide +kernel)
  have G3 : St V L (nx V L (nx V L (nx V L s))) (43 :: ([103, 111, 110, 101, 60, 100, 101, 98, 116, 47, 52, 41, 32, 97, 110, 100, 32, 110, 111, 116, 32, 115, 104, 111, 114, 116, 61, 51, 59] ++ U)) := H3
  obtain ⟨K3, W3, H4⟩ := tk_s0 G3 (by decide +kernel) (by decide) (by decide) (nbc (by decide))
  have k3 : kuC V L (nx V L (nx V L (nx V L s))) = 0 := ku_o (by rw [K3]; decide)
  have g3 : isG V L (nx V L (nx V L (nx V L s))) 40 = false := (isG_is K3 W3).trans (by decide)
  have e3 : isG V L (nx V L (nx V L (nx V L s))) 41 = false := (isG_is K3 W3).trans (by decide)
  have n3 : isW V L (nx V L (nx V L (nx V L s))) 18 = false := isW_no (by rw [K3]; decide)
  have o3_0 : opC V L (nx V L (nx V L (nx V L s))) 0 = 0 := (opl_s K3 W3).trans (by decide +kernel)
  have o3_1 : opC V L (nx V L (nx V L (nx V L s))) 1 = 0 := (opl_s K3 W3).trans (by decide +kernel)
  have o3_2 : opC V L (nx V L (nx V L (nx V L s))) 2 = 0 := (opl_s K3 W3).trans (by decide +kernel)
  have o3_3 : opC V L (nx V L (nx V L (nx V L s))) 3 = 43 := (opl_s K3 W3).trans (by decide +kernel)
  have o3_4 : opC V L (nx V L (nx V L (nx V L s))) 4 = 0 := (opl_s K3 W3).trans (by decide +kernel)
  have G4 : St V L (nx V L (nx V L (nx V L (nx V L s)))) ([103, 111, 110, 101] ++ ([60, 100, 101, 98, 116, 47, 52, 41, 32, 97, 110, 100, 32, 110, 111, 116, 32, 115, 104, 111, 114, 116, 61, 51, 59] ++ U)) := H4
  obtain ⟨K4, W4, H5⟩ := tk_w0 G4 (by decide) (by decide) (by decide) (nlc (by decide)) (nbc (by decide))
  have k4 : kuC V L (nx V L (nx V L (nx V L (nx V L s)))) = 103 := (ku_w K4 W4).trans (by decide +kernel)
  have g4 : isG V L (nx V L (nx V L (nx V L (nx V L s)))) 40 = false := isG_no (by rw [K4]; decide)
  have n4 : isW V L (nx V L (nx V L (nx V L (nx V L s)))) 18 = false := (isW_is K4 W4).trans (by decide +kernel)
  have o4_0 : opC V L (nx V L (nx V L (nx V L (nx V L s)))) 0 = 0 := (op_w K4 W4).trans (by decide +kernel)
  have o4_1 : opC V L (nx V L (nx V L (nx V L (nx V L s)))) 1 = 0 := (op_w K4 W4).trans (by decide +kernel)
  have o4_2 : opC V L (nx V L (nx V L (nx V L (nx V L s)))) 2 = 0 := (op_w K4 W4).trans (by decide +kernel)
  have o4_3 : opC V L (nx V L (nx V L (nx V L (nx V L s)))) 3 = 0 := (op_w K4 W4).trans (by decide +kernel)
  have o4_4 : opC V L (nx V L (nx V L (nx V L (nx V L s)))) 4 = 0 := (op_w K4 W4).trans (by decide +kernel)
  have G5 : St V L (nx V L (nx V L (nx V L (nx V L (nx V L s))))) (60 :: ([100, 101, 98, 116, 47, 52, 41, 32, 97, 110, 100, 32, 110, 111, 116, 32, 115, 104, 111, 114, 116, 61, 51, 59] ++ U)) := H5
  obtain ⟨K5, W5, H6⟩ := tk_s0 G5 (by decide +kernel) (by decide) (by decide) (nbc (by decide))
  have k5 : kuC V L (nx V L (nx V L (nx V L (nx V L (nx V L s))))) = 0 := ku_o (by rw [K5]; decide)
  have g5 : isG V L (nx V L (nx V L (nx V L (nx V L (nx V L s))))) 40 = false := (isG_is K5 W5).trans (by decide)
  have e5 : isG V L (nx V L (nx V L (nx V L (nx V L (nx V L s))))) 41 = false := (isG_is K5 W5).trans (by decide)
  have n5 : isW V L (nx V L (nx V L (nx V L (nx V L (nx V L s))))) 18 = false := isW_no (by rw [K5]; decide)
  have o5_0 : opC V L (nx V L (nx V L (nx V L (nx V L (nx V L s))))) 0 = 0 := (opl_s K5 W5).trans (by decide +kernel)
  have o5_1 : opC V L (nx V L (nx V L (nx V L (nx V L (nx V L s))))) 1 = 0 := (opl_s K5 W5).trans (by decide +kernel)
  have o5_2 : opC V L (nx V L (nx V L (nx V L (nx V L (nx V L s))))) 2 = 60 := (opl_s K5 W5).trans (by decide +kernel)
  have o5_3 : opC V L (nx V L (nx V L (nx V L (nx V L (nx V L s))))) 3 = 0 := (opl_s K5 W5).trans (by decide +kernel)
  have o5_4 : opC V L (nx V L (nx V L (nx V L (nx V L (nx V L s))))) 4 = 0 := (opl_s K5 W5).trans (by decide +kernel)
  have G6 : St V L (nx V L (nx V L (nx V L (nx V L (nx V L (nx V L s)))))) ([100, 101, 98, 116] ++ ([47, 52, 41, 32, 97, 110, 100, 32, 110, 111, 116, 32, 115, 104, 111, 114, 116, 61, 51, 59] ++ U)) := H6
  obtain ⟨K6, W6, H7⟩ := tk_w0 G6 (by decide) (by decide) (by decide) (nlc (by decide)) (nbc (by decide))
  have k6 : kuC V L (nx V L (nx V L (nx V L (nx V L (nx V L (nx V L s)))))) = 100 := (ku_w K6 W6).trans (by decide +kernel)
  have g6 : isG V L (nx V L (nx V L (nx V L (nx V L (nx V L (nx V L s)))))) 40 = false := isG_no (by rw [K6]; decide)
  have n6 : isW V L (nx V L (nx V L (nx V L (nx V L (nx V L (nx V L s)))))) 18 = false := (isW_is K6 W6).trans (by decide +kernel)
  have o6_0 : opC V L (nx V L (nx V L (nx V L (nx V L (nx V L (nx V L s)))))) 0 = 0 := (op_w K6 W6).trans (by decide +kernel)
  have o6_1 : opC V L (nx V L (nx V L (nx V L (nx V L (nx V L (nx V L s)))))) 1 = 0 := (op_w K6 W6).trans (by decide +kernel)
  have o6_2 : opC V L (nx V L (nx V L (nx V L (nx V L (nx V L (nx V L s)))))) 2 = 0 := (op_w K6 W6).trans (by decide +kernel)
  have o6_3 : opC V L (nx V L (nx V L (nx V L (nx V L (nx V L (nx V L s)))))) 3 = 0 := (op_w K6 W6).trans (by decide +kernel)
  have o6_4 : opC V L (nx V L (nx V L (nx V L (nx V L (nx V L (nx V L s)))))) 4 = 0 := (op_w K6 W6).trans (by decide +kernel)
  have G7 : St V L (nx V L (nx V L (nx V L (nx V L (nx V L (nx V L (nx V L s))))))) (47 :: ([52, 41, 32, 97, 110, 100, 32, 110, 111, 116, 32, 115, 104, 111, 114, 116, 61, 51, 59] ++ U)) := H7
  obtain ⟨K7, W7, H8⟩ := tk_s0 G7 (by decide +kernel) (by decide) (by decide) (nbc (by decide))
  have k7 : kuC V L (nx V L (nx V L (nx V L (nx V L (nx V L (nx V L (nx V L s))))))) = 0 := ku_o (by rw [K7]; decide)
  have g7 : isG V L (nx V L (nx V L (nx V L (nx V L (nx V L (nx V L (nx V L s))))))) 40 = false := (isG_is K7 W7).trans (by decide)
  have e7 : isG V L (nx V L (nx V L (nx V L (nx V L (nx V L (nx V L (nx V L s))))))) 41 = false := (isG_is K7 W7).trans (by decide)
  have n7 : isW V L (nx V L (nx V L (nx V L (nx V L (nx V L (nx V L (nx V L s))))))) 18 = false := isW_no (by rw [K7]; decide)
  have o7_0 : opC V L (nx V L (nx V L (nx V L (nx V L (nx V L (nx V L (nx V L s))))))) 0 = 0 := (opl_s K7 W7).trans (by decide +kernel)
  have o7_1 : opC V L (nx V L (nx V L (nx V L (nx V L (nx V L (nx V L (nx V L s))))))) 1 = 0 := (opl_s K7 W7).trans (by decide +kernel)
  have o7_2 : opC V L (nx V L (nx V L (nx V L (nx V L (nx V L (nx V L (nx V L s))))))) 2 = 0 := (opl_s K7 W7).trans (by decide +kernel)
  have o7_3 : opC V L (nx V L (nx V L (nx V L (nx V L (nx V L (nx V L (nx V L s))))))) 3 = 0 := (opl_s K7 W7).trans (by decide +kernel)
  have o7_4 : opC V L (nx V L (nx V L (nx V L (nx V L (nx V L (nx V L (nx V L s))))))) 4 = 47 := (opl_s K7 W7).trans (by decide +kernel)
  have G8 : St V L (nx V L (nx V L (nx V L (nx V L (nx V L (nx V L (nx V L (nx V L s)))))))) ([48 + 4] ++ ([41, 32, 97, 110, 100, 32, 110, 111, 116, 32, 115, 104, 111, 114, 116, 61, 51, 59] ++ U)) := H8
  obtain ⟨K8, W8, H9⟩ := tk_n0 G8 (by decide) (nlc (by decide)) (ndc (by decide)) (nbc (by decide))
  have k8 : kuC V L (nx V L (nx V L (nx V L (nx V L (nx V L (nx V L (nx V L (nx V L s)))))))) = 0 := ku_o (by rw [K8]; decide)
  have g8 : isG V L (nx V L (nx V L (nx V L (nx V L (nx V L (nx V L (nx V L (nx V L s)))))))) 40 = false := isG_no (by rw [K8]; decide)
  have n8 : isW V L (nx V L (nx V L (nx V L (nx V L (nx V L (nx V L (nx V L (nx V L s)))))))) 18 = false := isW_no (by rw [K8]; decide)
  have o8_0 : opC V L (nx V L (nx V L (nx V L (nx V L (nx V L (nx V L (nx V L (nx V L s)))))))) 0 = 0 := op_n K8
  have o8_1 : opC V L (nx V L (nx V L (nx V L (nx V L (nx V L (nx V L (nx V L (nx V L s)))))))) 1 = 0 := op_n K8
  have o8_2 : opC V L (nx V L (nx V L (nx V L (nx V L (nx V L (nx V L (nx V L (nx V L s)))))))) 2 = 0 := op_n K8
  have o8_3 : opC V L (nx V L (nx V L (nx V L (nx V L (nx V L (nx V L (nx V L (nx V L s)))))))) 3 = 0 := op_n K8
  have o8_4 : opC V L (nx V L (nx V L (nx V L (nx V L (nx V L (nx V L (nx V L (nx V L s)))))))) 4 = 0 := op_n K8
  have G9 : St V L (nx V L (nx V L (nx V L (nx V L (nx V L (nx V L (nx V L (nx V L (nx V L s))))))))) (41 :: 32 :: ([97, 110, 100, 32, 110, 111, 116, 32, 115, 104, 111, 114, 116, 61, 51, 59] ++ U)) := H9
  obtain ⟨K9, W9, H10⟩ := tk_s1 G9 (by decide +kernel) (by decide) (by decide) (nbc (by decide))
  have k9 : kuC V L (nx V L (nx V L (nx V L (nx V L (nx V L (nx V L (nx V L (nx V L (nx V L s))))))))) = 0 := ku_o (by rw [K9]; decide)
  have g9 : isG V L (nx V L (nx V L (nx V L (nx V L (nx V L (nx V L (nx V L (nx V L (nx V L s))))))))) 40 = false := (isG_is K9 W9).trans (by decide)
  have e9 : isG V L (nx V L (nx V L (nx V L (nx V L (nx V L (nx V L (nx V L (nx V L (nx V L s))))))))) 41 = true := (isG_is K9 W9).trans (by decide)
  have n9 : isW V L (nx V L (nx V L (nx V L (nx V L (nx V L (nx V L (nx V L (nx V L (nx V L s))))))))) 18 = false := isW_no (by rw [K9]; decide)
  have o9_0 : opC V L (nx V L (nx V L (nx V L (nx V L (nx V L (nx V L (nx V L (nx V L (nx V L s))))))))) 0 = 0 := (opl_s K9 W9).trans (by decide +kernel)
  have o9_1 : opC V L (nx V L (nx V L (nx V L (nx V L (nx V L (nx V L (nx V L (nx V L (nx V L s))))))))) 1 = 0 := (opl_s K9 W9).trans (by decide +kernel)
  have o9_2 : opC V L (nx V L (nx V L (nx V L (nx V L (nx V L (nx V L (nx V L (nx V L (nx V L s))))))))) 2 = 0 := (opl_s K9 W9).trans (by decide +kernel)
  have o9_3 : opC V L (nx V L (nx V L (nx V L (nx V L (nx V L (nx V L (nx V L (nx V L (nx V L s))))))))) 3 = 0 := (opl_s K9 W9).trans (by decide +kernel)
  have o9_4 : opC V L (nx V L (nx V L (nx V L (nx V L (nx V L (nx V L (nx V L (nx V L (nx V L s))))))))) 4 = 0 := (opl_s K9 W9).trans (by decide +kernel)
  have G10 : St V L (nx V L (nx V L (nx V L (nx V L (nx V L (nx V L (nx V L (nx V L (nx V L (nx V L s)))))))))) ([97, 110, 100] ++ (32 :: ([110, 111, 116, 32, 115, 104, 111, 114, 116, 61, 51, 59] ++ U))) := H10
  obtain ⟨K10, W10, H11⟩ := tk_w1 G10 (by decide) (by decide) (by decide) (nbc (by decide))
  have k10 : kuC V L (nx V L (nx V L (nx V L (nx V L (nx V L (nx V L (nx V L (nx V L (nx V L (nx V L s)))))))))) = 0 := (ku_w K10 W10).trans (by decide +kernel)
  have g10 : isG V L (nx V L (nx V L (nx V L (nx V L (nx V L (nx V L (nx V L (nx V L (nx V L (nx V L s)))))))))) 40 = false := isG_no (by rw [K10]; decide)
  have n10 : isW V L (nx V L (nx V L (nx V L (nx V L (nx V L (nx V L (nx V L (nx V L (nx V L (nx V L s)))))))))) 18 = false := (isW_is K10 W10).trans (by decide +kernel)
  have o10_0 : opC V L (nx V L (nx V L (nx V L (nx V L (nx V L (nx V L (nx V L (nx V L (nx V L (nx V L s)))))))))) 0 = 0 := (op_w K10 W10).trans (by decide +kernel)
  have o10_1 : opC V L (nx V L (nx V L (nx V L (nx V L (nx V L (nx V L (nx V L (nx V L (nx V L (nx V L s)))))))))) 1 = 38 := (op_w K10 W10).trans (by decide +kernel)
  have o10_2 : opC V L (nx V L (nx V L (nx V L (nx V L (nx V L (nx V L (nx V L (nx V L (nx V L (nx V L s)))))))))) 2 = 0 := (op_w K10 W10).trans (by decide +kernel)
  have o10_3 : opC V L (nx V L (nx V L (nx V L (nx V L (nx V L (nx V L (nx V L (nx V L (nx V L (nx V L s)))))))))) 3 = 0 := (op_w K10 W10).trans (by decide +kernel)
  have o10_4 : opC V L (nx V L (nx V L (nx V L (nx V L (nx V L (nx V L (nx V L (nx V L (nx V L (nx V L s)))))))))) 4 = 0 := (op_w K10 W10).trans (by decide +kernel)
  have G11 : St V L (nx V L (nx V L (nx V L (nx V L (nx V L (nx V L (nx V L (nx V L (nx V L (nx V L (nx V L s))))))))))) ([110, 111, 116] ++ (32 :: ([115, 104, 111, 114, 116, 61, 51, 59] ++ U))) := H11
  obtain ⟨K11, W11, H12⟩ := tk_w1 G11 (by decide) (by decide) (by decide) (nbc (by decide))
  have k11 : kuC V L (nx V L (nx V L (nx V L (nx V L (nx V L (nx V L (nx V L (nx V L (nx V L (nx V L (nx V L s))))))))))) = 0 := (ku_w K11 W11).trans (by decide +kernel)
  have g11 : isG V L (nx V L (nx V L (nx V L (nx V L (nx V L (nx V L (nx V L (nx V L (nx V L (nx V L (nx V L s))))))))))) 40 = false := isG_no (by rw [K11]; decide)
  have n11 : isW V L (nx V L (nx V L (nx V L (nx V L (nx V L (nx V L (nx V L (nx V L (nx V L (nx V L (nx V L s))))))))))) 18 = true := (isW_is K11 W11).trans (by decide +kernel)
  have o11_0 : opC V L (nx V L (nx V L (nx V L (nx V L (nx V L (nx V L (nx V L (nx V L (nx V L (nx V L (nx V L s))))))))))) 0 = 0 := (op_w K11 W11).trans (by decide +kernel)
  have o11_1 : opC V L (nx V L (nx V L (nx V L (nx V L (nx V L (nx V L (nx V L (nx V L (nx V L (nx V L (nx V L s))))))))))) 1 = 0 := (op_w K11 W11).trans (by decide +kernel)
  have o11_2 : opC V L (nx V L (nx V L (nx V L (nx V L (nx V L (nx V L (nx V L (nx V L (nx V L (nx V L (nx V L s))))))))))) 2 = 0 := (op_w K11 W11).trans (by decide +kernel)
  have o11_3 : opC V L (nx V L (nx V L (nx V L (nx V L (nx V L (nx V L (nx V L (nx V L (nx V L (nx V L (nx V L s))))))))))) 3 = 0 := (op_w K11 W11).trans (by decide +kernel)
  have o11_4 : opC V L (nx V L (nx V L (nx V L (nx V L (nx V L (nx V L (nx V L (nx V L (nx V L (nx V L (nx V L s))))))))))) 4 = 0 := (op_w K11 W11).trans (by decide +kernel)
  have G12 : St V L (nx V L (nx V L (nx V L (nx V L (nx V L (nx V L (nx V L (nx V L (nx V L (nx V L (nx V L (nx V L s)))))))))))) ([115, 104, 111, 114, 116] ++ ([61, 51, 59] ++ U)) := H12
  obtain ⟨K12, W12, H13⟩ := tk_w0 G12 (by decide) (by decide) (by decide) (nlc (by decide)) (nbc (by decide))
  have k12 : kuC V L (nx V L (nx V L (nx V L (nx V L (nx V L (nx V L (nx V L (nx V L (nx V L (nx V L (nx V L (nx V L s)))))))))))) = 115 := (ku_w K12 W12).trans (by decide +kernel)
  have g12 : isG V L (nx V L (nx V L (nx V L (nx V L (nx V L (nx V L (nx V L (nx V L (nx V L (nx V L (nx V L (nx V L s)))))))))))) 40 = false := isG_no (by rw [K12]; decide)
  have n12 : isW V L (nx V L (nx V L (nx V L (nx V L (nx V L (nx V L (nx V L (nx V L (nx V L (nx V L (nx V L (nx V L s)))))))))))) 18 = false := (isW_is K12 W12).trans (by decide +kernel)
  have o12_0 : opC V L (nx V L (nx V L (nx V L (nx V L (nx V L (nx V L (nx V L (nx V L (nx V L (nx V L (nx V L (nx V L s)))))))))))) 0 = 0 := (op_w K12 W12).trans (by decide +kernel)
  have o12_1 : opC V L (nx V L (nx V L (nx V L (nx V L (nx V L (nx V L (nx V L (nx V L (nx V L (nx V L (nx V L (nx V L s)))))))))))) 1 = 0 := (op_w K12 W12).trans (by decide +kernel)
  have o12_2 : opC V L (nx V L (nx V L (nx V L (nx V L (nx V L (nx V L (nx V L (nx V L (nx V L (nx V L (nx V L (nx V L s)))))))))))) 2 = 0 := (op_w K12 W12).trans (by decide +kernel)
  have o12_3 : opC V L (nx V L (nx V L (nx V L (nx V L (nx V L (nx V L (nx V L (nx V L (nx V L (nx V L (nx V L (nx V L s)))))))))))) 3 = 0 := (op_w K12 W12).trans (by decide +kernel)
  have o12_4 : opC V L (nx V L (nx V L (nx V L (nx V L (nx V L (nx V L (nx V L (nx V L (nx V L (nx V L (nx V L (nx V L s)))))))))))) 4 = 0 := (op_w K12 W12).trans (by decide +kernel)
  have G13 : St V L (nx V L (nx V L (nx V L (nx V L (nx V L (nx V L (nx V L (nx V L (nx V L (nx V L (nx V L (nx V L (nx V L s))))))))))))) (61 :: ([51, 59] ++ U)) := H13
  obtain ⟨K13, W13, H14⟩ := tk_s0 G13 (by decide +kernel) (by decide) (by decide) (nbc (by decide))
  have k13 : kuC V L (nx V L (nx V L (nx V L (nx V L (nx V L (nx V L (nx V L (nx V L (nx V L (nx V L (nx V L (nx V L (nx V L s))))))))))))) = 0 := ku_o (by rw [K13]; decide)
  have g13 : isG V L (nx V L (nx V L (nx V L (nx V L (nx V L (nx V L (nx V L (nx V L (nx V L (nx V L (nx V L (nx V L (nx V L s))))))))))))) 40 = false := (isG_is K13 W13).trans (by decide)
  have e13 : isG V L (nx V L (nx V L (nx V L (nx V L (nx V L (nx V L (nx V L (nx V L (nx V L (nx V L (nx V L (nx V L (nx V L s))))))))))))) 41 = false := (isG_is K13 W13).trans (by decide)
  have n13 : isW V L (nx V L (nx V L (nx V L (nx V L (nx V L (nx V L (nx V L (nx V L (nx V L (nx V L (nx V L (nx V L (nx V L s))))))))))))) 18 = false := isW_no (by rw [K13]; decide)
  have o13_0 : opC V L (nx V L (nx V L (nx V L (nx V L (nx V L (nx V L (nx V L (nx V L (nx V L (nx V L (nx V L (nx V L (nx V L s))))))))))))) 0 = 0 := (opl_s K13 W13).trans (by decide +kernel)
  have o13_1 : opC V L (nx V L (nx V L (nx V L (nx V L (nx V L (nx V L (nx V L (nx V L (nx V L (nx V L (nx V L (nx V L (nx V L s))))))))))))) 1 = 0 := (opl_s K13 W13).trans (by decide +kernel)
  have o13_2 : opC V L (nx V L (nx V L (nx V L (nx V L (nx V L (nx V L (nx V L (nx V L (nx V L (nx V L (nx V L (nx V L (nx V L s))))))))))))) 2 = 61 := (opl_s K13 W13).trans (by decide +kernel)
  have o13_3 : opC V L (nx V L (nx V L (nx V L (nx V L (nx V L (nx V L (nx V L (nx V L (nx V L (nx V L (nx V L (nx V L (nx V L s))))))))))))) 3 = 0 := (opl_s K13 W13).trans (by decide +kernel)
  have o13_4 : opC V L (nx V L (nx V L (nx V L (nx V L (nx V L (nx V L (nx V L (nx V L (nx V L (nx V L (nx V L (nx V L (nx V L s))))))))))))) 4 = 0 := (opl_s K13 W13).trans (by decide +kernel)
  have G14 : St V L (nx V L (nx V L (nx V L (nx V L (nx V L (nx V L (nx V L (nx V L (nx V L (nx V L (nx V L (nx V L (nx V L (nx V L s)))))))))))))) ([48 + 3] ++ ([59] ++ U)) := H14
  obtain ⟨K14, W14, H15⟩ := tk_n0 G14 (by decide) (nlc (by decide)) (ndc (by decide)) (nbc (by decide))
  have k14 : kuC V L (nx V L (nx V L (nx V L (nx V L (nx V L (nx V L (nx V L (nx V L (nx V L (nx V L (nx V L (nx V L (nx V L (nx V L s)))))))))))))) = 0 := ku_o (by rw [K14]; decide)
  have g14 : isG V L (nx V L (nx V L (nx V L (nx V L (nx V L (nx V L (nx V L (nx V L (nx V L (nx V L (nx V L (nx V L (nx V L (nx V L s)))))))))))))) 40 = false := isG_no (by rw [K14]; decide)
  have n14 : isW V L (nx V L (nx V L (nx V L (nx V L (nx V L (nx V L (nx V L (nx V L (nx V L (nx V L (nx V L (nx V L (nx V L (nx V L s)))))))))))))) 18 = false := isW_no (by rw [K14]; decide)
  have o14_0 : opC V L (nx V L (nx V L (nx V L (nx V L (nx V L (nx V L (nx V L (nx V L (nx V L (nx V L (nx V L (nx V L (nx V L (nx V L s)))))))))))))) 0 = 0 := op_n K14
  have o14_1 : opC V L (nx V L (nx V L (nx V L (nx V L (nx V L (nx V L (nx V L (nx V L (nx V L (nx V L (nx V L (nx V L (nx V L (nx V L s)))))))))))))) 1 = 0 := op_n K14
  have o14_2 : opC V L (nx V L (nx V L (nx V L (nx V L (nx V L (nx V L (nx V L (nx V L (nx V L (nx V L (nx V L (nx V L (nx V L (nx V L s)))))))))))))) 2 = 0 := op_n K14
  have o14_3 : opC V L (nx V L (nx V L (nx V L (nx V L (nx V L (nx V L (nx V L (nx V L (nx V L (nx V L (nx V L (nx V L (nx V L (nx V L s)))))))))))))) 3 = 0 := op_n K14
  have o14_4 : opC V L (nx V L (nx V L (nx V L (nx V L (nx V L (nx V L (nx V L (nx V L (nx V L (nx V L (nx V L (nx V L (nx V L (nx V L s)))))))))))))) 4 = 0 := op_n K14
  have HZ : St V L (nx V L (nx V L (nx V L (nx V L (nx V L (nx V L (nx V L (nx V L (nx V L (nx V L (nx V L (nx V L (nx V L (nx V L (nx V L s))))))))))))))) (tb 30 ++ U) := by
    rw [tb_30]
    exact H15
  obtain ⟨KZ, WZ, _⟩ := t_sc HZ n
  have z_0 : opC V L (nx V L (nx V L (nx V L (nx V L (nx V L (nx V L (nx V L (nx V L (nx V L (nx V L (nx V L (nx V L (nx V L (nx V L (nx V L s))))))))))))))) 0 = 0 := (opl_s KZ WZ).trans (by decide +kernel)
  have z_1 : opC V L (nx V L (nx V L (nx V L (nx V L (nx V L (nx V L (nx V L (nx V L (nx V L (nx V L (nx V L (nx V L (nx V L (nx V L (nx V L s))))))))))))))) 1 = 0 := (opl_s KZ WZ).trans (by decide +kernel)
  have z_2 : opC V L (nx V L (nx V L (nx V L (nx V L (nx V L (nx V L (nx V L (nx V L (nx V L (nx V L (nx V L (nx V L (nx V L (nx V L (nx V L s))))))))))))))) 2 = 0 := (opl_s KZ WZ).trans (by decide +kernel)
  have z_3 : opC V L (nx V L (nx V L (nx V L (nx V L (nx V L (nx V L (nx V L (nx V L (nx V L (nx V L (nx V L (nx V L (nx V L (nx V L (nx V L s))))))))))))))) 3 = 0 := (opl_s KZ WZ).trans (by decide +kernel)
  have z_4 : opC V L (nx V L (nx V L (nx V L (nx V L (nx V L (nx V L (nx V L (nx V L (nx V L (nx V L (nx V L (nx V L (nx V L (nx V L (nx V L s))))))))))))))) 4 = 0 := (opl_s KZ WZ).trans (by decide +kernel)
  have zn : isW V L (nx V L (nx V L (nx V L (nx V L (nx V L (nx V L (nx V L (nx V L (nx V L (nx V L (nx V L (nx V L (nx V L (nx V L (nx V L s))))))))))))))) 18 = false := isW_no (by rw [KZ]; decide)
  have zg : isG V L (nx V L (nx V L (nx V L (nx V L (nx V L (nx V L (nx V L (nx V L (nx V L (nx V L (nx V L (nx V L (nx V L (nx V L (nx V L s))))))))))))))) 41 = false := (isG_is KZ WZ).trans (by decide)
  refine ⟨by rw [K0]; decide, ?_⟩
  have x : ∀ j, nL (wv [98, 97, 99, 107] 4) ≠ txW j → ¬ isW V L s j = true := fun j hj => by
    rw [isW_is K0 W0, decide_eq_true_eq]
    exact hj
  have x14 : isW V L s 14 = true := (isW_is K0 W0).trans (by decide +kernel)
  unfold liX liB
  rw [if_neg (x 1 (by decide +kernel)), if_neg (x 5 (by decide +kernel)), if_neg (x 11 (by decide +kernel)), if_pos ⟨x14, h0⟩]
  have E1 : ∀ f, ∃ S, lev V L (f + 7) 0 1 (avS V L (upU (nx V L s, 0, 0, fun _ => (0, 0)))) = .inr S ∧ S.1 = (nx V L (nx V L (nx V L (nx V L (nx V L (nx V L (nx V L (nx V L (nx V L s))))))))) ∧ S.2.1 = 5 ∧ S.2.2.1 = 7 ∧ ∀ i, i < 7 → S.2.2.2 i = [(108, 0), (103, 0), (43, 0), (100, 0), (110, 4), (47, 0), (60, 0)].getD i (0, 0) := by
    intro f
    refine ⟨_, (lv_up (l := 0) (by decide) (lv_up (l := 1) (by decide) (lv_bin2 n2 (lv_bin (l := 3) (by decide) (lv_up (l := 4) (by decide) (lv_w k2 (by decide) g2 (Nat.le_of_ble_eq_true rfl)) o3_4) o3_3 (by decide) (lv_up (l := 4) (by decide) (lv_w k4 (by decide) g4 (Nat.le_of_ble_eq_true rfl)) o5_4) o5_3) o5_2 (by decide) (lv_up (l := 3) (by decide) (lv_bin (l := 4) (by decide) (lv_w k6 (by decide) g6 (Nat.le_of_ble_eq_true rfl)) o7_4 (by decide) (lv_n k8 K8 W8 g8 (Nat.le_of_ble_eq_true rfl)) o9_4) o9_3)) o9_1) o9_0), rfl, rfl, rfl, fun i hi => ?_⟩
    have : i = 0 ∨ i = 1 ∨ i = 2 ∨ i = 3 ∨ i = 4 ∨ i = 5 ∨ i = 6 := by omega
    rcases this with rfl | rfl | rfl | rfl | rfl | rfl | rfl <;> rfl
  obtain ⟨⟨p1, u1, n1', c1⟩, a1, a2, a3, a4, a5⟩ := E1 35
  have a2' : p1 = (nx V L (nx V L (nx V L (nx V L (nx V L (nx V L (nx V L (nx V L (nx V L s))))))))) := a2
  have a3' : u1 = 5 := a3
  have a4' : n1' = 7 := a4
  subst a2' a3' a4'
  have E2 : lev V L 43 5 0 (nx V L s, 0, 0, fun _ => (0, 0)) = .inr (avS V L ((nx V L (nx V L (nx V L (nx V L (nx V L (nx V L (nx V L (nx V L (nx V L s))))))))), 5, 7, c1)) := lv_p g1 (by decide) (Nat.le_of_ble_eq_true rfl) a1 e9
  have E3 : lev V L 46 2 0 (nx V L s, 0, 0, fun _ => (0, 0)) = .inr (avS V L ((nx V L (nx V L (nx V L (nx V L (nx V L (nx V L (nx V L (nx V L (nx V L s))))))))), 5, 7, c1)) := lv_up2 n1 (lv_up (l := 3) (by decide) (lv_up (l := 4) (by decide) E2 o10_4) o10_3) o10_2
  have E4 : ∀ (c : Nat → Nat × Nat) (f : Nat), ∃ S, lev V L (f + 5) 2 0 ((nx V L (nx V L (nx V L (nx V L (nx V L (nx V L (nx V L (nx V L (nx V L (nx V L (nx V L s))))))))))), 5, 7, c) = .inr S ∧ S.1 = (nx V L (nx V L (nx V L (nx V L (nx V L (nx V L (nx V L (nx V L (nx V L (nx V L (nx V L (nx V L (nx V L (nx V L (nx V L s))))))))))))))) ∧ S.2.2.1 = 11 ∧ ∀ i, i < 11 → S.2.2.2 i = if i < 7 then c i else [(115, 0), (110, 3), (61, 0), (126, 0)].getD (i - 7) (0, 0) := by
    intro c f
    refine ⟨_, (lv_not n11 (by decide) (lv_bin2 n12 (lv_up (l := 3) (by decide) (lv_up (l := 4) (by decide) (lv_w k12 (by decide) g12 (Nat.le_of_ble_eq_true rfl)) o13_4) o13_3) o13_2 (by decide) (lv_up (l := 3) (by decide) (lv_up (l := 4) (by decide) (lv_n k14 K14 W14 g14 (Nat.le_of_ble_eq_true rfl)) z_4) z_3))), rfl, rfl, fun i hi => ?_⟩
    have : i = 0 ∨ i = 1 ∨ i = 2 ∨ i = 3 ∨ i = 4 ∨ i = 5 ∨ i = 6 ∨ i = 7 ∨ i = 8 ∨ i = 9 ∨ i = 10 := by omega
    rcases this with rfl | rfl | rfl | rfl | rfl | rfl | rfl | rfl | rfl | rfl | rfl <;> rfl
  obtain ⟨⟨p2, u2, n2', c2⟩, b1, b2, b3, b4⟩ := E4 c1 41
  have b2' : p2 = (nx V L (nx V L (nx V L (nx V L (nx V L (nx V L (nx V L (nx V L (nx V L (nx V L (nx V L (nx V L (nx V L (nx V L (nx V L s))))))))))))))) := b2
  have b3' : n2' = 11 := b3
  subst b2' b3'
  have E5 : lev V L 47 1 0 (nx V L s, 0, 0, fun _ => (0, 0)) = .inr (adS 38 0 ((nx V L (nx V L (nx V L (nx V L (nx V L (nx V L (nx V L (nx V L (nx V L (nx V L (nx V L (nx V L (nx V L (nx V L (nx V L s))))))))))))))), u2, 11, c2)) := lv_bin (l := 1) (by decide) E3 o10_1 (by decide) b1 z_1
  have E6 : lev V L 48 0 0 (nx V L s, 0, 0, fun _ => (0, 0)) = .inr (adS 38 0 ((nx V L (nx V L (nx V L (nx V L (nx V L (nx V L (nx V L (nx V L (nx V L (nx V L (nx V L (nx V L (nx V L (nx V L (nx V L s))))))))))))))), u2, 11, c2)) := lv_up (l := 0) (by decide) E5 z_0
  rw [E6]
  obtain ⟨q5, q6⟩ := p_semi (τ := upB τ (u2, 12, fun i => if i = 11 then (38, 0) else c2 i)) HZ n
  refine ⟨_, (u2, 12, fun i => if i = 11 then (38, 0) else c2 i), q5, q6, rfl, fun i hi => ?_⟩
  show (if i = 11 then (38, 0) else c2 i) = _
  by_cases e : i = 11
  · rw [if_pos e, e]
    rfl
  · rw [if_neg e]
    have b4' : c2 i = if i < 7 then c1 i else [(115, 0), (110, 3), (61, 0), (126, 0)].getD (i - 7) (0, 0) := b4 i (by omega)
    rw [b4']
    by_cases y : i < 7
    · rw [if_pos y]
      have a5' : c1 i = [(108, 0), (103, 0), (43, 0), (100, 0), (110, 4), (47, 0), (60, 0)].getD i (0, 0) := a5 i y
      rw [a5']
      have : i = 0 ∨ i = 1 ∨ i = 2 ∨ i = 3 ∨ i = 4 ∨ i = 5 ∨ i = 6 := by omega
      rcases this with rfl | rfl | rfl | rfl | rfl | rfl | rfl <;> rfl
    · rw [if_neg y]
      have : i = 7 ∨ i = 8 ∨ i = 9 ∨ i = 10 := by omega
      rcases this with rfl | rfl | rfl | rfl <;> rfl
end RULES3
