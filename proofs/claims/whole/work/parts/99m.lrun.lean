/-! THE LAW RUNS -/
theorem ini_z {h : HT} (H : iniC h = true) : ∀ q ∈ iniZ, m_gI h q.1 q.2 = 0 := fun q hq => of_decide_eq_true (List.all_eq_true.mp (Bool.and_eq_true_iff.mp (Bool.and_eq_true_iff.mp H).1).2 q hq)
theorem ini_p {h : HT} (H : iniC h = true) : Ptr h := fun q hq => Nat.eq_of_beq_eq_true (List.all_eq_true.mp (Bool.and_eq_true_iff.mp (Bool.and_eq_true_iff.mp (Bool.and_eq_true_iff.mp H).1).1).1 q hq)
theorem ini_r {h : HT} (H : iniC h = true) : m_gR h 1 2 = 23 ∧ m_gR h 4 1 = 5 := by
  have := Bool.and_eq_true_iff.mp (Bool.and_eq_true_iff.mp (Bool.and_eq_true_iff.mp (Bool.and_eq_true_iff.mp H).1).1).2
  exact ⟨Nat.eq_of_beq_eq_true this.1, Nat.eq_of_beq_eq_true this.2⟩
theorem ini_m {h : HT} (H : iniC h = true) : m_gI h 4 3 = -1 ∧ m_gI h 195 5 = -1 := by
  have := Bool.and_eq_true_iff.mp (Bool.and_eq_true_iff.mp H).2
  exact ⟨of_decide_eq_true this.1, of_decide_eq_true this.2⟩
theorem ini_36 : ∀ n, n < 128 → (36, n) ∈ iniZ := fun n hn => List.mem_append_right _ (List.mem_map.mpr ⟨n, List.mem_range.mpr hn, rfl⟩)
def st0 (h : HT) : ST := (fun _ _ => 0, m_gI h 227, 0, 0, fun _ _ => 0, fun _ => false, fun _ _ => 0, 0, 0, fun _ _ => 0, 0, fun _ => 0, 0, -1)
theorem ini_ok {h : HT} (H : iniC h = true) : OKs (st0 h) ∧ CI h (st0 h) ∧ KI h (st0 h) := by
  have z := ini_z H
  have zz : ∀ c k, (c, k) ∈ iniZ → m_gI h c k = 0 := fun c k m => z (c, k) m
  have hp := ini_p H
  have hr := ini_r H
  have hm := ini_m H
  have O := lOk_0
  have e14 : m_gI h 227 14 = 0 := zz _ _ (by decide)
  have e15 : m_gI h 227 15 = 0 := zz _ _ (by decide)
  have e16 : m_gI h 227 16 = 0 := zz _ _ (by decide)
  have e17 : m_gI h 227 17 = 0 := zz _ _ (by decide)
  have e18 : m_gI h 227 18 = 0 := zz _ _ (by decide)
  have e19 : m_gI h 227 19 = 0 := zz _ _ (by decide)
  have eN : aN (m_gI h 227) = 0 := by
    unfold aN
    rw [e14]
    rfl
  have ak : aOk (fun _ _ => 0) 999 (m_gI h 227) := ⟨⟨by rw [eN, e14]; rfl, by rw [eN]; exact Nat.two_pow_pos _⟩, ⟨0, Nat.two_pow_pos _, e15⟩, ⟨0, by decide, e19⟩, 0, Nat.zero_le _, e18, fun m hm => absurd hm (Nat.not_lt_zero _)⟩
  have rp : Rep (fun _ _ => 0) (gS h 38) (m_gI h 227) := ⟨⟨(zz 38 0 (by decide)).trans e14.symm, (zz 38 3 (by decide)).trans e16.symm, (zz 38 4 (by decide)).trans e17.symm, (zz 38 5 (by decide)).trans e15.symm, (zz 38 6 (by decide)).trans e18.symm, (zz 38 7 (by decide)).trans e19.symm⟩, fun m hm => absurd hm (Nat.not_lt_zero _), fun m hm => absurd hm (Nat.not_lt_zero _)⟩
  have cc : CCity h 23 (fun _ _ => 0) := by
    refine ⟨⟨zz 23 0 (by decide), zz 23 4 (by decide), zz 23 10 (by decide), zz 23 14 (by decide), zz 23 15 (by decide), zz 23 16 (by decide), zz 23 9 (by decide)⟩, ?_, ?_, ?_, ?_, ?_, ?_, ?_, ?_, ?_, ⟨zz 33 1 (by decide), zz 33 2 (by decide)⟩, ?_, fun n hn => zz 36 n (ini_36 n hn), fun s hs => ?_⟩
    case refine_11 =>
      have : s = 0 := by
        have : s < 1 := hs
        omega
      subst this
      exact zz 37 0 (by decide)
    all_goals exact fun i hi => absurd hi (Nat.not_lt_zero _)
  have mc : MCity h 0 (fun _ _ => 0) := by
    refine ⟨⟨zz 198 0 (by decide), zz 199 0 (by decide), zz 200 0 (by decide), zz 202 0 (by decide), zz 203 0 (by decide), zz 204 0 (by decide), zz 205 0 (by decide), zz 201 0 (by decide)⟩, ?_, ?_, ?_, ?_, ?_, ?_, ?_, ?_⟩
    all_goals exact fun i hi => absurd hi (Nat.not_lt_zero _)
  refine ⟨⟨by omega, fun j hj => absurd hj (Nat.not_lt_zero _), fun _ _ w => (nomatch w), Nat.zero_le _, Nat.zero_le _, fun i hi => absurd hi (Nat.not_lt_zero _), Nat.zero_le _, fun i hi => absurd hi (Nat.not_lt_zero _)⟩, ?_, ?_⟩
  · refine ⟨⟨23, ⟨⟨Or.inr rfl, hp, O.1, cc⟩, O.2.2.2.2.2.1, hr.1, rp, ak⟩, hr.2⟩, ⟨0, by decide, ⟨zz 44 1 (by decide), zz 44 2 (by decide), zz 44 3 (by decide)⟩, fun j hj => absurd hj (Nat.not_lt_zero _), fun j _ hj => absurd hj (Nat.not_lt_zero _), fun w => absurd w (Nat.lt_irrefl _)⟩, fun b hb => ⟨?_, fun w => (nomatch w)⟩, ⟨zz 179 5 (by decide), zz 179 6 (by decide), fun i hi => absurd hi (Nat.not_lt_zero _)⟩, ⟨zz 2 1 (by decide), fun i hi => absurd hi (Nat.not_lt_zero _)⟩, zz 4 2 (by decide), hm.1⟩
    have : b = 0 ∨ b = 1 ∨ b = 2 := by omega
    rcases this with rfl | rfl | rfl
    · exact zz 170 0 (by decide)
    · exact zz 170 1 (by decide)
    · exact zz 170 2 (by decide)
  · refine ⟨⟨0, 0, ⟨hp, O.1, ⟨by decide, zz 195 40 (by decide)⟩, mc⟩, ⟨⟨by decide, rfl, by decide⟩, zz 216 0 (by decide), fun w => absurd w (Nat.lt_irrefl _), fun w => absurd w (Nat.lt_irrefl _), fun i hi => absurd hi (Nat.not_lt_zero _), fun i hi => absurd hi (Nat.not_lt_zero _)⟩, O.2.2.2.2.2.1, rfl, ak⟩, ⟨zz 195 50 (by decide), zz 195 51 (by decide), fun j hj => absurd hj (Nat.not_lt_zero _)⟩, fun b hb => ⟨?_, fun w => (nomatch w)⟩, ⟨zz 195 62 (by decide), zz 195 63 (by decide), fun i hi => absurd hi (Nat.not_lt_zero _)⟩, ⟨zz 195 2 (by decide), fun i hi => absurd hi (Nat.not_lt_zero _)⟩, zz 195 4 (by decide), hm.2⟩
    have : b = 0 ∨ b = 1 ∨ b = 2 := by omega
    rcases this with rfl | rfl | rfl
    · exact zz 237 0 (by decide)
    · exact zz 237 1 (by decide)
    · exact zz 237 2 (by decide)
theorem and_63 (x : Int32) : ∃ c, c < 64 ∧ x &&& 63 = nI c := by
  refine ⟨x.toBitVec.toNat % 64, Nat.mod_lt _ (by decide), ?_⟩
  apply Int32.toBitVec_inj.mp
  apply BitVec.eq_of_toNat_eq
  show (x.toBitVec &&& 63#32).toNat = (BitVec.ofNat 32 (x.toBitVec.toNat % 64)).toNat
  rw [BitVec.toNat_and, BitVec.toNat_ofNat]
  show x.toBitVec.toNat &&& (63 % 2 ^ 32) = x.toBitVec.toNat % 64 % 2 ^ 32
  rw [show (63 % 2 ^ 32) = 2 ^ 6 - 1 from rfl, Nat.and_two_pow_sub_one_eq_mod]
  omega
theorem len_6 {L i : Nat} (hL : L ≤ 3072) (hi : i < 5000) : (nI L - 6 < nI i) = (L < i + 6) := by
  by_cases z : 6 ≤ L
  · have e : nI L - 6 = nI (L - 6) := by
      have a : nI (L - 6) + 6 = nI L := by
        have := nI_add (L - 6) 6
        rw [show L - 6 + 6 = L by omega] at this
        exact this
      rw [← a]
      exact Int32.add_sub_cancel _ _
    rw [e, nI_ltB (show L - 6 < 2 ^ 31 by omega) (show i < 2 ^ 31 by omega)]
    exact propext (by omega)
  · have s : ∀ L, L < 6 → (nI L - 6).toInt < 0 := by decide +kernel
    have t := s L (by omega)
    have u : (nI i).toInt = i := Int32.toInt_ofNat_of_lt (by omega)
    rw [Int32.lt_iff_toInt_lt, u]
    exact propext (by omega)
section LRUN
variable {X : XT}
theorem l_case {h : HT} {σ : ST} {i : Nat} (hX : X.1 ≤ 3072) (hi : i + 6 ≤ X.1) (C : CI h σ) (K : KI h σ) (O : OKs σ) : ∃ (g : HT) (σ : ST), OKs σ ∧ CI g σ ∧ KI g σ ∧ ∀ Q : QT, wq X 1000 315 18 [some (.ref 10000), some (.ref 1), some (.ref 195), some (.int (nI i))] [] h Q = wq X 1000 315 18 [some (.ref 10000), some (.ref 1), some (.ref 195), some (.int (nI (i + 6)))] [] g Q := by
  have hb : Nat.blt X.1 4096 = true := Nat.blt_eq.mpr (by omega)
  have c1 : (Int32.ofNat X.1 - 6 < nI i) = False := eq_false (by
    have := len_6 hX (show i < 5000 by omega)
    intro q
    have := this.mp q
    omega)
  have m0 : m_in (nI i) X.1 = true := q_in (by omega) (by omega)
  have c0 : (nI i).toNatClampNeg = i := q_cl (by omega)
  have a6 : nI i + 6 = nI (i + 6) := nI_add i 6
  obtain ⟨c, hc, ec⟩ := and_63 (X.2 i)
  -- up to the switch, and from its end on
  have up : ∀ Q : QT, wq X 1000 315 18 [some (.ref 10000), some (.ref 1), some (.ref 195), some (.int (nI i))] [] h Q = wq X 1000 315 33 [some (.ref 10000), some (.ref 1), some (.ref 195), some (.int (nI i))] [.int (nI c)] h Q := fun Q => by
    rw [u315_18]
    simp only [u315_19, u315_20, u315_21, u315_23, u315_24, u315_27, u315_28, u315_29, u315_30, u315_32, eq_self, q_nl0, q_nlI, q_nlR, not_false_eq_true, q_nz0, q_nz1, q_zv0, q_zv1, q_tl1, q_tl0, q_wif, q_swc, q_swn, List.cons_append, List.nil_append, if_true, if_false, e10, e01, Bool.false_eq_true, hb, c1, m0, c0, ec]
  have dn : ∀ (g : HT) (Q : QT), wq X 1000 315 1634 [some (.ref 10000), some (.ref 1), some (.ref 195), some (.int (nI i))] [] g Q = wq X 1000 315 18 [some (.ref 10000), some (.ref 1), some (.ref 195), some (.int (nI (i + 6)))] [] g Q := fun g Q => by
    rw [u315_1634, u315_1637, a6]
  have go : ∀ pc, Nx X h i pc → (∀ Q : QT, wq X 1000 315 33 [some (.ref 10000), some (.ref 1), some (.ref 195), some (.int (nI i))] [.int (nI c)] h Q = wq X 1000 315 pc [some (.ref 10000), some (.ref 1), some (.ref 195), some (.int (nI i))] [] h Q) → ∃ (g : HT) (σ : ST), OKs σ ∧ CI g σ ∧ KI g σ ∧ ∀ Q : QT, wq X 1000 315 18 [some (.ref 10000), some (.ref 1), some (.ref 195), some (.int (nI i))] [] h Q = wq X 1000 315 18 [some (.ref 10000), some (.ref 1), some (.ref 195), some (.int (nI (i + 6)))] [] g Q := fun pc N e => by
    obtain ⟨g, σ', n1, n2, n3, n4⟩ := N
    exact ⟨g, σ', n1, n2, n3, fun Q => ((up Q).trans (e Q)).trans ((n4 Q).trans (dn g Q))⟩
  have cs : c = 0 ∨ c = 1 ∨ c = 2 ∨ c = 3 ∨ c = 4 ∨ c = 5 ∨ c = 6 ∨ c = 7 ∨ c = 8 ∨ c = 9 ∨ c = 10 ∨ c = 11 ∨ c = 12 ∨ c = 13 ∨ c = 14 ∨ c = 15 ∨ c = 16 ∨ c = 17 ∨ c = 18 ∨ c = 19 ∨ c = 20 ∨ c = 21 ∨ c = 22 ∨ c = 23 ∨ c = 24 ∨ c = 25 ∨ c = 26 ∨ c = 27 ∨ c = 28 ∨ c = 29 ∨ c = 30 ∨ c = 31 ∨ c = 32 ∨ c = 33 ∨ c = 34 ∨ c = 35 ∨ c = 36 ∨ c = 37 ∨ c = 38 ∨ c = 39 ∨ c = 40 ∨ c = 41 ∨ c = 42 ∨ c = 43 ∨ c = 44 ∨ c = 45 ∨ c = 46 ∨ c = 47 ∨ c = 48 ∨ c = 49 ∨ c = 50 ∨ c = 51 ∨ c = 52 ∨ c = 53 ∨ 54 ≤ c := by omega
  rcases cs with rfl | rfl | rfl | rfl | rfl | rfl | rfl | rfl | rfl | rfl | rfl | rfl | rfl | rfl | rfl | rfl | rfl | rfl | rfl | rfl | rfl | rfl | rfl | rfl | rfl | rfl | rfl | rfl | rfl | rfl | rfl | rfl | rfl | rfl | rfl | rfl | rfl | rfl | rfl | rfl | rfl | rfl | rfl | rfl | rfl | rfl | rfl | rfl | rfl | rfl | rfl | rfl | rfl | rfl | z
  · exact go 264 (t_0 hb hi C K O) (fun Q => u315_33.trans (q_to (t := 264) (by decide +kernel)))
  · exact go 327 (t_1 hb hi C K O) (fun Q => u315_33.trans (q_to (t := 327) (by decide +kernel)))
  · exact go 350 (t_2 hb hi C K O) (fun Q => u315_33.trans (q_to (t := 350) (by decide +kernel)))
  · exact go 363 (t_3 hb hi C K O) (fun Q => u315_33.trans (q_to (t := 363) (by decide +kernel)))
  · exact go 386 (t_4 hb hi C K O) (fun Q => u315_33.trans (q_to (t := 386) (by decide +kernel)))
  · exact go 419 (t_5 hb hi C K O) (fun Q => u315_33.trans (q_to (t := 419) (by decide +kernel)))
  · exact go 452 (t_6 hb hi C K O) (fun Q => u315_33.trans (q_to (t := 452) (by decide +kernel)))
  · exact go 485 (t_7 hb hi C K O) (fun Q => u315_33.trans (q_to (t := 485) (by decide +kernel)))
  · exact go 498 (t_8 hb hi C K O) (fun Q => u315_33.trans (q_to (t := 498) (by decide +kernel)))
  · exact go 521 (t_9 hb hi C K O) (fun Q => u315_33.trans (q_to (t := 521) (by decide +kernel)))
  · exact go 534 (t_10 hb hi C K O) (fun Q => u315_33.trans (q_to (t := 534) (by decide +kernel)))
  · exact go 547 (t_11 hb hi C K O) (fun Q => u315_33.trans (q_to (t := 547) (by decide +kernel)))
  · exact go 580 (t_12 hb hi C K O) (fun Q => u315_33.trans (q_to (t := 580) (by decide +kernel)))
  · exact go 603 (t_13 hb hi C K O) (fun Q => u315_33.trans (q_to (t := 603) (by decide +kernel)))
  · exact go 626 (t_14 hb hi C K O) (fun Q => u315_33.trans (q_to (t := 626) (by decide +kernel)))
  · exact go 659 (t_15 hb hi C K O) (fun Q => u315_33.trans (q_to (t := 659) (by decide +kernel)))
  · exact go 682 (t_16 hb hi C K O) (fun Q => u315_33.trans (q_to (t := 682) (by decide +kernel)))
  · exact go 695 (t_17 hb hi C K O) (fun Q => u315_33.trans (q_to (t := 695) (by decide +kernel)))
  · exact go 708 (t_18 hb hi C K O) (fun Q => u315_33.trans (q_to (t := 708) (by decide +kernel)))
  · exact go 721 (t_19 hb hi C K O) (fun Q => u315_33.trans (q_to (t := 721) (by decide +kernel)))
  · exact go 744 (t_20 hb hi C K O) (fun Q => u315_33.trans (q_to (t := 744) (by decide +kernel)))
  · exact go 767 (t_21 hb hi C K O) (fun Q => u315_33.trans (q_to (t := 767) (by decide +kernel)))
  · exact go 800 (t_22 hb hi C K O) (fun Q => u315_33.trans (q_to (t := 800) (by decide +kernel)))
  · exact go 813 (t_23 hb hi C K O) (fun Q => u315_33.trans (q_to (t := 813) (by decide +kernel)))
  · exact go 826 (t_24 hb hi C K O) (fun Q => u315_33.trans (q_to (t := 826) (by decide +kernel)))
  · exact go 839 (t_25 hb hi C K O) (fun Q => u315_33.trans (q_to (t := 839) (by decide +kernel)))
  · exact go 852 (t_26 hb hi C K O) (fun Q => u315_33.trans (q_to (t := 852) (by decide +kernel)))
  · exact go 865 (t_27 hb hi C K O) (fun Q => u315_33.trans (q_to (t := 865) (by decide +kernel)))
  · exact go 888 (t_28 hb hi C K O) (fun Q => u315_33.trans (q_to (t := 888) (by decide +kernel)))
  · exact go 911 (t_29 hb hi C K O) (fun Q => u315_33.trans (q_to (t := 911) (by decide +kernel)))
  · exact go 944 (t_30 hb hi C K O) (fun Q => u315_33.trans (q_to (t := 944) (by decide +kernel)))
  · exact go 977 (t_31 hb hi C K O) (fun Q => u315_33.trans (q_to (t := 977) (by decide +kernel)))
  · exact go 1000 (t_32 hb hi C K O) (fun Q => u315_33.trans (q_to (t := 1000) (by decide +kernel)))
  · exact go 1033 (t_33 hb hi C K O) (fun Q => u315_33.trans (q_to (t := 1033) (by decide +kernel)))
  · exact go 1056 (t_34 hb hi C K O) (fun Q => u315_33.trans (q_to (t := 1056) (by decide +kernel)))
  · exact go 1089 (t_35 hb hi C K O) (fun Q => u315_33.trans (q_to (t := 1089) (by decide +kernel)))
  · exact go 1112 (t_36 hb hi C K O) (fun Q => u315_33.trans (q_to (t := 1112) (by decide +kernel)))
  · exact go 1125 (t_37 hb hi C K O) (fun Q => u315_33.trans (q_to (t := 1125) (by decide +kernel)))
  · exact go 1148 (t_38 hb hi C K O) (fun Q => u315_33.trans (q_to (t := 1148) (by decide +kernel)))
  · exact go 1161 (t_39 hb hi C K O) (fun Q => u315_33.trans (q_to (t := 1161) (by decide +kernel)))
  · exact go 1194 (t_40 hb hi C K O) (fun Q => u315_33.trans (q_to (t := 1194) (by decide +kernel)))
  · exact go 1217 (t_41 hb hi C K O) (fun Q => u315_33.trans (q_to (t := 1217) (by decide +kernel)))
  · exact go 1250 (t_42 hb hi C K O) (fun Q => u315_33.trans (q_to (t := 1250) (by decide +kernel)))
  · exact go 1283 (t_43 hb hi C K O) (fun Q => u315_33.trans (q_to (t := 1283) (by decide +kernel)))
  · exact go 1332 (t_44 hb hi C K O) (fun Q => u315_33.trans (q_to (t := 1332) (by decide +kernel)))
  · exact go 1381 (t_45 hb hi C K O) (fun Q => u315_33.trans (q_to (t := 1381) (by decide +kernel)))
  · exact go 1430 (t_46 hb hi C K O) (fun Q => u315_33.trans (q_to (t := 1430) (by decide +kernel)))
  · exact go 1453 (t_47 hb hi C K O) (fun Q => u315_33.trans (q_to (t := 1453) (by decide +kernel)))
  · exact go 1476 (t_48 hb hi C K O) (fun Q => u315_33.trans (q_to (t := 1476) (by decide +kernel)))
  · exact go 1499 (t_49 hb hi C K O) (fun Q => u315_33.trans (q_to (t := 1499) (by decide +kernel)))
  · exact go 1532 (t_50 hb hi C K O) (fun Q => u315_33.trans (q_to (t := 1532) (by decide +kernel)))
  · exact go 1565 (t_51 hb hi C K O) (fun Q => u315_33.trans (q_to (t := 1565) (by decide +kernel)))
  · exact go 1588 (t_52 hb hi C K O) (fun Q => u315_33.trans (q_to (t := 1588) (by decide +kernel)))
  · exact go 1611 (t_53 hb hi C K O) (fun Q => u315_33.trans (q_to (t := 1611) (by decide +kernel)))
  · refine go 1634 ⟨h, σ, O, C, K, fun _ => rfl⟩ (fun Q => u315_33.trans (q_to (t := 1634) ?_))
    have w : ∀ c, c < 64 → 54 ≤ c → m_swt [(0, 264), (1, 327), (2, 350), (3, 363), (4, 386), (5, 419), (6, 452), (7, 485), (8, 498), (9, 521), (10, 534), (11, 547), (12, 580), (13, 603), (14, 626), (15, 659), (16, 682), (17, 695), (18, 708), (19, 721), (20, 744), (21, 767), (22, 800), (23, 813), (24, 826), (25, 839), (26, 852), (27, 865), (28, 888), (29, 911), (30, 944), (31, 977), (32, 1000), (33, 1033), (34, 1056), (35, 1089), (36, 1112), (37, 1125), (38, 1148), (39, 1161), (40, 1194), (41, 1217), (42, 1250), (43, 1283), (44, 1332), (45, 1381), (46, 1430), (47, 1453), (48, 1476), (49, 1499), (50, 1532), (51, 1565), (52, 1588), (53, 1611)] 1634 (nI c).toInt = 1634 := by decide +kernel
    exact w c hc (by omega)
theorem l_loop (hX : X.1 ≤ 3072) : ∀ k i (h : HT) (σ : ST), X.1 < i + k → i < 4000 → CI h σ → KI h σ → OKs σ → wq X 1000 315 18 [some (.ref 10000), some (.ref 1), some (.ref 195), some (.int (nI i))] [] h (fun v _ => v = some (.int 1)) := by
  have hb : Nat.blt X.1 4096 = true := Nat.blt_eq.mpr (by omega)
  have nb1 : q_nb .boolean 1 = true := by decide
  intro k
  induction k with
  | zero =>
    intro i h σ hk hi C K O
    have c1 : (Int32.ofNat X.1 - 6 < nI i) = True := eq_true ((len_6 hX (show i < 5000 by omega)).mpr (by omega))
    rw [u315_18]
    simp only [u315_19, u315_20, u315_21, u315_23, u315_24, u315_1640, u315_1641, eq_self, q_nl0, q_nlI, q_nlR, not_false_eq_true, q_nz0, q_nz1, q_zv0, q_zv1, q_tl1, q_tl0, q_wif, q_swc, q_swn, List.cons_append, List.nil_append, if_true, if_false, e10, e01, Bool.false_eq_true, hb, c1, nb1]
  | succ k ih =>
    intro i h σ hk hi C K O
    by_cases z : i + 6 ≤ X.1
    · obtain ⟨g, σ', n1, n2, n3, n4⟩ := l_case hX z C K O
      rw [n4]
      exact ih (i + 6) g σ' (by omega) (by omega) n2 n3 n1
    · have c1 : (Int32.ofNat X.1 - 6 < nI i) = True := eq_true ((len_6 hX (show i < 5000 by omega)).mpr (by omega))
      rw [u315_18]
      simp only [u315_19, u315_20, u315_21, u315_23, u315_24, u315_1640, u315_1641, eq_self, q_nl0, q_nlI, q_nlR, not_false_eq_true, q_nz0, q_nz1, q_zv0, q_zv1, q_tl1, q_tl0, q_wif, q_swc, q_swn, List.cons_append, List.nil_append, if_true, if_false, e10, e01, Bool.false_eq_true, hb, c1, nb1]
end LRUN
