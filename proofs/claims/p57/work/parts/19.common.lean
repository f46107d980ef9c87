/-! common rows -/
theorem q_tl1 (v : Value) (l : List Value) : (some v : Option Value).toList ++ l = v :: l := rfl
theorem q_tl0 (l : List Value) : (none : Option Value).toList ++ l = l := rfl
theorem q_wif {X : XT} {d M p q : Nat} {ls : LT} {st : List Value} {h : HT} {Q : QT} {c : Prop} [Decidable c] : wq X d M (if c then p else q) ls st h Q = if c then wq X d M p ls st h Q else wq X d M q ls st h Q := by split <;> rfl
theorem q_swc (a : Int) (t d : Nat) (l : List (Int × Nat)) (x : Int) : m_swt ((a, t) :: l) d x = if x = a then t else m_swt l d x := rfl
theorem q_swn (d : Nat) (x : Int) : m_swt [] d x = d := rfl
theorem q_nl0 : m_nl (some none) = true := by decide
theorem q_nlI (x : Int32) : m_nl (some (some (.int x))) = true := id rfl
theorem q_nlR (x : Nat) : m_nl (some (some (.ref x))) = true := id rfl
theorem q_nz0 : q_nb .boolean 0 = true := by decide
theorem q_nz1 : q_nb .boolean 1 = true := by decide
theorem q_nbB : q_nb .byte 0 = true := by decide
theorem q_nbC (x : Int32) : q_nb .char (x.toUInt32 % 65536).toInt32 = true := decide_eq_true (pk_nc x)
theorem q_zv0 : q_zv 0 = true := by decide
theorem q_zv1 : q_zv 1 = true := by decide
theorem q_in {i n : Nat} (h : i < n) (hn : n < 2 ^ 31) : m_in (nI i) n = true := by
  have h1 : ¬ nI i < 0 := nI_pos (by omega)
  have h2 : (nI i).toNatClampNeg = i := nI_clamp (by omega)
  unfold m_in
  rw [decide_eq_false h1, h2]
  simpa using h
theorem q_inOf {x : Int32} {n : Nat} (h : m_in x n = true) (hn : n < 2 ^ 31) : ∃ i, i < n ∧ x = nI i := vp_in_of (i_in h) hn
theorem q_cl {i : Nat} (h : i < 2 ^ 31) : (nI i).toNatClampNeg = i := nI_clamp h
theorem gI_sI {h : HT} {a k b j : Nat} {v : Int32} : m_gI (m_sI h a k v) b j = if b = a ∧ j = k then v else m_gI h b j := rfl
theorem gI_sL {h : HT} {a k b j : Nat} {v : Int64} : m_gI (m_sL h a k v) b j = m_gI h b j := rfl
theorem gI_sR {h : HT} {a k b j v : Nat} : m_gI (m_sR h a k v) b j = m_gI h b j := rfl
theorem gL_sI {h : HT} {a k b j : Nat} {v : Int32} : m_gL (m_sI h a k v) b j = m_gL h b j := rfl
theorem gL_sL {h : HT} {a k b j : Nat} {v : Int64} : m_gL (m_sL h a k v) b j = if b = a ∧ j = k then v else m_gL h b j := rfl
theorem gL_sR {h : HT} {a k b j v : Nat} : m_gL (m_sR h a k v) b j = m_gL h b j := rfl
theorem gR_sI {h : HT} {a k b j : Nat} {v : Int32} : m_gR (m_sI h a k v) b j = m_gR h b j := rfl
theorem gR_sL {h : HT} {a k b j : Nat} {v : Int64} : m_gR (m_sL h a k v) b j = m_gR h b j := rfl
theorem gR_sR {h : HT} {a k b j v : Nat} : m_gR (m_sR h a k v) b j = if b = a ∧ j = k then v else m_gR h b j := rfl
/-- a counting loop, as an equation: from 0 to n -/
theorem q_loop (P : Nat → Prop) (n : Nat) (hs : ∀ i, i < n → P i = P (i + 1)) : P 0 = P n := by
  induction n with
  | zero => rfl
  | succ n ih => rw [ih (fun i hi => hs i (by omega)), hs n (by omega)]
theorem q_loopFrom (P : Nat → Prop) (k n : Nat) (hk : k ≤ n) (hs : ∀ i, k ≤ i → i < n → P i = P (i + 1)) : P k = P n := by
  induction n with
  | zero => rw [show k = 0 by omega]
  | succ n ih =>
    by_cases h : k = n + 1
    · rw [h]
    · rw [ih (by omega) (fun i h1 h2 => hs i h1 (by omega)), hs n (by omega) (by omega)]
theorem sh_le {X : XT} {a : Nat} (h : a ≤ 195) : m_sh (KS X) a = m_sh KS0 a := by
  cases a with
  | zero => rfl
  | succ k =>
    have hl : k < KS0.length := Nat.lt_of_lt_of_le h (Nat.le_of_ble_eq_true (by decide +kernel))
    unfold KS
    split
    · rfl
    · show (KS0 ++ [(20, 21)]).getD k (99, 0) = KS0.getD k (99, 0)
      rw [List.getD_eq_getElem?_getD, List.getD_eq_getElem?_getD, List.getElem?_append_left hl]
theorem sh_196 {X : XT} (hX : X.2 100000 ≠ 0) : m_sh (KS X) 196 = (20, 21) := by
  unfold KS
  rw [if_neg hX]
  decide +kernel
theorem sh_1 {X : XT} : m_sh (KS X) 1 = (0, 11) := (sh_le (Nat.le_of_ble_eq_true rfl)).trans (by decide +kernel)
theorem sh_2 {X : XT} : m_sh (KS X) 2 = (8, 7) := (sh_le (Nat.le_of_ble_eq_true rfl)).trans (by decide +kernel)
theorem sh_3 {X : XT} : m_sh (KS X) 3 = (20, 1600) := (sh_le (Nat.le_of_ble_eq_true rfl)).trans (by decide +kernel)
theorem sh_4 {X : XT} : m_sh (KS X) 4 = (5, 10) := (sh_le (Nat.le_of_ble_eq_true rfl)).trans (by decide +kernel)
theorem sh_5 {X : XT} : m_sh (KS X) 5 = (9, 19) := (sh_le (Nat.le_of_ble_eq_true rfl)).trans (by decide +kernel)
theorem sh_6 {X : XT} : m_sh (KS X) 6 = (20, 4) := (sh_le (Nat.le_of_ble_eq_true rfl)).trans (by decide +kernel)
theorem sh_7 {X : XT} : m_sh (KS X) 7 = (20, 4) := (sh_le (Nat.le_of_ble_eq_true rfl)).trans (by decide +kernel)
theorem sh_8 {X : XT} : m_sh (KS X) 8 = (20, 4) := (sh_le (Nat.le_of_ble_eq_true rfl)).trans (by decide +kernel)
theorem sh_9 {X : XT} : m_sh (KS X) 9 = (20, 7) := (sh_le (Nat.le_of_ble_eq_true rfl)).trans (by decide +kernel)
theorem sh_10 {X : XT} : m_sh (KS X) 10 = (20, 7) := (sh_le (Nat.le_of_ble_eq_true rfl)).trans (by decide +kernel)
theorem sh_11 {X : XT} : m_sh (KS X) 11 = (20, 7) := (sh_le (Nat.le_of_ble_eq_true rfl)).trans (by decide +kernel)
theorem sh_12 {X : XT} : m_sh (KS X) 12 = (20, 7) := (sh_le (Nat.le_of_ble_eq_true rfl)).trans (by decide +kernel)
theorem sh_13 {X : XT} : m_sh (KS X) 13 = (20, 5) := (sh_le (Nat.le_of_ble_eq_true rfl)).trans (by decide +kernel)
theorem sh_14 {X : XT} : m_sh (KS X) 14 = (20, 5) := (sh_le (Nat.le_of_ble_eq_true rfl)).trans (by decide +kernel)
theorem sh_15 {X : XT} : m_sh (KS X) 15 = (2, 5) := (sh_le (Nat.le_of_ble_eq_true rfl)).trans (by decide +kernel)
theorem sh_16 {X : XT} : m_sh (KS X) 16 = (20, 1600) := (sh_le (Nat.le_of_ble_eq_true rfl)).trans (by decide +kernel)
theorem sh_17 {X : XT} : m_sh (KS X) 17 = (20, 30) := (sh_le (Nat.le_of_ble_eq_true rfl)).trans (by decide +kernel)
theorem sh_18 {X : XT} : m_sh (KS X) 18 = (20, 128) := (sh_le (Nat.le_of_ble_eq_true rfl)).trans (by decide +kernel)
theorem sh_19 {X : XT} : m_sh (KS X) 19 = (20, 16) := (sh_le (Nat.le_of_ble_eq_true rfl)).trans (by decide +kernel)
theorem sh_20 {X : XT} : m_sh (KS X) 20 = (21, 4) := (sh_le (Nat.le_of_ble_eq_true rfl)).trans (by decide +kernel)
theorem sh_21 {X : XT} : m_sh (KS X) 21 = (21, 7) := (sh_le (Nat.le_of_ble_eq_true rfl)).trans (by decide +kernel)
theorem sh_22 {X : XT} : m_sh (KS X) 22 = (21, 5) := (sh_le (Nat.le_of_ble_eq_true rfl)).trans (by decide +kernel)
theorem sh_23 {X : XT} : m_sh (KS X) 23 = (9, 19) := (sh_le (Nat.le_of_ble_eq_true rfl)).trans (by decide +kernel)
theorem sh_24 {X : XT} : m_sh (KS X) 24 = (20, 4) := (sh_le (Nat.le_of_ble_eq_true rfl)).trans (by decide +kernel)
theorem sh_25 {X : XT} : m_sh (KS X) 25 = (20, 4) := (sh_le (Nat.le_of_ble_eq_true rfl)).trans (by decide +kernel)
theorem sh_26 {X : XT} : m_sh (KS X) 26 = (20, 4) := (sh_le (Nat.le_of_ble_eq_true rfl)).trans (by decide +kernel)
theorem sh_27 {X : XT} : m_sh (KS X) 27 = (20, 7) := (sh_le (Nat.le_of_ble_eq_true rfl)).trans (by decide +kernel)
theorem sh_28 {X : XT} : m_sh (KS X) 28 = (20, 7) := (sh_le (Nat.le_of_ble_eq_true rfl)).trans (by decide +kernel)
theorem sh_29 {X : XT} : m_sh (KS X) 29 = (20, 7) := (sh_le (Nat.le_of_ble_eq_true rfl)).trans (by decide +kernel)
theorem sh_30 {X : XT} : m_sh (KS X) 30 = (20, 7) := (sh_le (Nat.le_of_ble_eq_true rfl)).trans (by decide +kernel)
theorem sh_31 {X : XT} : m_sh (KS X) 31 = (20, 5) := (sh_le (Nat.le_of_ble_eq_true rfl)).trans (by decide +kernel)
theorem sh_32 {X : XT} : m_sh (KS X) 32 = (20, 5) := (sh_le (Nat.le_of_ble_eq_true rfl)).trans (by decide +kernel)
theorem sh_33 {X : XT} : m_sh (KS X) 33 = (2, 5) := (sh_le (Nat.le_of_ble_eq_true rfl)).trans (by decide +kernel)
theorem sh_34 {X : XT} : m_sh (KS X) 34 = (20, 1600) := (sh_le (Nat.le_of_ble_eq_true rfl)).trans (by decide +kernel)
theorem sh_35 {X : XT} : m_sh (KS X) 35 = (20, 30) := (sh_le (Nat.le_of_ble_eq_true rfl)).trans (by decide +kernel)
theorem sh_36 {X : XT} : m_sh (KS X) 36 = (20, 128) := (sh_le (Nat.le_of_ble_eq_true rfl)).trans (by decide +kernel)
theorem sh_37 {X : XT} : m_sh (KS X) 37 = (20, 16) := (sh_le (Nat.le_of_ble_eq_true rfl)).trans (by decide +kernel)
theorem sh_38 {X : XT} : m_sh (KS X) 38 = (7, 8) := (sh_le (Nat.le_of_ble_eq_true rfl)).trans (by decide +kernel)
theorem sh_39 {X : XT} : m_sh (KS X) 39 = (20, 7) := (sh_le (Nat.le_of_ble_eq_true rfl)).trans (by decide +kernel)
theorem sh_40 {X : XT} : m_sh (KS X) 40 = (20, 7) := (sh_le (Nat.le_of_ble_eq_true rfl)).trans (by decide +kernel)
theorem sh_41 {X : XT} : m_sh (KS X) 41 = (7, 8) := (sh_le (Nat.le_of_ble_eq_true rfl)).trans (by decide +kernel)
theorem sh_42 {X : XT} : m_sh (KS X) 42 = (20, 7) := (sh_le (Nat.le_of_ble_eq_true rfl)).trans (by decide +kernel)
theorem sh_43 {X : XT} : m_sh (KS X) 43 = (20, 7) := (sh_le (Nat.le_of_ble_eq_true rfl)).trans (by decide +kernel)
theorem sh_44 {X : XT} : m_sh (KS X) 44 = (1, 4) := (sh_le (Nat.le_of_ble_eq_true rfl)).trans (by decide +kernel)
theorem sh_45 {X : XT} : m_sh (KS X) 45 = (24, 41) := (sh_le (Nat.le_of_ble_eq_true rfl)).trans (by decide +kernel)
theorem sh_46 {X : XT} : m_sh (KS X) 46 = (7, 8) := (sh_le (Nat.le_of_ble_eq_true rfl)).trans (by decide +kernel)
theorem sh_47 {X : XT} : m_sh (KS X) 47 = (20, 7) := (sh_le (Nat.le_of_ble_eq_true rfl)).trans (by decide +kernel)
theorem sh_48 {X : XT} : m_sh (KS X) 48 = (20, 7) := (sh_le (Nat.le_of_ble_eq_true rfl)).trans (by decide +kernel)
theorem sh_49 {X : XT} : m_sh (KS X) 49 = (7, 8) := (sh_le (Nat.le_of_ble_eq_true rfl)).trans (by decide +kernel)
theorem sh_50 {X : XT} : m_sh (KS X) 50 = (20, 7) := (sh_le (Nat.le_of_ble_eq_true rfl)).trans (by decide +kernel)
theorem sh_51 {X : XT} : m_sh (KS X) 51 = (20, 7) := (sh_le (Nat.le_of_ble_eq_true rfl)).trans (by decide +kernel)
theorem sh_52 {X : XT} : m_sh (KS X) 52 = (7, 8) := (sh_le (Nat.le_of_ble_eq_true rfl)).trans (by decide +kernel)
theorem sh_53 {X : XT} : m_sh (KS X) 53 = (20, 7) := (sh_le (Nat.le_of_ble_eq_true rfl)).trans (by decide +kernel)
theorem sh_54 {X : XT} : m_sh (KS X) 54 = (20, 7) := (sh_le (Nat.le_of_ble_eq_true rfl)).trans (by decide +kernel)
theorem sh_55 {X : XT} : m_sh (KS X) 55 = (7, 8) := (sh_le (Nat.le_of_ble_eq_true rfl)).trans (by decide +kernel)
theorem sh_56 {X : XT} : m_sh (KS X) 56 = (20, 7) := (sh_le (Nat.le_of_ble_eq_true rfl)).trans (by decide +kernel)
theorem sh_57 {X : XT} : m_sh (KS X) 57 = (20, 7) := (sh_le (Nat.le_of_ble_eq_true rfl)).trans (by decide +kernel)
theorem sh_58 {X : XT} : m_sh (KS X) 58 = (7, 8) := (sh_le (Nat.le_of_ble_eq_true rfl)).trans (by decide +kernel)
theorem sh_59 {X : XT} : m_sh (KS X) 59 = (20, 7) := (sh_le (Nat.le_of_ble_eq_true rfl)).trans (by decide +kernel)
theorem sh_60 {X : XT} : m_sh (KS X) 60 = (20, 7) := (sh_le (Nat.le_of_ble_eq_true rfl)).trans (by decide +kernel)
theorem sh_61 {X : XT} : m_sh (KS X) 61 = (7, 8) := (sh_le (Nat.le_of_ble_eq_true rfl)).trans (by decide +kernel)
theorem sh_62 {X : XT} : m_sh (KS X) 62 = (20, 7) := (sh_le (Nat.le_of_ble_eq_true rfl)).trans (by decide +kernel)
theorem sh_63 {X : XT} : m_sh (KS X) 63 = (20, 7) := (sh_le (Nat.le_of_ble_eq_true rfl)).trans (by decide +kernel)
theorem sh_64 {X : XT} : m_sh (KS X) 64 = (7, 8) := (sh_le (Nat.le_of_ble_eq_true rfl)).trans (by decide +kernel)
theorem sh_65 {X : XT} : m_sh (KS X) 65 = (20, 7) := (sh_le (Nat.le_of_ble_eq_true rfl)).trans (by decide +kernel)
theorem sh_66 {X : XT} : m_sh (KS X) 66 = (20, 7) := (sh_le (Nat.le_of_ble_eq_true rfl)).trans (by decide +kernel)
theorem sh_67 {X : XT} : m_sh (KS X) 67 = (7, 8) := (sh_le (Nat.le_of_ble_eq_true rfl)).trans (by decide +kernel)
theorem sh_68 {X : XT} : m_sh (KS X) 68 = (20, 7) := (sh_le (Nat.le_of_ble_eq_true rfl)).trans (by decide +kernel)
theorem sh_69 {X : XT} : m_sh (KS X) 69 = (20, 7) := (sh_le (Nat.le_of_ble_eq_true rfl)).trans (by decide +kernel)
theorem sh_70 {X : XT} : m_sh (KS X) 70 = (7, 8) := (sh_le (Nat.le_of_ble_eq_true rfl)).trans (by decide +kernel)
theorem sh_71 {X : XT} : m_sh (KS X) 71 = (20, 7) := (sh_le (Nat.le_of_ble_eq_true rfl)).trans (by decide +kernel)
theorem sh_72 {X : XT} : m_sh (KS X) 72 = (20, 7) := (sh_le (Nat.le_of_ble_eq_true rfl)).trans (by decide +kernel)
theorem sh_73 {X : XT} : m_sh (KS X) 73 = (7, 8) := (sh_le (Nat.le_of_ble_eq_true rfl)).trans (by decide +kernel)
theorem sh_74 {X : XT} : m_sh (KS X) 74 = (20, 7) := (sh_le (Nat.le_of_ble_eq_true rfl)).trans (by decide +kernel)
theorem sh_75 {X : XT} : m_sh (KS X) 75 = (20, 7) := (sh_le (Nat.le_of_ble_eq_true rfl)).trans (by decide +kernel)
theorem sh_76 {X : XT} : m_sh (KS X) 76 = (7, 8) := (sh_le (Nat.le_of_ble_eq_true rfl)).trans (by decide +kernel)
theorem sh_77 {X : XT} : m_sh (KS X) 77 = (20, 7) := (sh_le (Nat.le_of_ble_eq_true rfl)).trans (by decide +kernel)
theorem sh_78 {X : XT} : m_sh (KS X) 78 = (20, 7) := (sh_le (Nat.le_of_ble_eq_true rfl)).trans (by decide +kernel)
theorem sh_79 {X : XT} : m_sh (KS X) 79 = (7, 8) := (sh_le (Nat.le_of_ble_eq_true rfl)).trans (by decide +kernel)
theorem sh_80 {X : XT} : m_sh (KS X) 80 = (20, 7) := (sh_le (Nat.le_of_ble_eq_true rfl)).trans (by decide +kernel)
theorem sh_81 {X : XT} : m_sh (KS X) 81 = (20, 7) := (sh_le (Nat.le_of_ble_eq_true rfl)).trans (by decide +kernel)
theorem sh_82 {X : XT} : m_sh (KS X) 82 = (7, 8) := (sh_le (Nat.le_of_ble_eq_true rfl)).trans (by decide +kernel)
theorem sh_83 {X : XT} : m_sh (KS X) 83 = (20, 7) := (sh_le (Nat.le_of_ble_eq_true rfl)).trans (by decide +kernel)
theorem sh_84 {X : XT} : m_sh (KS X) 84 = (20, 7) := (sh_le (Nat.le_of_ble_eq_true rfl)).trans (by decide +kernel)
theorem sh_85 {X : XT} : m_sh (KS X) 85 = (7, 8) := (sh_le (Nat.le_of_ble_eq_true rfl)).trans (by decide +kernel)
theorem sh_86 {X : XT} : m_sh (KS X) 86 = (20, 7) := (sh_le (Nat.le_of_ble_eq_true rfl)).trans (by decide +kernel)
theorem sh_87 {X : XT} : m_sh (KS X) 87 = (20, 7) := (sh_le (Nat.le_of_ble_eq_true rfl)).trans (by decide +kernel)
theorem sh_88 {X : XT} : m_sh (KS X) 88 = (7, 8) := (sh_le (Nat.le_of_ble_eq_true rfl)).trans (by decide +kernel)
theorem sh_89 {X : XT} : m_sh (KS X) 89 = (20, 7) := (sh_le (Nat.le_of_ble_eq_true rfl)).trans (by decide +kernel)
theorem sh_90 {X : XT} : m_sh (KS X) 90 = (20, 7) := (sh_le (Nat.le_of_ble_eq_true rfl)).trans (by decide +kernel)
theorem sh_91 {X : XT} : m_sh (KS X) 91 = (7, 8) := (sh_le (Nat.le_of_ble_eq_true rfl)).trans (by decide +kernel)
theorem sh_92 {X : XT} : m_sh (KS X) 92 = (20, 7) := (sh_le (Nat.le_of_ble_eq_true rfl)).trans (by decide +kernel)
theorem sh_93 {X : XT} : m_sh (KS X) 93 = (20, 7) := (sh_le (Nat.le_of_ble_eq_true rfl)).trans (by decide +kernel)
theorem sh_94 {X : XT} : m_sh (KS X) 94 = (7, 8) := (sh_le (Nat.le_of_ble_eq_true rfl)).trans (by decide +kernel)
theorem sh_95 {X : XT} : m_sh (KS X) 95 = (20, 7) := (sh_le (Nat.le_of_ble_eq_true rfl)).trans (by decide +kernel)
theorem sh_96 {X : XT} : m_sh (KS X) 96 = (20, 7) := (sh_le (Nat.le_of_ble_eq_true rfl)).trans (by decide +kernel)
theorem sh_97 {X : XT} : m_sh (KS X) 97 = (7, 8) := (sh_le (Nat.le_of_ble_eq_true rfl)).trans (by decide +kernel)
theorem sh_98 {X : XT} : m_sh (KS X) 98 = (20, 7) := (sh_le (Nat.le_of_ble_eq_true rfl)).trans (by decide +kernel)
theorem sh_99 {X : XT} : m_sh (KS X) 99 = (20, 7) := (sh_le (Nat.le_of_ble_eq_true rfl)).trans (by decide +kernel)
theorem sh_100 {X : XT} : m_sh (KS X) 100 = (7, 8) := (sh_le (Nat.le_of_ble_eq_true rfl)).trans (by decide +kernel)
theorem sh_101 {X : XT} : m_sh (KS X) 101 = (20, 7) := (sh_le (Nat.le_of_ble_eq_true rfl)).trans (by decide +kernel)
theorem sh_102 {X : XT} : m_sh (KS X) 102 = (20, 7) := (sh_le (Nat.le_of_ble_eq_true rfl)).trans (by decide +kernel)
theorem sh_103 {X : XT} : m_sh (KS X) 103 = (7, 8) := (sh_le (Nat.le_of_ble_eq_true rfl)).trans (by decide +kernel)
theorem sh_104 {X : XT} : m_sh (KS X) 104 = (20, 7) := (sh_le (Nat.le_of_ble_eq_true rfl)).trans (by decide +kernel)
theorem sh_105 {X : XT} : m_sh (KS X) 105 = (20, 7) := (sh_le (Nat.le_of_ble_eq_true rfl)).trans (by decide +kernel)
theorem sh_106 {X : XT} : m_sh (KS X) 106 = (7, 8) := (sh_le (Nat.le_of_ble_eq_true rfl)).trans (by decide +kernel)
theorem sh_107 {X : XT} : m_sh (KS X) 107 = (20, 7) := (sh_le (Nat.le_of_ble_eq_true rfl)).trans (by decide +kernel)
theorem sh_108 {X : XT} : m_sh (KS X) 108 = (20, 7) := (sh_le (Nat.le_of_ble_eq_true rfl)).trans (by decide +kernel)
theorem sh_109 {X : XT} : m_sh (KS X) 109 = (7, 8) := (sh_le (Nat.le_of_ble_eq_true rfl)).trans (by decide +kernel)
theorem sh_110 {X : XT} : m_sh (KS X) 110 = (20, 7) := (sh_le (Nat.le_of_ble_eq_true rfl)).trans (by decide +kernel)
theorem sh_111 {X : XT} : m_sh (KS X) 111 = (20, 7) := (sh_le (Nat.le_of_ble_eq_true rfl)).trans (by decide +kernel)
theorem sh_112 {X : XT} : m_sh (KS X) 112 = (7, 8) := (sh_le (Nat.le_of_ble_eq_true rfl)).trans (by decide +kernel)
theorem sh_113 {X : XT} : m_sh (KS X) 113 = (20, 7) := (sh_le (Nat.le_of_ble_eq_true rfl)).trans (by decide +kernel)
theorem sh_114 {X : XT} : m_sh (KS X) 114 = (20, 7) := (sh_le (Nat.le_of_ble_eq_true rfl)).trans (by decide +kernel)
theorem sh_115 {X : XT} : m_sh (KS X) 115 = (7, 8) := (sh_le (Nat.le_of_ble_eq_true rfl)).trans (by decide +kernel)
theorem sh_116 {X : XT} : m_sh (KS X) 116 = (20, 7) := (sh_le (Nat.le_of_ble_eq_true rfl)).trans (by decide +kernel)
theorem sh_117 {X : XT} : m_sh (KS X) 117 = (20, 7) := (sh_le (Nat.le_of_ble_eq_true rfl)).trans (by decide +kernel)
theorem sh_118 {X : XT} : m_sh (KS X) 118 = (7, 8) := (sh_le (Nat.le_of_ble_eq_true rfl)).trans (by decide +kernel)
theorem sh_119 {X : XT} : m_sh (KS X) 119 = (20, 7) := (sh_le (Nat.le_of_ble_eq_true rfl)).trans (by decide +kernel)
theorem sh_120 {X : XT} : m_sh (KS X) 120 = (20, 7) := (sh_le (Nat.le_of_ble_eq_true rfl)).trans (by decide +kernel)
theorem sh_121 {X : XT} : m_sh (KS X) 121 = (7, 8) := (sh_le (Nat.le_of_ble_eq_true rfl)).trans (by decide +kernel)
theorem sh_122 {X : XT} : m_sh (KS X) 122 = (20, 7) := (sh_le (Nat.le_of_ble_eq_true rfl)).trans (by decide +kernel)
theorem sh_123 {X : XT} : m_sh (KS X) 123 = (20, 7) := (sh_le (Nat.le_of_ble_eq_true rfl)).trans (by decide +kernel)
theorem sh_124 {X : XT} : m_sh (KS X) 124 = (7, 8) := (sh_le (Nat.le_of_ble_eq_true rfl)).trans (by decide +kernel)
theorem sh_125 {X : XT} : m_sh (KS X) 125 = (20, 7) := (sh_le (Nat.le_of_ble_eq_true rfl)).trans (by decide +kernel)
theorem sh_126 {X : XT} : m_sh (KS X) 126 = (20, 7) := (sh_le (Nat.le_of_ble_eq_true rfl)).trans (by decide +kernel)
theorem sh_127 {X : XT} : m_sh (KS X) 127 = (7, 8) := (sh_le (Nat.le_of_ble_eq_true rfl)).trans (by decide +kernel)
theorem sh_128 {X : XT} : m_sh (KS X) 128 = (20, 7) := (sh_le (Nat.le_of_ble_eq_true rfl)).trans (by decide +kernel)
theorem sh_129 {X : XT} : m_sh (KS X) 129 = (20, 7) := (sh_le (Nat.le_of_ble_eq_true rfl)).trans (by decide +kernel)
theorem sh_130 {X : XT} : m_sh (KS X) 130 = (7, 8) := (sh_le (Nat.le_of_ble_eq_true rfl)).trans (by decide +kernel)
theorem sh_131 {X : XT} : m_sh (KS X) 131 = (20, 7) := (sh_le (Nat.le_of_ble_eq_true rfl)).trans (by decide +kernel)
theorem sh_132 {X : XT} : m_sh (KS X) 132 = (20, 7) := (sh_le (Nat.le_of_ble_eq_true rfl)).trans (by decide +kernel)
theorem sh_133 {X : XT} : m_sh (KS X) 133 = (7, 8) := (sh_le (Nat.le_of_ble_eq_true rfl)).trans (by decide +kernel)
theorem sh_134 {X : XT} : m_sh (KS X) 134 = (20, 7) := (sh_le (Nat.le_of_ble_eq_true rfl)).trans (by decide +kernel)
theorem sh_135 {X : XT} : m_sh (KS X) 135 = (20, 7) := (sh_le (Nat.le_of_ble_eq_true rfl)).trans (by decide +kernel)
theorem sh_136 {X : XT} : m_sh (KS X) 136 = (7, 8) := (sh_le (Nat.le_of_ble_eq_true rfl)).trans (by decide +kernel)
theorem sh_137 {X : XT} : m_sh (KS X) 137 = (20, 7) := (sh_le (Nat.le_of_ble_eq_true rfl)).trans (by decide +kernel)
theorem sh_138 {X : XT} : m_sh (KS X) 138 = (20, 7) := (sh_le (Nat.le_of_ble_eq_true rfl)).trans (by decide +kernel)
theorem sh_139 {X : XT} : m_sh (KS X) 139 = (7, 8) := (sh_le (Nat.le_of_ble_eq_true rfl)).trans (by decide +kernel)
theorem sh_140 {X : XT} : m_sh (KS X) 140 = (20, 7) := (sh_le (Nat.le_of_ble_eq_true rfl)).trans (by decide +kernel)
theorem sh_141 {X : XT} : m_sh (KS X) 141 = (20, 7) := (sh_le (Nat.le_of_ble_eq_true rfl)).trans (by decide +kernel)
theorem sh_142 {X : XT} : m_sh (KS X) 142 = (7, 8) := (sh_le (Nat.le_of_ble_eq_true rfl)).trans (by decide +kernel)
theorem sh_143 {X : XT} : m_sh (KS X) 143 = (20, 7) := (sh_le (Nat.le_of_ble_eq_true rfl)).trans (by decide +kernel)
theorem sh_144 {X : XT} : m_sh (KS X) 144 = (20, 7) := (sh_le (Nat.le_of_ble_eq_true rfl)).trans (by decide +kernel)
theorem sh_145 {X : XT} : m_sh (KS X) 145 = (7, 8) := (sh_le (Nat.le_of_ble_eq_true rfl)).trans (by decide +kernel)
theorem sh_146 {X : XT} : m_sh (KS X) 146 = (20, 7) := (sh_le (Nat.le_of_ble_eq_true rfl)).trans (by decide +kernel)
theorem sh_147 {X : XT} : m_sh (KS X) 147 = (20, 7) := (sh_le (Nat.le_of_ble_eq_true rfl)).trans (by decide +kernel)
theorem sh_148 {X : XT} : m_sh (KS X) 148 = (7, 8) := (sh_le (Nat.le_of_ble_eq_true rfl)).trans (by decide +kernel)
theorem sh_149 {X : XT} : m_sh (KS X) 149 = (20, 7) := (sh_le (Nat.le_of_ble_eq_true rfl)).trans (by decide +kernel)
theorem sh_150 {X : XT} : m_sh (KS X) 150 = (20, 7) := (sh_le (Nat.le_of_ble_eq_true rfl)).trans (by decide +kernel)
theorem sh_151 {X : XT} : m_sh (KS X) 151 = (7, 8) := (sh_le (Nat.le_of_ble_eq_true rfl)).trans (by decide +kernel)
theorem sh_152 {X : XT} : m_sh (KS X) 152 = (20, 7) := (sh_le (Nat.le_of_ble_eq_true rfl)).trans (by decide +kernel)
theorem sh_153 {X : XT} : m_sh (KS X) 153 = (20, 7) := (sh_le (Nat.le_of_ble_eq_true rfl)).trans (by decide +kernel)
theorem sh_154 {X : XT} : m_sh (KS X) 154 = (7, 8) := (sh_le (Nat.le_of_ble_eq_true rfl)).trans (by decide +kernel)
theorem sh_155 {X : XT} : m_sh (KS X) 155 = (20, 7) := (sh_le (Nat.le_of_ble_eq_true rfl)).trans (by decide +kernel)
theorem sh_156 {X : XT} : m_sh (KS X) 156 = (20, 7) := (sh_le (Nat.le_of_ble_eq_true rfl)).trans (by decide +kernel)
theorem sh_157 {X : XT} : m_sh (KS X) 157 = (7, 8) := (sh_le (Nat.le_of_ble_eq_true rfl)).trans (by decide +kernel)
theorem sh_158 {X : XT} : m_sh (KS X) 158 = (20, 7) := (sh_le (Nat.le_of_ble_eq_true rfl)).trans (by decide +kernel)
theorem sh_159 {X : XT} : m_sh (KS X) 159 = (20, 7) := (sh_le (Nat.le_of_ble_eq_true rfl)).trans (by decide +kernel)
theorem sh_160 {X : XT} : m_sh (KS X) 160 = (7, 8) := (sh_le (Nat.le_of_ble_eq_true rfl)).trans (by decide +kernel)
theorem sh_161 {X : XT} : m_sh (KS X) 161 = (20, 7) := (sh_le (Nat.le_of_ble_eq_true rfl)).trans (by decide +kernel)
theorem sh_162 {X : XT} : m_sh (KS X) 162 = (20, 7) := (sh_le (Nat.le_of_ble_eq_true rfl)).trans (by decide +kernel)
theorem sh_163 {X : XT} : m_sh (KS X) 163 = (7, 8) := (sh_le (Nat.le_of_ble_eq_true rfl)).trans (by decide +kernel)
theorem sh_164 {X : XT} : m_sh (KS X) 164 = (20, 7) := (sh_le (Nat.le_of_ble_eq_true rfl)).trans (by decide +kernel)
theorem sh_165 {X : XT} : m_sh (KS X) 165 = (20, 7) := (sh_le (Nat.le_of_ble_eq_true rfl)).trans (by decide +kernel)
theorem sh_166 {X : XT} : m_sh (KS X) 166 = (7, 8) := (sh_le (Nat.le_of_ble_eq_true rfl)).trans (by decide +kernel)
theorem sh_167 {X : XT} : m_sh (KS X) 167 = (20, 7) := (sh_le (Nat.le_of_ble_eq_true rfl)).trans (by decide +kernel)
theorem sh_168 {X : XT} : m_sh (KS X) 168 = (20, 7) := (sh_le (Nat.le_of_ble_eq_true rfl)).trans (by decide +kernel)
theorem sh_169 {X : XT} : m_sh (KS X) 169 = (24, 3) := (sh_le (Nat.le_of_ble_eq_true rfl)).trans (by decide +kernel)
theorem sh_170 {X : XT} : m_sh (KS X) 170 = (22, 3) := (sh_le (Nat.le_of_ble_eq_true rfl)).trans (by decide +kernel)
theorem sh_171 {X : XT} : m_sh (KS X) 171 = (3, 4) := (sh_le (Nat.le_of_ble_eq_true rfl)).trans (by decide +kernel)
theorem sh_172 {X : XT} : m_sh (KS X) 172 = (7, 8) := (sh_le (Nat.le_of_ble_eq_true rfl)).trans (by decide +kernel)
theorem sh_173 {X : XT} : m_sh (KS X) 173 = (20, 7) := (sh_le (Nat.le_of_ble_eq_true rfl)).trans (by decide +kernel)
theorem sh_174 {X : XT} : m_sh (KS X) 174 = (20, 7) := (sh_le (Nat.le_of_ble_eq_true rfl)).trans (by decide +kernel)
theorem sh_175 {X : XT} : m_sh (KS X) 175 = (20, 61) := (sh_le (Nat.le_of_ble_eq_true rfl)).trans (by decide +kernel)
theorem sh_176 {X : XT} : m_sh (KS X) 176 = (20, 61) := (sh_le (Nat.le_of_ble_eq_true rfl)).trans (by decide +kernel)
theorem sh_177 {X : XT} : m_sh (KS X) 177 = (20, 61) := (sh_le (Nat.le_of_ble_eq_true rfl)).trans (by decide +kernel)
theorem sh_178 {X : XT} : m_sh (KS X) 178 = (4, 4) := (sh_le (Nat.le_of_ble_eq_true rfl)).trans (by decide +kernel)
theorem sh_179 {X : XT} : m_sh (KS X) 179 = (6, 9) := (sh_le (Nat.le_of_ble_eq_true rfl)).trans (by decide +kernel)
theorem sh_180 {X : XT} : m_sh (KS X) 180 = (20, 30) := (sh_le (Nat.le_of_ble_eq_true rfl)).trans (by decide +kernel)
theorem sh_181 {X : XT} : m_sh (KS X) 181 = (20, 30) := (sh_le (Nat.le_of_ble_eq_true rfl)).trans (by decide +kernel)
theorem sh_182 {X : XT} : m_sh (KS X) 182 = (22, 30) := (sh_le (Nat.le_of_ble_eq_true rfl)).trans (by decide +kernel)
theorem sh_183 {X : XT} : m_sh (KS X) 183 = (20, 30) := (sh_le (Nat.le_of_ble_eq_true rfl)).trans (by decide +kernel)
theorem sh_184 {X : XT} : m_sh (KS X) 184 = (20, 30) := (sh_le (Nat.le_of_ble_eq_true rfl)).trans (by decide +kernel)
theorem sh_185 {X : XT} : m_sh (KS X) 185 = (20, 7) := (sh_le (Nat.le_of_ble_eq_true rfl)).trans (by decide +kernel)
theorem sh_186 {X : XT} : m_sh (KS X) 186 = (7, 8) := (sh_le (Nat.le_of_ble_eq_true rfl)).trans (by decide +kernel)
theorem sh_187 {X : XT} : m_sh (KS X) 187 = (20, 7) := (sh_le (Nat.le_of_ble_eq_true rfl)).trans (by decide +kernel)
theorem sh_188 {X : XT} : m_sh (KS X) 188 = (20, 7) := (sh_le (Nat.le_of_ble_eq_true rfl)).trans (by decide +kernel)
theorem sh_189 {X : XT} : m_sh (KS X) 189 = (7, 8) := (sh_le (Nat.le_of_ble_eq_true rfl)).trans (by decide +kernel)
theorem sh_190 {X : XT} : m_sh (KS X) 190 = (20, 7) := (sh_le (Nat.le_of_ble_eq_true rfl)).trans (by decide +kernel)
theorem sh_191 {X : XT} : m_sh (KS X) 191 = (20, 7) := (sh_le (Nat.le_of_ble_eq_true rfl)).trans (by decide +kernel)
theorem sh_192 {X : XT} : m_sh (KS X) 192 = (7, 8) := (sh_le (Nat.le_of_ble_eq_true rfl)).trans (by decide +kernel)
theorem sh_193 {X : XT} : m_sh (KS X) 193 = (20, 7) := (sh_le (Nat.le_of_ble_eq_true rfl)).trans (by decide +kernel)
theorem sh_194 {X : XT} : m_sh (KS X) 194 = (20, 7) := (sh_le (Nat.le_of_ble_eq_true rfl)).trans (by decide +kernel)
theorem sh_195 {X : XT} : m_sh (KS X) 195 = (20, 70) := (sh_le (Nat.le_of_ble_eq_true rfl)).trans (by decide +kernel)
theorem q_tm10 (x : Int32) : (x.toInt = (-10)) = (x = (-10)) := propext ⟨fun h => Int32.toInt_inj.mp (h.trans (by decide)), fun h => by rw [h]; decide⟩
theorem q_tm9 (x : Int32) : (x.toInt = (-9)) = (x = (-9)) := propext ⟨fun h => Int32.toInt_inj.mp (h.trans (by decide)), fun h => by rw [h]; decide⟩
theorem q_tm8 (x : Int32) : (x.toInt = (-8)) = (x = (-8)) := propext ⟨fun h => Int32.toInt_inj.mp (h.trans (by decide)), fun h => by rw [h]; decide⟩
theorem q_tm7 (x : Int32) : (x.toInt = (-7)) = (x = (-7)) := propext ⟨fun h => Int32.toInt_inj.mp (h.trans (by decide)), fun h => by rw [h]; decide⟩
theorem q_tm6 (x : Int32) : (x.toInt = (-6)) = (x = (-6)) := propext ⟨fun h => Int32.toInt_inj.mp (h.trans (by decide)), fun h => by rw [h]; decide⟩
theorem q_tm5 (x : Int32) : (x.toInt = (-5)) = (x = (-5)) := propext ⟨fun h => Int32.toInt_inj.mp (h.trans (by decide)), fun h => by rw [h]; decide⟩
theorem q_tm4 (x : Int32) : (x.toInt = (-4)) = (x = (-4)) := propext ⟨fun h => Int32.toInt_inj.mp (h.trans (by decide)), fun h => by rw [h]; decide⟩
theorem q_tm3 (x : Int32) : (x.toInt = (-3)) = (x = (-3)) := propext ⟨fun h => Int32.toInt_inj.mp (h.trans (by decide)), fun h => by rw [h]; decide⟩
theorem q_tm2 (x : Int32) : (x.toInt = (-2)) = (x = (-2)) := propext ⟨fun h => Int32.toInt_inj.mp (h.trans (by decide)), fun h => by rw [h]; decide⟩
theorem q_tm1 (x : Int32) : (x.toInt = (-1)) = (x = (-1)) := propext ⟨fun h => Int32.toInt_inj.mp (h.trans (by decide)), fun h => by rw [h]; decide⟩
theorem q_t0 (x : Int32) : (x.toInt = 0) = (x = 0) := propext ⟨fun h => Int32.toInt_inj.mp (h.trans (by decide)), fun h => by rw [h]; decide⟩
theorem q_t1 (x : Int32) : (x.toInt = 1) = (x = 1) := propext ⟨fun h => Int32.toInt_inj.mp (h.trans (by decide)), fun h => by rw [h]; decide⟩
theorem q_t2 (x : Int32) : (x.toInt = 2) = (x = 2) := propext ⟨fun h => Int32.toInt_inj.mp (h.trans (by decide)), fun h => by rw [h]; decide⟩
theorem q_t3 (x : Int32) : (x.toInt = 3) = (x = 3) := propext ⟨fun h => Int32.toInt_inj.mp (h.trans (by decide)), fun h => by rw [h]; decide⟩
theorem q_t4 (x : Int32) : (x.toInt = 4) = (x = 4) := propext ⟨fun h => Int32.toInt_inj.mp (h.trans (by decide)), fun h => by rw [h]; decide⟩
theorem q_t5 (x : Int32) : (x.toInt = 5) = (x = 5) := propext ⟨fun h => Int32.toInt_inj.mp (h.trans (by decide)), fun h => by rw [h]; decide⟩
theorem q_t6 (x : Int32) : (x.toInt = 6) = (x = 6) := propext ⟨fun h => Int32.toInt_inj.mp (h.trans (by decide)), fun h => by rw [h]; decide⟩
theorem q_t7 (x : Int32) : (x.toInt = 7) = (x = 7) := propext ⟨fun h => Int32.toInt_inj.mp (h.trans (by decide)), fun h => by rw [h]; decide⟩
theorem q_t8 (x : Int32) : (x.toInt = 8) = (x = 8) := propext ⟨fun h => Int32.toInt_inj.mp (h.trans (by decide)), fun h => by rw [h]; decide⟩
theorem q_t9 (x : Int32) : (x.toInt = 9) = (x = 9) := propext ⟨fun h => Int32.toInt_inj.mp (h.trans (by decide)), fun h => by rw [h]; decide⟩
theorem q_t10 (x : Int32) : (x.toInt = 10) = (x = 10) := propext ⟨fun h => Int32.toInt_inj.mp (h.trans (by decide)), fun h => by rw [h]; decide⟩
theorem q_t11 (x : Int32) : (x.toInt = 11) = (x = 11) := propext ⟨fun h => Int32.toInt_inj.mp (h.trans (by decide)), fun h => by rw [h]; decide⟩
theorem q_t12 (x : Int32) : (x.toInt = 12) = (x = 12) := propext ⟨fun h => Int32.toInt_inj.mp (h.trans (by decide)), fun h => by rw [h]; decide⟩
theorem q_t13 (x : Int32) : (x.toInt = 13) = (x = 13) := propext ⟨fun h => Int32.toInt_inj.mp (h.trans (by decide)), fun h => by rw [h]; decide⟩
theorem q_t14 (x : Int32) : (x.toInt = 14) = (x = 14) := propext ⟨fun h => Int32.toInt_inj.mp (h.trans (by decide)), fun h => by rw [h]; decide⟩
theorem q_t15 (x : Int32) : (x.toInt = 15) = (x = 15) := propext ⟨fun h => Int32.toInt_inj.mp (h.trans (by decide)), fun h => by rw [h]; decide⟩
theorem q_t16 (x : Int32) : (x.toInt = 16) = (x = 16) := propext ⟨fun h => Int32.toInt_inj.mp (h.trans (by decide)), fun h => by rw [h]; decide⟩
theorem q_t17 (x : Int32) : (x.toInt = 17) = (x = 17) := propext ⟨fun h => Int32.toInt_inj.mp (h.trans (by decide)), fun h => by rw [h]; decide⟩
theorem q_t18 (x : Int32) : (x.toInt = 18) = (x = 18) := propext ⟨fun h => Int32.toInt_inj.mp (h.trans (by decide)), fun h => by rw [h]; decide⟩
theorem q_t19 (x : Int32) : (x.toInt = 19) = (x = 19) := propext ⟨fun h => Int32.toInt_inj.mp (h.trans (by decide)), fun h => by rw [h]; decide⟩
theorem q_t20 (x : Int32) : (x.toInt = 20) = (x = 20) := propext ⟨fun h => Int32.toInt_inj.mp (h.trans (by decide)), fun h => by rw [h]; decide⟩
theorem q_t21 (x : Int32) : (x.toInt = 21) = (x = 21) := propext ⟨fun h => Int32.toInt_inj.mp (h.trans (by decide)), fun h => by rw [h]; decide⟩
theorem q_t22 (x : Int32) : (x.toInt = 22) = (x = 22) := propext ⟨fun h => Int32.toInt_inj.mp (h.trans (by decide)), fun h => by rw [h]; decide⟩
theorem q_t23 (x : Int32) : (x.toInt = 23) = (x = 23) := propext ⟨fun h => Int32.toInt_inj.mp (h.trans (by decide)), fun h => by rw [h]; decide⟩
theorem q_t24 (x : Int32) : (x.toInt = 24) = (x = 24) := propext ⟨fun h => Int32.toInt_inj.mp (h.trans (by decide)), fun h => by rw [h]; decide⟩
theorem q_t25 (x : Int32) : (x.toInt = 25) = (x = 25) := propext ⟨fun h => Int32.toInt_inj.mp (h.trans (by decide)), fun h => by rw [h]; decide⟩
theorem q_t26 (x : Int32) : (x.toInt = 26) = (x = 26) := propext ⟨fun h => Int32.toInt_inj.mp (h.trans (by decide)), fun h => by rw [h]; decide⟩
theorem q_t27 (x : Int32) : (x.toInt = 27) = (x = 27) := propext ⟨fun h => Int32.toInt_inj.mp (h.trans (by decide)), fun h => by rw [h]; decide⟩
theorem q_t28 (x : Int32) : (x.toInt = 28) = (x = 28) := propext ⟨fun h => Int32.toInt_inj.mp (h.trans (by decide)), fun h => by rw [h]; decide⟩
theorem q_t29 (x : Int32) : (x.toInt = 29) = (x = 29) := propext ⟨fun h => Int32.toInt_inj.mp (h.trans (by decide)), fun h => by rw [h]; decide⟩
theorem q_t30 (x : Int32) : (x.toInt = 30) = (x = 30) := propext ⟨fun h => Int32.toInt_inj.mp (h.trans (by decide)), fun h => by rw [h]; decide⟩
theorem q_t31 (x : Int32) : (x.toInt = 31) = (x = 31) := propext ⟨fun h => Int32.toInt_inj.mp (h.trans (by decide)), fun h => by rw [h]; decide⟩
theorem q_t32 (x : Int32) : (x.toInt = 32) = (x = 32) := propext ⟨fun h => Int32.toInt_inj.mp (h.trans (by decide)), fun h => by rw [h]; decide⟩
theorem q_t33 (x : Int32) : (x.toInt = 33) = (x = 33) := propext ⟨fun h => Int32.toInt_inj.mp (h.trans (by decide)), fun h => by rw [h]; decide⟩
theorem q_t34 (x : Int32) : (x.toInt = 34) = (x = 34) := propext ⟨fun h => Int32.toInt_inj.mp (h.trans (by decide)), fun h => by rw [h]; decide⟩
theorem q_t35 (x : Int32) : (x.toInt = 35) = (x = 35) := propext ⟨fun h => Int32.toInt_inj.mp (h.trans (by decide)), fun h => by rw [h]; decide⟩
theorem q_t36 (x : Int32) : (x.toInt = 36) = (x = 36) := propext ⟨fun h => Int32.toInt_inj.mp (h.trans (by decide)), fun h => by rw [h]; decide⟩
theorem q_t37 (x : Int32) : (x.toInt = 37) = (x = 37) := propext ⟨fun h => Int32.toInt_inj.mp (h.trans (by decide)), fun h => by rw [h]; decide⟩
theorem q_t38 (x : Int32) : (x.toInt = 38) = (x = 38) := propext ⟨fun h => Int32.toInt_inj.mp (h.trans (by decide)), fun h => by rw [h]; decide⟩
theorem q_t39 (x : Int32) : (x.toInt = 39) = (x = 39) := propext ⟨fun h => Int32.toInt_inj.mp (h.trans (by decide)), fun h => by rw [h]; decide⟩
theorem q_t40 (x : Int32) : (x.toInt = 40) = (x = 40) := propext ⟨fun h => Int32.toInt_inj.mp (h.trans (by decide)), fun h => by rw [h]; decide⟩
theorem q_t41 (x : Int32) : (x.toInt = 41) = (x = 41) := propext ⟨fun h => Int32.toInt_inj.mp (h.trans (by decide)), fun h => by rw [h]; decide⟩
theorem q_t42 (x : Int32) : (x.toInt = 42) = (x = 42) := propext ⟨fun h => Int32.toInt_inj.mp (h.trans (by decide)), fun h => by rw [h]; decide⟩
theorem q_t43 (x : Int32) : (x.toInt = 43) = (x = 43) := propext ⟨fun h => Int32.toInt_inj.mp (h.trans (by decide)), fun h => by rw [h]; decide⟩
theorem q_t44 (x : Int32) : (x.toInt = 44) = (x = 44) := propext ⟨fun h => Int32.toInt_inj.mp (h.trans (by decide)), fun h => by rw [h]; decide⟩
theorem q_t45 (x : Int32) : (x.toInt = 45) = (x = 45) := propext ⟨fun h => Int32.toInt_inj.mp (h.trans (by decide)), fun h => by rw [h]; decide⟩
theorem q_t46 (x : Int32) : (x.toInt = 46) = (x = 46) := propext ⟨fun h => Int32.toInt_inj.mp (h.trans (by decide)), fun h => by rw [h]; decide⟩
theorem q_t47 (x : Int32) : (x.toInt = 47) = (x = 47) := propext ⟨fun h => Int32.toInt_inj.mp (h.trans (by decide)), fun h => by rw [h]; decide⟩
theorem q_t48 (x : Int32) : (x.toInt = 48) = (x = 48) := propext ⟨fun h => Int32.toInt_inj.mp (h.trans (by decide)), fun h => by rw [h]; decide⟩
theorem q_t49 (x : Int32) : (x.toInt = 49) = (x = 49) := propext ⟨fun h => Int32.toInt_inj.mp (h.trans (by decide)), fun h => by rw [h]; decide⟩
theorem q_t50 (x : Int32) : (x.toInt = 50) = (x = 50) := propext ⟨fun h => Int32.toInt_inj.mp (h.trans (by decide)), fun h => by rw [h]; decide⟩
theorem q_t51 (x : Int32) : (x.toInt = 51) = (x = 51) := propext ⟨fun h => Int32.toInt_inj.mp (h.trans (by decide)), fun h => by rw [h]; decide⟩
theorem q_t52 (x : Int32) : (x.toInt = 52) = (x = 52) := propext ⟨fun h => Int32.toInt_inj.mp (h.trans (by decide)), fun h => by rw [h]; decide⟩
theorem q_t53 (x : Int32) : (x.toInt = 53) = (x = 53) := propext ⟨fun h => Int32.toInt_inj.mp (h.trans (by decide)), fun h => by rw [h]; decide⟩
theorem q_t54 (x : Int32) : (x.toInt = 54) = (x = 54) := propext ⟨fun h => Int32.toInt_inj.mp (h.trans (by decide)), fun h => by rw [h]; decide⟩
theorem q_t55 (x : Int32) : (x.toInt = 55) = (x = 55) := propext ⟨fun h => Int32.toInt_inj.mp (h.trans (by decide)), fun h => by rw [h]; decide⟩
theorem q_t56 (x : Int32) : (x.toInt = 56) = (x = 56) := propext ⟨fun h => Int32.toInt_inj.mp (h.trans (by decide)), fun h => by rw [h]; decide⟩
theorem q_t57 (x : Int32) : (x.toInt = 57) = (x = 57) := propext ⟨fun h => Int32.toInt_inj.mp (h.trans (by decide)), fun h => by rw [h]; decide⟩
theorem q_t58 (x : Int32) : (x.toInt = 58) = (x = 58) := propext ⟨fun h => Int32.toInt_inj.mp (h.trans (by decide)), fun h => by rw [h]; decide⟩
theorem q_t59 (x : Int32) : (x.toInt = 59) = (x = 59) := propext ⟨fun h => Int32.toInt_inj.mp (h.trans (by decide)), fun h => by rw [h]; decide⟩
theorem q_t60 (x : Int32) : (x.toInt = 60) = (x = 60) := propext ⟨fun h => Int32.toInt_inj.mp (h.trans (by decide)), fun h => by rw [h]; decide⟩
theorem q_t61 (x : Int32) : (x.toInt = 61) = (x = 61) := propext ⟨fun h => Int32.toInt_inj.mp (h.trans (by decide)), fun h => by rw [h]; decide⟩
theorem q_t62 (x : Int32) : (x.toInt = 62) = (x = 62) := propext ⟨fun h => Int32.toInt_inj.mp (h.trans (by decide)), fun h => by rw [h]; decide⟩
theorem q_t63 (x : Int32) : (x.toInt = 63) = (x = 63) := propext ⟨fun h => Int32.toInt_inj.mp (h.trans (by decide)), fun h => by rw [h]; decide⟩
theorem q_t100 (x : Int32) : (x.toInt = 100) = (x = 100) := propext ⟨fun h => Int32.toInt_inj.mp (h.trans (by decide)), fun h => by rw [h]; decide⟩
theorem q_t103 (x : Int32) : (x.toInt = 103) = (x = 103) := propext ⟨fun h => Int32.toInt_inj.mp (h.trans (by decide)), fun h => by rw [h]; decide⟩
theorem q_t108 (x : Int32) : (x.toInt = 108) = (x = 108) := propext ⟨fun h => Int32.toInt_inj.mp (h.trans (by decide)), fun h => by rw [h]; decide⟩
theorem q_t110 (x : Int32) : (x.toInt = 110) = (x = 110) := propext ⟨fun h => Int32.toInt_inj.mp (h.trans (by decide)), fun h => by rw [h]; decide⟩
theorem q_t111 (x : Int32) : (x.toInt = 111) = (x = 111) := propext ⟨fun h => Int32.toInt_inj.mp (h.trans (by decide)), fun h => by rw [h]; decide⟩
theorem q_t115 (x : Int32) : (x.toInt = 115) = (x = 115) := propext ⟨fun h => Int32.toInt_inj.mp (h.trans (by decide)), fun h => by rw [h]; decide⟩
theorem q_t121 (x : Int32) : (x.toInt = 121) = (x = 121) := propext ⟨fun h => Int32.toInt_inj.mp (h.trans (by decide)), fun h => by rw [h]; decide⟩
theorem q_t124 (x : Int32) : (x.toInt = 124) = (x = 124) := propext ⟨fun h => Int32.toInt_inj.mp (h.trans (by decide)), fun h => by rw [h]; decide⟩
theorem q_t126 (x : Int32) : (x.toInt = 126) = (x = 126) := propext ⟨fun h => Int32.toInt_inj.mp (h.trans (by decide)), fun h => by rw [h]; decide⟩
