/-! A FORMULA READ, as the class goes -/
def lo (g : Nat → Nat → SF → RF) (V : Nat → Nat) (L l w : Nat) : Nat → RF → RF
  | 0, r => r
  | _ + 1, .inl e => .inl e
  | k + 1, .inr S => if opC V L S.1 l = 0 then .inr S else lo g V L l w k (adR (opC V L S.1 l) 0 (g (l + 1) w (avS V L S)))
def upU (S : SF) : SF := (S.1, S.2.1 + 1, S.2.2)
/-- a unit that can't stand here -/
def unB (V : Nat → Nat) (L w : Nat) (S : SF) : Bool := decide ((isG V L S.1 40 = false ∧ kuC V L S.1 = 0 ∧ tK V L S.1 ≠ 2) ∨ (isG V L S.1 40 = true ∧ 6 < w) ∨ 30 ≤ S.2.1)
def unS (V : Nat → Nat) (L : Nat) (S : SF) : SF := avS V L (adS (if kuC V L S.1 = 0 then 110 else kuC V L S.1) (if kuC V L S.1 = 0 then dN V S.1 (nDg V L S.1) else 0) (upU S))
def un (g : Nat → Nat → SF → RF) (V : Nat → Nat) (L w : Nat) (S : SF) : RF := if unB V L w S = true then rfS V L 2 S else if isG V L S.1 40 = true then exG V L 41 (g 0 (w + 1) (avS V L (upU S))) else .inr (unS V L S)
def lev (V : Nat → Nat) (L : Nat) : Nat → Nat → Nat → SF → RF
  | 0, _, _, S => rfS V L 2 S
  | f + 1, l, w, S => if 5 ≤ l then un (lev V L f) V L w S else if l = 2 ∧ isW V L S.1 18 = true then (if 6 < w then rfS V L 2 S else adR 126 0 (lev V L f 2 (w + 1) (avS V L S))) else lo (lev V L f) V L l w (if l = 2 then 1 else 30) (lev V L f (l + 1) w S)
theorem ku_ok {V : Nat → Nat} {L s : Nat} : kuC V L s = 0 ∨ kuC V L s ∈ fOps ∧ clsC (kuC V L s) 0 ≠ 0 ∧ kuC V L s ≠ 110 := by
  unfold kuC
  repeat' split
  all_goals first | exact Or.inl rfl | exact Or.inr (by decide)
theorem CF_up {X : XT} {C L : Nat} {h : HT} {V : Nat → Nat} {S : SF} (H : CF h C L V S) (hu : S.2.1 < 30) : FrF C h (m_sI h (C + 10) 2 (nI (S.2.1 + 1))) ∧ CF (m_sI h (C + 10) 2 (nI (S.2.1 + 1))) C L V (upU S) := by
  have h5 := isT_ge H.2.1.2
  have fr : ∀ c j, ¬ (c = C + 10 ∧ j = 2) → m_gI (m_sI h (C + 10) 2 (nI (S.2.1 + 1))) c j = m_gI h c j := fun c j z => by rw [gI_sI, if_neg z]
  refine ⟨⟨fun _ _ => rfl, fun c j _ _ z _ => fr c j (fun q => z q.1), fun _ _ _ => rfl⟩, TkC_eq (h := h) (fun _ _ => rfl) (fun c j z => fr c j (by omega)) rfl H.1, H.2.1, ⟨(fr 4 2 (by omega)).trans H.2.2.1.1, (fr 4 3 (by omega)).trans H.2.2.1.2⟩, ?_, hu, (fr _ 1 (by omega)).trans H.2.2.2.2.2.1, H.2.2.2.2.2.2.1, fun i hi => (fr _ i (by omega)).trans (H.2.2.2.2.2.2.2 i hi)⟩
  rw [gI_sI, if_pos ⟨rfl, rfl⟩]
  rfl
theorem c_unit {X : XT} {E C L w : Nat} {h : HT} {V : Nat → Nat} {S : SF} {g : Nat → Nat → SF → RF} (hg : w ≤ 6 → ∀ h S, CF h C L V S → ∃ f, FrF C h f ∧ CRs f C L V (g 0 (w + 1) S) ∧ ∀ Q : QT, wq X (E + 6) 63 0 [some (.ref 4), some (.int 0), some (.int (nI (w + 1))), none, none, none] [] h Q = Q none f) (hw : w ≤ 7) (H : CF h C L V S) : ∃ f, FrF C h f ∧ CRs f C L V (un g V L w S) ∧ ∀ Q : QT, wq X (E + 7) 64 0 [some (.ref 4), some (.int (nI w)), none, none] [] h Q = Q none f := by
  have hp := H.1.1.1
  obtain ⟨hu, hU⟩ := H.2.1
  have h5 := isT_ge hU
  have hv := H.1.1.2.2.2
  have si : ∀ Q : QT, wq X (E + 6) 65 0 [some (.ref 2), some (.int 40)] [] h Q = Q (some (.int (if isG V L S.1 40 = true then 1 else 0))) h := fun Q => c_signIs (X := X) (d := E + 5) (c := 40) (Q := Q) H.1 (by decide)
  have kn : ∀ Q : QT, wq X (E + 6) 66 0 [some (.ref 4)] [] h Q = Q (some (.int (clsC (kuC V L S.1) 0))) h := fun Q => c_known (X := X) (d := E + 1) H Q
  have e1 : (nI (tK V L S.1) = 2) = (tK V L S.1 = 2) := nI_eqB (b := 2) (by have := tK_4 (V := V) (L := L) (s := S.1); omega) (by decide)
  have e2 : (6 < nI w) = (6 < w) := nI_ltB (a := 6) (by decide) (by omega)
  have e3 : (nI S.2.1 < 30) = (S.2.1 < 30) := nI_ltB (b := 30) (by have := H.2.2.2.2.1; omega) (by decide)
  have e4 : (clsC (kuC V L S.1) 0 = 0) = (kuC V L S.1 = 0) := by
    apply propext
    rcases ku_ok (V := V) (L := L) (s := S.1) with z | z
    · rw [z]
      exact ⟨fun _ => rfl, fun _ => rfl⟩
    · exact ⟨fun q => absurd q z.2.1, fun q => by rw [q]; rfl⟩
  -- till what tells whether it can stand
  have st : ∀ Q : QT, wq X (E + 7) 64 0 [some (.ref 4), some (.int (nI w)), none, none] [] h Q = wq X (E + 7) 64 (if unB V L w S = true then 67 else 73) [some (.ref 4), some (.int (nI w)), some (.int (if isG V L S.1 40 = true then 1 else 0)), some (.int (clsC (kuC V L S.1) 0))] [] h Q := fun Q => by
    unfold unB
    by_cases z1 : isG V L S.1 40 = true
    · by_cases z2 : 6 < w
      · rw [if_pos (show decide _ = true from decide_eq_true (Or.inr (Or.inl ⟨z1, z2⟩)))]
        simp only [u64_0, u64_1, u64_4, u64_7, u64_8, u64_9, u64_12, u64_14, u64_17, u64_18, u64_19, u64_22, u64_23, u64_24, u64_27, u64_28, u64_31, u64_32, u64_35, u64_38, u64_39, u64_42, u64_43, u64_46, u64_47, u64_49, u64_52, u64_53, u64_56, u64_59, u64_62, u64_64, eq_self, q_nl0, q_nlI, q_nlR, not_false_eq_true, q_nz0, q_nz1, q_zv0, q_zv1, q_tl1, q_tl0, q_wif, q_swc, q_swn, List.cons_append, List.nil_append, if_true, if_false, e10, e01, Bool.false_eq_true, sh_2, sh_4, H.2.2.1, p_4_0 hp, si, kn, z1, e2, eq_true z2, Option.toList]
      · by_cases z3 : S.2.1 < 30
        · rw [if_neg (show ¬ decide _ = true from fun q => by
            rcases of_decide_eq_true q with q | q | q
            · rw [z1] at q
              cases q.1
            · exact z2 q.2
            · omega)]
          simp only [u64_0, u64_1, u64_4, u64_7, u64_8, u64_9, u64_12, u64_14, u64_17, u64_18, u64_19, u64_22, u64_23, u64_24, u64_27, u64_28, u64_31, u64_32, u64_35, u64_38, u64_39, u64_42, u64_43, u64_46, u64_47, u64_49, u64_52, u64_53, u64_56, u64_59, u64_62, u64_64, eq_self, q_nl0, q_nlI, q_nlR, not_false_eq_true, q_nz0, q_nz1, q_zv0, q_zv1, q_tl1, q_tl0, q_wif, q_swc, q_swn, List.cons_append, List.nil_append, if_true, if_false, e10, e01, Bool.false_eq_true, sh_2, sh_4, H.2.2.1, p_4_0 hp, si, kn, z1, e2, eq_false z2, hu, shT_0 hU, pT_13 hU hp, shT_10 hU, H.2.2.2.1, e3, eq_true z3, Option.toList]
        · rw [if_pos (show decide _ = true from decide_eq_true (Or.inr (Or.inr (by omega))))]
          simp only [u64_0, u64_1, u64_4, u64_7, u64_8, u64_9, u64_12, u64_14, u64_17, u64_18, u64_19, u64_22, u64_23, u64_24, u64_27, u64_28, u64_31, u64_32, u64_35, u64_38, u64_39, u64_42, u64_43, u64_46, u64_47, u64_49, u64_52, u64_53, u64_56, u64_59, u64_62, u64_64, eq_self, q_nl0, q_nlI, q_nlR, not_false_eq_true, q_nz0, q_nz1, q_zv0, q_zv1, q_tl1, q_tl0, q_wif, q_swc, q_swn, List.cons_append, List.nil_append, if_true, if_false, e10, e01, Bool.false_eq_true, sh_2, sh_4, H.2.2.1, p_4_0 hp, si, kn, z1, e2, eq_false z2, hu, shT_0 hU, pT_13 hU hp, shT_10 hU, H.2.2.2.1, e3, eq_false z3, Option.toList]
    · have z1' : isG V L S.1 40 = false := by simpa using z1
      by_cases z2 : kuC V L S.1 = 0 ∧ tK V L S.1 ≠ 2
      · rw [if_pos (show decide _ = true from decide_eq_true (Or.inl ⟨z1', z2⟩))]
        simp only [u64_0, u64_1, u64_4, u64_7, u64_8, u64_9, u64_12, u64_14, u64_17, u64_18, u64_19, u64_22, u64_23, u64_24, u64_27, u64_28, u64_31, u64_32, u64_35, u64_38, u64_39, u64_42, u64_43, u64_46, u64_47, u64_49, u64_52, u64_53, u64_56, u64_59, u64_62, u64_64, eq_self, q_nl0, q_nlI, q_nlR, not_false_eq_true, q_nz0, q_nz1, q_zv0, q_zv1, q_tl1, q_tl0, q_wif, q_swc, q_swn, List.cons_append, List.nil_append, if_true, if_false, e10, e01, Bool.false_eq_true, sh_2, sh_4, H.2.2.1, p_4_0 hp, si, kn, z1', e4, eq_true z2.1, H.1.2.2.1, e1, eq_false z2.2, Option.toList]
      · have tl : ∀ Q : QT, wq X (E + 7) 64 52 [some (.ref 4), some (.int (nI w)), some (.int 0), some (.int (clsC (kuC V L S.1) 0))] [] h Q = wq X (E + 7) 64 (if decide ((isG V L S.1 40 = false ∧ kuC V L S.1 = 0 ∧ tK V L S.1 ≠ 2) ∨ (isG V L S.1 40 = true ∧ 6 < w) ∨ 30 ≤ S.2.1) = true then 67 else 73) [some (.ref 4), some (.int (nI w)), some (.int 0), some (.int (clsC (kuC V L S.1) 0))] [] h Q := fun Q => by
          by_cases z3 : S.2.1 < 30
          · rw [if_neg (show ¬ decide _ = true from fun q => by
              rcases of_decide_eq_true q with q | q | q
              · exact z2 q.2
              · exact z1 q.1
              · omega)]
            simp only [u64_52, u64_53, u64_56, u64_59, u64_62, u64_64, eq_self, q_nl0, q_nlI, q_nlR, not_false_eq_true, q_nz0, q_nz1, q_zv0, q_zv1, q_tl1, q_tl0, q_wif, q_swc, q_swn, List.cons_append, List.nil_append, if_true, if_false, e10, e01, Bool.false_eq_true, sh_4, hu, shT_0 hU, pT_13 hU hp, shT_10 hU, H.2.2.2.1, e3, eq_true z3]
          · rw [if_pos (show decide _ = true from decide_eq_true (Or.inr (Or.inr (by omega))))]
            simp only [u64_52, u64_53, u64_56, u64_59, u64_62, u64_64, eq_self, q_nl0, q_nlI, q_nlR, not_false_eq_true, q_nz0, q_nz1, q_zv0, q_zv1, q_tl1, q_tl0, q_wif, q_swc, q_swn, List.cons_append, List.nil_append, if_true, if_false, e10, e01, Bool.false_eq_true, sh_4, hu, shT_0 hU, pT_13 hU hp, shT_10 hU, H.2.2.2.1, e3, eq_false z3]
        rw [if_neg z1, ← tl]
        by_cases z4 : kuC V L S.1 = 0
        · have z5 : tK V L S.1 = 2 := Classical.byContradiction (fun q => z2 ⟨z4, q⟩)
          simp only [u64_0, u64_1, u64_4, u64_7, u64_8, u64_9, u64_12, u64_14, u64_17, u64_18, u64_19, u64_22, u64_23, u64_24, u64_27, u64_28, u64_31, u64_32, u64_35, u64_38, u64_39, u64_42, u64_43, eq_self, q_nl0, q_nlI, q_nlR, not_false_eq_true, q_nz0, q_nz1, q_zv0, q_zv1, q_tl1, q_tl0, q_wif, q_swc, q_swn, List.cons_append, List.nil_append, if_true, if_false, e10, e01, Bool.false_eq_true, sh_2, sh_4, H.2.2.1, p_4_0 hp, si, kn, z1', e4, eq_true z4, H.1.2.2.1, e1, eq_true z5, Option.toList]
        · simp only [u64_0, u64_1, u64_4, u64_7, u64_8, u64_9, u64_12, u64_14, u64_17, u64_18, u64_19, u64_22, u64_23, u64_24, u64_27, u64_28, u64_31, u64_32, u64_35, u64_38, u64_39, u64_42, u64_43, eq_self, q_nl0, q_nlI, q_nlR, not_false_eq_true, q_nz0, q_nz1, q_zv0, q_zv1, q_tl1, q_tl0, q_wif, q_swc, q_swn, List.cons_append, List.nil_append, if_true, if_false, e10, e01, Bool.false_eq_true, sh_2, sh_4, H.2.2.1, p_4_0 hp, si, kn, z1', e4, eq_false z4, Option.toList]
  unfold un
  by_cases zb : unB V L w S = true
  · obtain ⟨f, a1, a2, a3⟩ := c_refuse (X := X) (d := E + 6) (k := 2) (r := .inr S) H (by decide)
    rw [if_pos zb]
    refine ⟨f, a1, a2, fun Q => ?_⟩
    rw [st, if_pos zb]
    simp only [u64_67, u64_68, u64_69, eq_self, q_nl0, q_nlI, q_nlR, not_false_eq_true, q_nz0, q_nz1, q_zv0, q_zv1, q_tl1, q_tl0, q_wif, q_swc, q_swn, List.cons_append, List.nil_append, if_true, if_false, e10, e01, Bool.false_eq_true, sh_4]
    refine (a3 _).trans ?_
    simp only [u64_72, eq_self, q_nl0, q_nlI, q_nlR, not_false_eq_true, q_nz0, q_nz1, q_zv0, q_zv1, q_tl1, q_tl0, q_wif, q_swc, q_swn, List.cons_append, List.nil_append, if_true, if_false, e10, e01, Bool.false_eq_true]
  · rw [if_neg zb]
    have nb : ¬ ((isG V L S.1 40 = false ∧ kuC V L S.1 = 0 ∧ tK V L S.1 ≠ 2) ∨ (isG V L S.1 40 = true ∧ 6 < w) ∨ 30 ≤ S.2.1) := fun q => zb (decide_eq_true q)
    have hlt : S.2.1 < 30 := Nat.lt_of_not_le (fun q => nb (Or.inr (Or.inr q)))
    obtain ⟨u1, u2⟩ := CF_up (X := X) H hlt
    by_cases zo : isG V L S.1 40 = true
    · rw [if_pos zo]
      have w6 : w ≤ 6 := Nat.le_of_not_lt (fun q => nb (Or.inr (Or.inl ⟨zo, q⟩)))
      obtain ⟨f1, a1, a2, a3⟩ := c_avS (X := X) (d := E + 2) u2
      obtain ⟨f2, b1, b2, b3⟩ := hg w6 f1 _ a2
      obtain ⟨f3, c1, c2, c3⟩ := c_expS (X := X) (d := E + 1) (c := 41) b2 (by decide)
      refine ⟨f3, FrF_tr u1 (FrF_tr a1 (FrF_tr b1 c1)), c2, fun Q => ?_⟩
      rw [st, if_neg zb, if_pos zo]
      simp only [u64_73, u64_74, u64_77, u64_80, u64_81, u64_84, u64_85, u64_86, u64_89, u64_90, u64_93, u64_94, u64_97, eq_self, q_nl0, q_nlI, q_nlR, not_false_eq_true, q_nz0, q_nz1, q_zv0, q_zv1, q_tl1, q_tl0, q_wif, q_swc, q_swn, List.cons_append, List.nil_append, if_true, if_false, e10, e01, Bool.false_eq_true, sh_2, sh_4, hu, shT_0 hU, pT_13 hU hp, shT_10 hU, H.2.2.2.1, nI_1, gR_sI, p_4_0 hp]
      refine (a3 _).trans ?_
      simp only [u64_100, u64_101, u64_102, u64_103, u64_104, u64_105, eq_self, q_nl0, q_nlI, q_nlR, not_false_eq_true, q_nz0, q_nz1, q_zv0, q_zv1, q_tl1, q_tl0, q_wif, q_swc, q_swn, List.cons_append, List.nil_append, if_true, if_false, e10, e01, Bool.false_eq_true, sh_4, nI_1]
      refine (b3 _).trans ?_
      simp only [u64_108, u64_109, u64_111, eq_self, q_nl0, q_nlI, q_nlR, not_false_eq_true, q_nz0, q_nz1, q_zv0, q_zv1, q_tl1, q_tl0, q_wif, q_swc, q_swn, List.cons_append, List.nil_append, if_true, if_false, e10, e01, Bool.false_eq_true, sh_4]
      refine (c3 _).trans ?_
      simp only [u64_114, u64_149, eq_self, q_nl0, q_nlI, q_nlR, not_false_eq_true, q_nz0, q_nz1, q_zv0, q_zv1, q_tl1, q_tl0, q_wif, q_swc, q_swn, List.cons_append, List.nil_append, if_true, if_false, e10, e01, Bool.false_eq_true]
    · have zo' : isG V L S.1 40 = false := by simpa using zo
      rw [if_neg zo]
      by_cases zk : kuC V L S.1 = 0
      · have z5 : tK V L S.1 = 2 := Classical.byContradiction (fun q => nb (Or.inl ⟨zo', zk, q⟩))
        obtain ⟨f1, a1, a2, a3⟩ := c_adR (X := X) (d := E + 6) (k := 110) (v := dN V S.1 (nDg V L S.1)) (r := .inr (upU S)) u2
        obtain ⟨f2, b1, b2, b3⟩ := c_avS (X := X) (d := E + 2) (S := adS 110 (dN V S.1 (nDg V L S.1)) (upU S)) a2
        refine ⟨f2, FrF_tr u1 (FrF_tr a1 b1), ?_, fun Q => ?_⟩
        · unfold unS
          rw [if_pos zk, if_pos zk]
          exact b2
        · have en : m_gI (m_sI h (C + 10) 2 (nI (S.2.1 + 1))) 2 6 = clsC 110 (dN V S.1 (nDg V L S.1)) := by
            rw [gI_sI, if_neg (by omega), H.1.2.2.2.2.2.2 z5]
            rfl
          rw [st, if_neg zb, if_neg zo]
          simp only [u64_73, u64_74, u64_77, u64_80, u64_81, u64_84, u64_85, u64_86, u64_89, u64_90, u64_93, u64_94, u64_97, u64_100, u64_101, u64_102, u64_103, u64_104, u64_105, u64_108, u64_109, u64_111, u64_114, u64_117, u64_118, u64_121, u64_124, u64_125, u64_128, u64_129, u64_132, u64_133, u64_136, u64_139, eq_self, q_nl0, q_nlI, q_nlR, not_false_eq_true, q_nz0, q_nz1, q_zv0, q_zv1, q_tl1, q_tl0, q_wif, q_swc, q_swn, List.cons_append, List.nil_append, if_true, if_false, e10, e01, Bool.false_eq_true, sh_2, sh_4, hu, shT_0 hU, pT_13 hU hp, shT_10 hU, H.2.2.2.1, nI_1, gR_sI, p_4_0 hp, e4, eq_true zk, en]
          refine (a3 _).trans ?_
          simp only [u64_142, u64_143, u64_146, eq_self, q_nl0, q_nlI, q_nlR, not_false_eq_true, q_nz0, q_nz1, q_zv0, q_zv1, q_tl1, q_tl0, q_wif, q_swc, q_swn, List.cons_append, List.nil_append, if_true, if_false, e10, e01, Bool.false_eq_true, sh_2, sh_4, a1.1, gR_sI, p_4_0 hp]
          refine (b3 _).trans ?_
          simp only [u64_149, eq_self, q_nl0, q_nlI, q_nlR, not_false_eq_true, q_nz0, q_nz1, q_zv0, q_zv1, q_tl1, q_tl0, q_wif, q_swc, q_swn, List.cons_append, List.nil_append, if_true, if_false, e10, e01, Bool.false_eq_true]
      · obtain ⟨f1, a1, a2, a3⟩ := c_adR (X := X) (d := E + 6) (k := kuC V L S.1) (v := 0) (r := .inr (upU S)) u2
        obtain ⟨f2, b1, b2, b3⟩ := c_avS (X := X) (d := E + 2) (S := adS (kuC V L S.1) 0 (upU S)) a2
        refine ⟨f2, FrF_tr u1 (FrF_tr a1 b1), ?_, fun Q => ?_⟩
        · unfold unS
          rw [if_neg zk, if_neg zk]
          exact b2
        · rw [st, if_neg zb, if_neg zo]
          simp only [u64_73, u64_74, u64_77, u64_80, u64_81, u64_84, u64_85, u64_86, u64_89, u64_90, u64_93, u64_94, u64_97, u64_100, u64_101, u64_102, u64_103, u64_104, u64_105, u64_108, u64_109, u64_111, u64_114, u64_117, u64_118, u64_121, u64_124, u64_125, u64_128, u64_129, u64_132, u64_133, u64_136, u64_139, eq_self, q_nl0, q_nlI, q_nlR, not_false_eq_true, q_nz0, q_nz1, q_zv0, q_zv1, q_tl1, q_tl0, q_wif, q_swc, q_swn, List.cons_append, List.nil_append, if_true, if_false, e10, e01, Bool.false_eq_true, sh_2, sh_4, hu, shT_0 hU, pT_13 hU hp, shT_10 hU, H.2.2.2.1, nI_1, gR_sI, p_4_0 hp, e4, eq_false zk]
          refine (a3 _).trans ?_
          simp only [u64_142, u64_143, u64_146, eq_self, q_nl0, q_nlI, q_nlR, not_false_eq_true, q_nz0, q_nz1, q_zv0, q_zv1, q_tl1, q_tl0, q_wif, q_swc, q_swn, List.cons_append, List.nil_append, if_true, if_false, e10, e01, Bool.false_eq_true, sh_2, sh_4, a1.1, gR_sI, p_4_0 hp]
          refine (b3 _).trans ?_
          simp only [u64_149, eq_self, q_nl0, q_nlI, q_nlR, not_false_eq_true, q_nz0, q_nz1, q_zv0, q_zv1, q_tl1, q_tl0, q_wif, q_swc, q_swn, List.cons_append, List.nil_append, if_true, if_false, e10, e01, Bool.false_eq_true]
theorem c_loop {X : XT} {E C L l w : Nat} {V : Nat → Nat} {g : Nat → Nat → SF → RF} (hl : l < 5) (hg : ∀ h S, CF h C L V S → ∃ f, FrF C h f ∧ CRs f C L V (g (l + 1) w S) ∧ ∀ Q : QT, wq X (E + 7) 63 0 [some (.ref 4), some (.int (nI (l + 1))), some (.int (nI w)), none, none, none] [] h Q = Q none f) : ∀ k i, i + k ≤ 30 → ∀ h r, CRs h C L V r → ∃ f, FrF C h f ∧ CRs f C L V (lo g V L l w k r) ∧ ∀ (Q : QT) (l5 : Option Value), wq X (E + 8) 63 57 [some (.ref 4), some (.int (nI l)), some (.int (nI w)), some (.int (nI (i + k))), some (.int (nI i)), l5] [] h Q = Q none f
  | 0, i, hi, h, r, H => by
    refine ⟨h, FrF_rf, H, fun Q l5 => ?_⟩
    rw [u63_57]
    simp only [u63_59, u63_60, u63_118, eq_self, q_nl0, q_nlI, q_nlR, not_false_eq_true, q_nz0, q_nz1, q_zv0, q_zv1, q_tl1, q_tl0, q_wif, q_swc, q_swn, List.cons_append, List.nil_append, if_true, if_false, e10, e01, Bool.false_eq_true, eq_false (nI_nlt (Nat.le_refl i) (by omega)), Nat.add_zero]
  | k + 1, i, hi, h, r, H => by
    obtain ⟨hp, hu, hU⟩ := CRs_p H
    have e1 : (nI i < nI (i + (k + 1))) = True := eq_true (nI_lt (by omega) (by omega))
    cases r with
    | inl e =>
      have n0 : (nI e.1 = 0) = False := eq_false (fun q => by have := (nI_eq (a := e.1) (b := 0) (by have := H.2.2.2.1.2; omega) (by decide)).mp q; have := H.2.2.2.1.1; omega)
      refine ⟨h, FrF_rf, H, fun Q l5 => ?_⟩
      rw [u63_57]
      simp only [u63_59, u63_60, u63_63, u63_64, u63_67, u63_118, eq_self, q_nl0, q_nlI, q_nlR, not_false_eq_true, q_nz0, q_nz1, q_zv0, q_zv1, q_tl1, q_tl0, q_wif, q_swc, q_swn, List.cons_append, List.nil_append, if_true, if_false, e10, e01, Bool.false_eq_true, sh_4, e1, H.2.2.1, n0]
    | inr S =>
      have hv := H.1.1.2.2.2
      have oh : ∀ Q : QT, wq X (E + 7) 70 0 [some (.ref 4), some (.int (nI l))] [] h Q = Q (some (.int (clsC (opC V L S.1 l) 0))) h := fun Q => c_opHere (X := X) (d := E + 2) H hl Q
      by_cases z : opC V L S.1 l = 0
      · rw [show lo g V L l w (k + 1) (.inr S) = .inr S from if_pos z]
        refine ⟨h, FrF_rf, H, fun Q l5 => ?_⟩
        have c0 : clsC (opC V L S.1 l) 0 = 0 := by
          rw [z]
          rfl
        rw [u63_57]
        simp only [u63_59, u63_60, u63_63, u63_64, u63_67, u63_70, u63_71, u63_72, u63_75, u63_118, eq_self, q_nl0, q_nlI, q_nlR, not_false_eq_true, q_nz0, q_nz1, q_zv0, q_zv1, q_tl1, q_tl0, q_wif, q_swc, q_swn, List.cons_append, List.nil_append, if_true, if_false, e10, e01, Bool.false_eq_true, sh_4, e1, H.2.2.1, oh, c0, Option.toList]
      · rw [show lo g V L l w (k + 1) (.inr S) = lo g V L l w k (adR (opC V L S.1 l) 0 (g (l + 1) w (avS V L S))) from if_neg z]
        have c0 : (clsC (opC V L S.1 l) 0 = 0) = False := eq_false ((opC_ok (l := l) (s := S.1) hv).resolve_left z).2
        obtain ⟨f1, a1, a2, a3⟩ := c_avS (X := X) (d := E + 3) H
        obtain ⟨f2, b1, b2, b3⟩ := hg f1 _ a2
        obtain ⟨f3, c1, c2, c3⟩ := c_adR (X := X) (d := E + 7) (k := opC V L S.1 l) (v := 0) b2
        obtain ⟨f4, d1, d2, d3⟩ := c_loop hl hg k (i + 1) (by omega) f3 _ c2
        have hp2 := CRs_p b2
        refine ⟨f4, FrF_tr a1 (FrF_tr b1 (FrF_tr c1 d1)), d2, fun Q l5 => ?_⟩
        rw [u63_57]
        simp only [u63_59, u63_60, u63_63, u63_64, u63_67, u63_70, u63_71, u63_72, u63_75, u63_78, u63_79, u63_80, u63_83, u63_85, u63_86, u63_89, eq_self, q_nl0, q_nlI, q_nlR, not_false_eq_true, q_nz0, q_nz1, q_zv0, q_zv1, q_tl1, q_tl0, q_wif, q_swc, q_swn, List.cons_append, List.nil_append, if_true, if_false, e10, e01, Bool.false_eq_true, sh_2, sh_4, e1, H.2.2.1, oh, c0, p_4_0 hp, Option.toList]
        refine (a3 _).trans ?_
        simp only [u63_92, u63_93, u63_94, u63_95, u63_96, u63_97, eq_self, q_nl0, q_nlI, q_nlR, not_false_eq_true, q_nz0, q_nz1, q_zv0, q_zv1, q_tl1, q_tl0, q_wif, q_swc, q_swn, List.cons_append, List.nil_append, if_true, if_false, e10, e01, Bool.false_eq_true, sh_4, nI_1]
        refine (b3 _).trans ?_
        simp only [u63_100, u63_101, u63_104, u63_107, u63_109, eq_self, q_nl0, q_nlI, q_nlR, not_false_eq_true, q_nz0, q_nz1, q_zv0, q_zv1, q_tl1, q_tl0, q_wif, q_swc, q_swn, List.cons_append, List.nil_append, if_true, if_false, e10, e01, Bool.false_eq_true, sh_4, hp2.2.1, shT_0 hp2.2.2, pT_13 hp2.2.2 hp2.1, shT_10 hp2.2.2]
        refine (c3 _).trans ?_
        simp only [u63_112, u63_115, eq_self, q_nl0, q_nlI, q_nlR, not_false_eq_true, q_nz0, q_nz1, q_zv0, q_zv1, q_tl1, q_tl0, q_wif, q_swc, q_swn, List.cons_append, List.nil_append, if_true, if_false, e10, e01, Bool.false_eq_true, nI_1]
        have := d3 Q (some (.int (clsC (opC V L S.1 l) 0)))
        rw [show i + 1 + k = i + (k + 1) by omega] at this
        exact this
theorem c_level {X : XT} {C L : Nat} {V : Nat → Nat} : ∀ f l w D, 6 * (8 - w) ≤ f + l → l ≤ 5 → w ≤ 7 → 2 * f + 6 ≤ D → ∀ h S, CF h C L V S → ∃ g, FrF C h g ∧ CRs g C L V (lev V L f l w S) ∧ ∀ Q : QT, wq X D 63 0 [some (.ref 4), some (.int (nI l)), some (.int (nI w)), none, none, none] [] h Q = Q none g
  | 0, l, w, D, hm, hl, hw, hD, h, S, H => by omega
  | f + 1, l, w, D, hm, hl, hw, hD, h, S, H => by
    have ih := c_level (X := X) (C := C) (L := L) (V := V) f
    obtain ⟨E, rfl⟩ : ∃ E, D = E + 8 := ⟨D - 8, by omega⟩
    have hp := H.1.1.1
    have e1 : (nI l < 5) = (l < 5) := nI_ltB (b := 5) (by omega) (by decide)
    have e2 : (nI l = 2) = (l = 2) := nI_eqB (b := 2) (by omega) (by decide)
    have wi : ∀ Q : QT, wq X (E + 7) 46 0 [some (.ref 2), some (.ref 10028), none, none, none] [] h Q = Q (some (.int (if isW V L S.1 18 = true then 1 else 0))) h := fun Q => c_wordAt (X := X) (d := E + 3) H.1 rfl (by decide)
    unfold lev
    by_cases h5 : 5 ≤ l
    · rw [if_pos h5]
      obtain ⟨g, a1, a2, a3⟩ := c_unit (X := X) (E := E) (w := w) (g := lev V L f) (fun w6 h' S' H' => ih 0 (w + 1) (E + 6) (by omega) (by omega) (by omega) (by omega) h' S' H') hw H
      refine ⟨g, a1, a2, fun Q => ?_⟩
      simp only [u63_0, u63_1, u63_2, u63_5, u63_6, u63_7, eq_self, q_nl0, q_nlI, q_nlR, not_false_eq_true, q_nz0, q_nz1, q_zv0, q_zv1, q_tl1, q_tl0, q_wif, q_swc, q_swn, List.cons_append, List.nil_append, if_true, if_false, e10, e01, Bool.false_eq_true, sh_4, e1, eq_false (show ¬ l < 5 by omega)]
      refine (a3 _).trans ?_
      simp only [u63_10, eq_self, q_nl0, q_nlI, q_nlR, not_false_eq_true, q_nz0, q_nz1, q_zv0, q_zv1, q_tl1, q_tl0, q_wif, q_swc, q_swn, List.cons_append, List.nil_append, if_true, if_false, e10, e01, Bool.false_eq_true]
    · rw [if_neg h5]
      have l5 : (nI l < 5) = True := by rw [e1]; exact eq_true (by omega)
      -- the way on, but for a word 'not'
      have on : ∃ g, FrF C h g ∧ CRs g C L V (lo (lev V L f) V L l w (if l = 2 then 1 else 30) (lev V L f (l + 1) w S)) ∧ ∀ Q : QT, wq X (E + 8) 63 34 [some (.ref 4), some (.int (nI l)), some (.int (nI w)), none, none, none] [] h Q = Q none g := by
        obtain ⟨g1, a1, a2, a3⟩ := ih (l + 1) w (E + 7) (by omega) (by omega) hw (by omega) h S H
        obtain ⟨g2, b1, b2, b3⟩ := c_loop (X := X) (E := E) (g := lev V L f) (w := w) (show l < 5 by omega) (fun h' S' H' => ih (l + 1) w (E + 7) (by omega) (by omega) hw (by omega) h' S' H') (if l = 2 then 1 else 30) 0 (by split <;> omega) g1 _ a2
        refine ⟨g2, FrF_tr a1 b1, b2, fun Q => ?_⟩
        simp only [u63_34, u63_35, u63_36, u63_37, u63_38, u63_39, eq_self, q_nl0, q_nlI, q_nlR, not_false_eq_true, q_nz0, q_nz1, q_zv0, q_zv1, q_tl1, q_tl0, q_wif, q_swc, q_swn, List.cons_append, List.nil_append, if_true, if_false, e10, e01, Bool.false_eq_true, sh_4, nI_1]
        refine (a3 _).trans ?_
        by_cases z : l = 2
        · simp only [u63_42, u63_43, u63_44, u63_47, u63_48, u63_51, u63_53, u63_54, u63_55, eq_self, q_nl0, q_nlI, q_nlR, not_false_eq_true, q_nz0, q_nz1, q_zv0, q_zv1, q_tl1, q_tl0, q_wif, q_swc, q_swn, List.cons_append, List.nil_append, if_true, if_false, e10, e01, Bool.false_eq_true, e2, eq_true z]
          have := b3 Q none
          rw [if_pos z] at this
          exact this
        · simp only [u63_42, u63_43, u63_44, u63_47, u63_48, u63_51, u63_53, u63_54, u63_55, eq_self, q_nl0, q_nlI, q_nlR, not_false_eq_true, q_nz0, q_nz1, q_zv0, q_zv1, q_tl1, q_tl0, q_wif, q_swc, q_swn, List.cons_append, List.nil_append, if_true, if_false, e10, e01, Bool.false_eq_true, e2, eq_false z]
          have := b3 Q none
          rw [if_neg z] at this
          exact this
      by_cases z : l = 2
      · by_cases y : isW V L S.1 18 = true
        · rw [if_pos ⟨z, y⟩]
          by_cases x : 6 < w
          · rw [if_pos x]
            obtain ⟨g, a1, a2, a3⟩ := c_refuse (X := X) (d := E + 6) (k := 2) (r := .inr S) H (by decide)
            refine ⟨g, a1, a2, fun Q => ?_⟩
            have e3 : (6 < nI w) = True := eq_true (nI_lt (a := 6) x (by omega))
            simp only [u63_0, u63_1, u63_2, u63_5, u63_6, u63_7, u63_10, u63_11, u63_12, u63_13, u63_16, u63_17, u63_20, u63_22, u63_25, u63_28, u63_29, u63_30, eq_self, q_nl0, q_nlI, q_nlR, not_false_eq_true, q_nz0, q_nz1, q_zv0, q_zv1, q_tl1, q_tl0, q_wif, q_swc, q_swn, List.cons_append, List.nil_append, if_true, if_false, e10, e01, Bool.false_eq_true, sh_2, sh_4, l5, e2, eq_true z, p_4_0 hp, wi, y, Option.toList]
            simp only [u69_0, u69_1, u69_3, u69_6, u69_7, u69_8, eq_self, q_nl0, q_nlI, q_nlR, not_false_eq_true, q_nz0, q_nz1, q_zv0, q_zv1, q_tl1, q_tl0, q_wif, q_swc, q_swn, List.cons_append, List.nil_append, if_true, if_false, e10, e01, Bool.false_eq_true, sh_4, e3]
            refine (a3 _).trans ?_
            simp only [u69_11, u63_33, eq_self, q_nl0, q_nlI, q_nlR, not_false_eq_true, q_nz0, q_nz1, q_zv0, q_zv1, q_tl1, q_tl0, q_wif, q_swc, q_swn, List.cons_append, List.nil_append, if_true, if_false, e10, e01, Bool.false_eq_true]
          · rw [if_neg x]
            obtain ⟨g1, a1, a2, a3⟩ := c_avS (X := X) (d := E + 2) H
            obtain ⟨g2, b1, b2, b3⟩ := ih 2 (w + 1) (E + 6) (by omega) (by omega) (by omega) (by omega) g1 _ a2
            obtain ⟨g3, c1, c2, c3⟩ := c_adR (X := X) (d := E + 6) (k := 126) (v := 0) b2
            have hp2 := CRs_p b2
            refine ⟨g3, FrF_tr a1 (FrF_tr b1 c1), c2, fun Q => ?_⟩
            have e3 : (6 < nI w) = False := eq_false (nI_nlt (a := 6) (by omega) (by decide))
            simp only [u63_0, u63_1, u63_2, u63_5, u63_6, u63_7, u63_10, u63_11, u63_12, u63_13, u63_16, u63_17, u63_20, u63_22, u63_25, u63_28, u63_29, u63_30, eq_self, q_nl0, q_nlI, q_nlR, not_false_eq_true, q_nz0, q_nz1, q_zv0, q_zv1, q_tl1, q_tl0, q_wif, q_swc, q_swn, List.cons_append, List.nil_append, if_true, if_false, e10, e01, Bool.false_eq_true, sh_2, sh_4, l5, e2, eq_true z, p_4_0 hp, wi, y, Option.toList]
            simp only [u69_0, u69_1, u69_3, u69_6, u69_7, u69_8, u69_11, u69_12, u69_13, u69_16, eq_self, q_nl0, q_nlI, q_nlR, not_false_eq_true, q_nz0, q_nz1, q_zv0, q_zv1, q_tl1, q_tl0, q_wif, q_swc, q_swn, List.cons_append, List.nil_append, if_true, if_false, e10, e01, Bool.false_eq_true, sh_2, sh_4, e3, p_4_0 hp]
            refine (a3 _).trans ?_
            simp only [u69_19, u69_20, u69_21, u69_22, u69_23, u69_24, eq_self, q_nl0, q_nlI, q_nlR, not_false_eq_true, q_nz0, q_nz1, q_zv0, q_zv1, q_tl1, q_tl0, q_wif, q_swc, q_swn, List.cons_append, List.nil_append, if_true, if_false, e10, e01, Bool.false_eq_true, sh_4, nI_1]
            refine (b3 _).trans ?_
            simp only [u69_27, u69_28, u69_31, u69_34, u69_36, eq_self, q_nl0, q_nlI, q_nlR, not_false_eq_true, q_nz0, q_nz1, q_zv0, q_zv1, q_tl1, q_tl0, q_wif, q_swc, q_swn, List.cons_append, List.nil_append, if_true, if_false, e10, e01, Bool.false_eq_true, sh_4, hp2.2.1, shT_0 hp2.2.2, pT_13 hp2.2.2 hp2.1, shT_10 hp2.2.2]
            refine (c3 _).trans ?_
            simp only [u69_39, u63_33, eq_self, q_nl0, q_nlI, q_nlR, not_false_eq_true, q_nz0, q_nz1, q_zv0, q_zv1, q_tl1, q_tl0, q_wif, q_swc, q_swn, List.cons_append, List.nil_append, if_true, if_false, e10, e01, Bool.false_eq_true]
        · have y' : isW V L S.1 18 = false := by simpa using y
          rw [if_neg (fun q => y q.2)]
          obtain ⟨g, a1, a2, a3⟩ := on
          refine ⟨g, a1, a2, fun Q => ?_⟩
          rw [← a3 Q]
          simp only [u63_0, u63_1, u63_2, u63_5, u63_6, u63_7, u63_10, u63_11, u63_12, u63_13, u63_16, u63_17, u63_20, u63_22, u63_25, eq_self, q_nl0, q_nlI, q_nlR, not_false_eq_true, q_nz0, q_nz1, q_zv0, q_zv1, q_tl1, q_tl0, q_wif, q_swc, q_swn, List.cons_append, List.nil_append, if_true, if_false, e10, e01, Bool.false_eq_true, sh_2, sh_4, l5, e2, eq_true z, p_4_0 hp, wi, y', Option.toList]
      · rw [if_neg (fun q => z q.1)]
        obtain ⟨g, a1, a2, a3⟩ := on
        refine ⟨g, a1, a2, fun Q => ?_⟩
        rw [← a3 Q]
        simp only [u63_0, u63_1, u63_2, u63_5, u63_6, u63_7, u63_10, u63_11, u63_12, u63_13, eq_self, q_nl0, q_nlI, q_nlR, not_false_eq_true, q_nz0, q_nz1, q_zv0, q_zv1, q_tl1, q_tl0, q_wif, q_swc, q_swn, List.cons_append, List.nil_append, if_true, if_false, e10, e01, Bool.false_eq_true, sh_2, sh_4, l5, e2, eq_false z]
