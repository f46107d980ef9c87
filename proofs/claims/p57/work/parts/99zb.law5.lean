/-! THE LAW: nine offers -/
section LAW5
variable {X : XT} {d : Nat} {h : HT} {τ : CT} {b : Nat} {A : Nat → Int32} {Z : Option (Nat → Int32)}
theorem lw_of1 (L : LB τ b) {i j : Nat} {A0 : Nat → Int32} (W : WW h τ b A A j A0 Z) {n : Nat} (hn9 : n < 9) {k11 j12 v14 v15 v16 v17 v18 : Int32} {l20 l21 l22 : Option Value} : ∃ g v20, WW g τ b A A j A0 Z ∧ ∀ Q : QT, wq X (d + 12) 315 1069 [some (.ref 10000), some (.ref 1), some (.ref 195), some (.int 1), some (.ref 196), some (.int (nI (sAll τ))), some (.int (nI i)), some (.int (A 18)), some (.int (nI (aN A))), some (.int (nI (sShort τ (aN A)))), some (.int (nI (sLoss τ (aN A)))), some (.int k11), some (.int j12), some (.int (oI (fstN (lsP τ A) 60))), some (.int v14), some (.int v15), some (.int v16), some (.int v17), some (.int v18), some (.int (nI n)), l20, l21, l22] [] h Q = wq X (d + 12) 315 1155 [some (.ref 10000), some (.ref 1), some (.ref 195), some (.int 1), some (.ref 196), some (.int (nI (sAll τ))), some (.int (nI i)), some (.int (A 18)), some (.int (nI (aN A))), some (.int (nI (sShort τ (aN A)))), some (.int (nI (sLoss τ (aN A)))), some (.int k11), some (.int j12), some (.int (oI (fstN (lsP τ A) 60))), some (.int v14), some (.int v15), some (.int v16), some (.int v17), some (.int v18), some (.int (nI n)), some (.int v20), l21, l22] [] g Q := by
  have K := ww_a W
  obtain ⟨gr, hg, eg⟩ := K.2.1
  have hd3 := L.2.2.2.1
  have f9 : (nI n < 9) = True := eq_true (nI_lt (b := 9) hn9 (by decide))
  have i60 : nI 60 = (60 : Int32) := rfl
  have c60 := aCs_lt (A := A) L.1 (Nat.le_refl 60)
  have cn := aCs_lt (A := A) L.1 (show n ≤ 60 by omega)
  obtain ⟨q, eq_⟩ := of_some (τ := τ) (g := gr) (M := ofM τ A n) (2 ^ τ 0 2) (Nat.two_pow_pos _)
  obtain ⟨sat, _⟩ := of_sat eq_
  cases e : fstN (lsP τ A) 60 with
  | none =>
    have eE : ofE τ A n = 60 := by
      unfold ofE
      rw [e]
    unfold ofM at sat
    rw [eE] at sat
    have cm := aCs_mono (τ := τ) (A := A) (show n ≤ 60 by omega)
    obtain ⟨g1, W1, q1⟩ := w_ask W (fun T H => a_costs (X := X) (d := d + 1) (n := 60) H (by decide))
    obtain ⟨g2, W2, q2⟩ := w_ask W1 (fun T H => a_costs (X := X) (d := d + 1) (n := n) H (by omega))
    obtain ⟨g3, W3, q3⟩ := w_off1 (X := X) (d := d + 1) W2 hg eg (show n < 60 by omega) eq_
    simp only [i60] at q1
    have f2 : (nI (aCs τ A 60 - aCs τ A n) < nI (smN τ 7 q)) = False := eq_false (by rw [nI_ltI (by omega) (by omega)]; omega)
    refine ⟨g3, nI (aCs τ A 60 - aCs τ A n), W3, fun Q => ?_⟩
    rw [u315_1069]
    simp only [u315_1071, u315_1073, u315_1076, u315_1077, u315_1080, u315_1082, u315_1085, u315_1087, u315_1089, u315_1092, u315_1093, u315_1096, u315_1098, u315_1101, u315_1102, u315_1104, eq_self, q_nl0, q_nlI, q_nlR, not_false_eq_true, q_nz0, q_nz1, q_zv0, q_zv1, q_tl1, q_tl0, q_wif, q_swc, q_swn, List.cons_append, List.nil_append, if_true, if_false, e10, e01, Bool.false_eq_true, sh_1, f9, oI_n, m1_lt0, q1]
    simp only [u315_1107, u315_1110, u315_1111, u315_1113, u315_1116, u315_1117, u315_1119, eq_self, q_nl0, q_nlI, q_nlR, not_false_eq_true, q_nz0, q_nz1, q_zv0, q_zv1, q_tl1, q_tl0, q_wif, q_swc, q_swn, List.cons_append, List.nil_append, if_true, if_false, e10, e01, Bool.false_eq_true, sh_1, q2]
    simp only [u315_1122, u315_1123, u315_1125, u315_1127, u315_1130, u315_1132, u315_1134, u315_1137, u315_1138, u315_1140, u315_1141, eq_self, q_nl0, q_nlI, q_nlR, not_false_eq_true, q_nz0, q_nz1, q_zv0, q_zv1, q_tl1, q_tl0, q_wif, q_swc, q_swn, List.cons_append, List.nil_append, if_true, if_false, e10, e01, Bool.false_eq_true, sh_1, nI_sb cm, m1_lt0, q3]
    simp only [u315_1144, u315_1146, u315_1149, u315_1150, u315_1153, u315_1154, eq_self, q_nl0, q_nlI, q_nlR, not_false_eq_true, q_nz0, q_nz1, q_zv0, q_zv1, q_tl1, q_tl0, q_wif, q_swc, q_swn, List.cons_append, List.nil_append, if_true, if_false, e10, e01, Bool.false_eq_true, f2]
  | some v =>
    obtain ⟨v1, _, _⟩ := fst_some 60 e
    have zl := oI_lt0 (show v < 2 ^ 31 by omega)
    have lt : (nI n < nI v) = (n < v) := nI_ltB (by omega) (by omega)
    by_cases y : n < v
    · have eE : ofE τ A n = v := by
        unfold ofE
        rw [e]
        exact if_pos (by omega)
      unfold ofM at sat
      rw [eE] at sat
      have cm := aCs_mono (τ := τ) (A := A) (show n ≤ v by omega)
      have cv := aCs_lt (A := A) L.1 v1
      obtain ⟨g1, W1, q1⟩ := w_ask W (fun T H => a_costs (X := X) (d := d + 1) (n := v) H (by omega))
      obtain ⟨g2, W2, q2⟩ := w_ask W1 (fun T H => a_costs (X := X) (d := d + 1) (n := n) H (by omega))
      obtain ⟨g3, W3, q3⟩ := w_off1 (X := X) (d := d + 1) W2 hg eg (show n < 60 by omega) eq_
      have f2 : (nI (aCs τ A v - aCs τ A n) < nI (smN τ 7 q)) = False := eq_false (by rw [nI_ltI (by omega) (by omega)]; omega)
      refine ⟨g3, nI (aCs τ A v - aCs τ A n), W3, fun Q => ?_⟩
      rw [u315_1069]
      simp only [u315_1071, u315_1073, u315_1076, u315_1077, u315_1080, u315_1082, u315_1085, u315_1087, u315_1089, u315_1092, u315_1093, u315_1096, u315_1098, u315_1101, u315_1102, u315_1104, u315_1107, u315_1110, u315_1111, u315_1113, eq_self, q_nl0, q_nlI, q_nlR, not_false_eq_true, q_nz0, q_nz1, q_zv0, q_zv1, q_tl1, q_tl0, q_wif, q_swc, q_swn, List.cons_append, List.nil_append, if_true, if_false, e10, e01, Bool.false_eq_true, sh_1, f9, oI_s, zl, lt, y, q1]
      simp only [u315_1116, u315_1117, u315_1119, eq_self, q_nl0, q_nlI, q_nlR, not_false_eq_true, q_nz0, q_nz1, q_zv0, q_zv1, q_tl1, q_tl0, q_wif, q_swc, q_swn, List.cons_append, List.nil_append, if_true, if_false, e10, e01, Bool.false_eq_true, sh_1, q2]
      simp only [u315_1122, u315_1123, u315_1125, u315_1127, u315_1130, u315_1132, u315_1134, u315_1137, u315_1138, u315_1140, u315_1141, eq_self, q_nl0, q_nlI, q_nlR, not_false_eq_true, q_nz0, q_nz1, q_zv0, q_zv1, q_tl1, q_tl0, q_wif, q_swc, q_swn, List.cons_append, List.nil_append, if_true, if_false, e10, e01, Bool.false_eq_true, sh_1, nI_sb cm, zl, lt, y, q3]
      simp only [u315_1144, u315_1146, u315_1149, u315_1150, u315_1153, u315_1154, eq_self, q_nl0, q_nlI, q_nlR, not_false_eq_true, q_nz0, q_nz1, q_zv0, q_zv1, q_tl1, q_tl0, q_wif, q_swc, q_swn, List.cons_append, List.nil_append, if_true, if_false, e10, e01, Bool.false_eq_true, f2]
    · refine ⟨h, 0, W, fun Q => ?_⟩
      rw [u315_1069]
      simp only [u315_1071, u315_1073, u315_1076, u315_1077, u315_1080, u315_1082, u315_1085, u315_1087, u315_1089, u315_1092, u315_1093, u315_1096, u315_1098, u315_1101, u315_1102, u315_1104, u315_1107, u315_1110, u315_1111, u315_1113, u315_1116, u315_1117, u315_1119, u315_1122, u315_1123, u315_1125, u315_1127, u315_1130, u315_1132, u315_1134, u315_1137, u315_1138, u315_1140, u315_1141, u315_1144, u315_1146, u315_1149, u315_1150, u315_1153, u315_1154, eq_self, q_nl0, q_nlI, q_nlR, not_false_eq_true, q_nz0, q_nz1, q_zv0, q_zv1, q_tl1, q_tl0, q_wif, q_swc, q_swn, List.cons_append, List.nil_append, if_true, if_false, e10, e01, Bool.false_eq_true, f9, oI_s, zl, lt, y]
theorem lw_of2 (L : LB τ b) {i j : Nat} {A0 : Nat → Int32} (W : WW h τ b A A j A0 Z) {n : Nat} (hn9 : n < 9) {k11 j12 v14 v15 v16 v17 v18 v20 : Int32} {l21 l22 : Option Value} : ∃ g, WW g τ b A A j A0 Z ∧ ∀ Q : QT, wq X (d + 12) 315 1155 [some (.ref 10000), some (.ref 1), some (.ref 195), some (.int 1), some (.ref 196), some (.int (nI (sAll τ))), some (.int (nI i)), some (.int (A 18)), some (.int (nI (aN A))), some (.int (nI (sShort τ (aN A)))), some (.int (nI (sLoss τ (aN A)))), some (.int k11), some (.int j12), some (.int (oI (fstN (lsP τ A) 60))), some (.int v14), some (.int v15), some (.int v16), some (.int v17), some (.int v18), some (.int (nI n)), some (.int v20), l21, l22] [] h Q = wq X (d + 12) 315 1069 [some (.ref 10000), some (.ref 1), some (.ref 195), some (.int 1), some (.ref 196), some (.int (nI (sAll τ))), some (.int (nI i)), some (.int (A 18)), some (.int (nI (aN A))), some (.int (nI (sShort τ (aN A)))), some (.int (nI (sLoss τ (aN A)))), some (.int k11), some (.int j12), some (.int (oI (fstN (lsP τ A) 60))), some (.int v14), some (.int v15), some (.int v16), some (.int v17), some (.int v18), some (.int (nI (n + 1))), some (.int v20), l21, l22] [] g Q := by
  have K := ww_a W
  obtain ⟨gr, hg, eg⟩ := K.2.1
  have hd3 := L.2.2.2.1
  have hd5 := o_dm L.1
  have s8 : ∀ s, smN τ 8 s ≤ 4995 := fun s => smN_le (fun i => by have := L.1.2.2.2.2.2.2.2.2.2.2.2.2.2.2.2 i; omega) hd5
  obtain ⟨q, eq_⟩ := of_some (τ := τ) (g := gr) (M := ofM τ A n) (2 ^ τ 0 2) (Nat.two_pow_pos _)
  have z8 : (nI (smN τ 8 q) < 0) = False := oI_lt0 (by have := s8 q; omega)
  obtain ⟨g1, W1, q1⟩ := w_off0 (X := X) (d := d + 1) W hg eg (show n < 60 by omega) eq_
  -- the last of it
  have last : ∀ {g : HT}, WW g τ b A A j A0 Z → ∃ g', WW g' τ b A A j A0 Z ∧ ∀ Q : QT, wq X (d + 12) 315 1205 [some (.ref 10000), some (.ref 1), some (.ref 195), some (.int 1), some (.ref 196), some (.int (nI (sAll τ))), some (.int (nI i)), some (.int (A 18)), some (.int (nI (aN A))), some (.int (nI (sShort τ (aN A)))), some (.int (nI (sLoss τ (aN A)))), some (.int k11), some (.int j12), some (.int (oI (fstN (lsP τ A) 60))), some (.int v14), some (.int v15), some (.int v16), some (.int v17), some (.int v18), some (.int (nI n)), some (.int v20), l21, l22] [] g Q = wq X (d + 12) 315 1069 [some (.ref 10000), some (.ref 1), some (.ref 195), some (.int 1), some (.ref 196), some (.int (nI (sAll τ))), some (.int (nI i)), some (.int (A 18)), some (.int (nI (aN A))), some (.int (nI (sShort τ (aN A)))), some (.int (nI (sLoss τ (aN A)))), some (.int k11), some (.int j12), some (.int (oI (fstN (lsP τ A) 60))), some (.int v14), some (.int v15), some (.int v16), some (.int v17), some (.int v18), some (.int (nI (n + 1))), some (.int v20), l21, l22] [] g' Q := by
    intro g V
    obtain ⟨u1, V1, r1⟩ := w_off0 (X := X) (d := d + 1) V hg eg (show n < 60 by omega) eq_
    obtain ⟨u2, V2, r2⟩ := w_ask V1 (fun T H => a_until (X := X) (d := d + 1) (x := nI (smN τ 8 q)) H hg eg)
    obtain ⟨p, e1, e2, e3⟩ := unO_ge (A := A) (gr := gr) (n := n) (x := nI (smN τ 8 q)) (by unfold unW; rw [eq_]) 60 (by omega)
    rw [e1] at r2
    have f2 : (nI p < nI n) = False := eq_false (by rw [nI_ltI (by omega) (by omega)]; omega)
    refine ⟨u2, V2, fun Q => ?_⟩
    simp only [u315_1205, u315_1206, u315_1207, u315_1209, u315_1210, eq_self, q_nl0, q_nlI, q_nlR, not_false_eq_true, q_nz0, q_nz1, q_zv0, q_zv1, q_tl1, q_tl0, q_wif, q_swc, q_swn, List.cons_append, List.nil_append, if_true, if_false, e10, e01, Bool.false_eq_true, sh_1, r1]
    simp only [u315_1213, eq_self, q_nl0, q_nlI, q_nlR, not_false_eq_true, q_nz0, q_nz1, q_zv0, q_zv1, q_tl1, q_tl0, q_wif, q_swc, q_swn, List.cons_append, List.nil_append, if_true, if_false, e10, e01, Bool.false_eq_true, sh_1, r2]
    simp only [u315_1216, u315_1218, u315_1221, u315_1222, u315_1225, u315_1226, u315_1227, u315_1230, eq_self, q_nl0, q_nlI, q_nlR, not_false_eq_true, q_nz0, q_nz1, q_zv0, q_zv1, q_tl1, q_tl0, q_wif, q_swc, q_swn, List.cons_append, List.nil_append, if_true, if_false, e10, e01, Bool.false_eq_true, oI_s, f2, nI_1]
  by_cases n0 : n = 0
  · obtain ⟨g', W', q'⟩ := last W1
    refine ⟨g', W', fun Q => ?_⟩
    have f0 : (nI n = 0) = True := eq_true (by rw [n0]; rfl)
    simp only [u315_1155, u315_1156, u315_1159, u315_1160, u315_1162, u315_1163, eq_self, q_nl0, q_nlI, q_nlR, not_false_eq_true, q_nz0, q_nz1, q_zv0, q_zv1, q_tl1, q_tl0, q_wif, q_swc, q_swn, List.cons_append, List.nil_append, if_true, if_false, e10, e01, Bool.false_eq_true, sh_1, q1]
    simp only [u315_1166, u315_1169, u315_1171, eq_self, q_nl0, q_nlI, q_nlR, not_false_eq_true, q_nz0, q_nz1, q_zv0, q_zv1, q_tl1, q_tl0, q_wif, q_swc, q_swn, List.cons_append, List.nil_append, if_true, if_false, e10, e01, Bool.false_eq_true, z8, f0]
    exact q' Q
  · have f0 : (nI n = 0) = False := eq_false (fun e => n0 ((nI_eqB (b := 0) (by omega) (by decide)).mp e))
    obtain ⟨m, rfl⟩ : ∃ m, n = m + 1 := ⟨n - 1, by omega⟩
    -- two offers held side by side
    have two : ofM τ A (m + 1) ≤ ofM τ A m → ∃ g', WW g' τ b A A j A0 Z ∧ ∀ Q : QT, wq X (d + 12) 315 1186 [some (.ref 10000), some (.ref 1), some (.ref 195), some (.int 1), some (.ref 196), some (.int (nI (sAll τ))), some (.int (nI i)), some (.int (A 18)), some (.int (nI (aN A))), some (.int (nI (sShort τ (aN A)))), some (.int (nI (sLoss τ (aN A)))), some (.int k11), some (.int j12), some (.int (oI (fstN (lsP τ A) 60))), some (.int v14), some (.int v15), some (.int v16), some (.int v17), some (.int v18), some (.int (nI (m + 1))), some (.int v20), l21, l22] [] g1 Q = wq X (d + 12) 315 1069 [some (.ref 10000), some (.ref 1), some (.ref 195), some (.int 1), some (.ref 196), some (.int (nI (sAll τ))), some (.int (nI i)), some (.int (A 18)), some (.int (nI (aN A))), some (.int (nI (sShort τ (aN A)))), some (.int (nI (sLoss τ (aN A)))), some (.int k11), some (.int j12), some (.int (oI (fstN (lsP τ A) 60))), some (.int v14), some (.int v15), some (.int v16), some (.int v17), some (.int v18), some (.int (nI (m + 1 + 1))), some (.int v20), l21, l22] [] g' Q := by
      intro mo
      obtain ⟨p0, eq'⟩ := of_some (τ := τ) (g := gr) (M := ofM τ A m) (2 ^ τ 0 2) (Nat.two_pow_pos _)
      have hle := (of_sat eq_).2 _ mo _ eq'
      have b1 := s8 q
      have b2 := s8 p0
      obtain ⟨u1, V1, r1⟩ := w_off0 (X := X) (d := d + 1) W1 hg eg (show m + 1 < 60 by omega) eq_
      obtain ⟨u2, V2, r2⟩ := w_off0 (X := X) (d := d + 1) V1 hg eg (show m < 60 by omega) eq'
      obtain ⟨g', W', q'⟩ := last V2
      have f2 : (nI (smN τ 8 p0) < nI (smN τ 8 q)) = False := eq_false (by rw [nI_ltI (by omega) (by omega)]; omega)
      refine ⟨g', W', fun Q => ?_⟩
      simp only [u315_1186, u315_1187, u315_1189, u315_1190, eq_self, q_nl0, q_nlI, q_nlR, not_false_eq_true, q_nz0, q_nz1, q_zv0, q_zv1, q_tl1, q_tl0, q_wif, q_swc, q_swn, List.cons_append, List.nil_append, if_true, if_false, e10, e01, Bool.false_eq_true, sh_1, r1]
      simp only [u315_1193, u315_1194, u315_1196, u315_1197, u315_1198, u315_1199, eq_self, q_nl0, q_nlI, q_nlR, not_false_eq_true, q_nz0, q_nz1, q_zv0, q_zv1, q_tl1, q_tl0, q_wif, q_swc, q_swn, List.cons_append, List.nil_append, if_true, if_false, e10, e01, Bool.false_eq_true, sh_1, nI_dn, r2]
      simp only [u315_1202, eq_self, q_nl0, q_nlI, q_nlR, not_false_eq_true, q_nz0, q_nz1, q_zv0, q_zv1, q_tl1, q_tl0, q_wif, q_swc, q_swn, List.cons_append, List.nil_append, if_true, if_false, e10, e01, Bool.false_eq_true, f2]
      exact q' Q
    cases e : fstN (lsP τ A) 60 with
    | none =>
      rw [e] at two last
      have E1 : ∀ n, n ≤ 60 → ofM τ A n = aCs τ A 60 - aCs τ A n := fun n _ => by
        unfold ofM ofE
        rw [e]
      have cm := aCs_mono (τ := τ) (A := A) (show m ≤ m + 1 by omega)
      obtain ⟨g', W', q'⟩ := two (by rw [E1 _ (by omega), E1 _ (by omega)]; omega)
      refine ⟨g', W', fun Q => ?_⟩
      simp only [u315_1155, u315_1156, u315_1159, u315_1160, u315_1162, u315_1163, eq_self, q_nl0, q_nlI, q_nlR, not_false_eq_true, q_nz0, q_nz1, q_zv0, q_zv1, q_tl1, q_tl0, q_wif, q_swc, q_swn, List.cons_append, List.nil_append, if_true, if_false, e10, e01, Bool.false_eq_true, sh_1, q1]
      simp only [oI_n] at q' ⊢
      simp only [u315_1166, u315_1169, u315_1171, u315_1174, u315_1176, eq_self, q_nl0, q_nlI, q_nlR, not_false_eq_true, q_nz0, q_nz1, q_zv0, q_zv1, q_tl1, q_tl0, q_wif, q_swc, q_swn, List.cons_append, List.nil_append, if_true, if_false, e10, e01, Bool.false_eq_true, z8, f0, m1_lt0]
      exact q' Q
    | some v =>
      rw [e] at two last
      obtain ⟨v1, _, _⟩ := fst_some 60 e
      have zl := oI_lt0 (show v < 2 ^ 31 by omega)
      have lt : (nI v < nI (m + 1)) = (v < m + 1) := nI_ltB (by omega) (by omega)
      by_cases y : v < m + 1
      · obtain ⟨g', W', q'⟩ := last W1
        refine ⟨g', W', fun Q => ?_⟩
        simp only [u315_1155, u315_1156, u315_1159, u315_1160, u315_1162, u315_1163, eq_self, q_nl0, q_nlI, q_nlR, not_false_eq_true, q_nz0, q_nz1, q_zv0, q_zv1, q_tl1, q_tl0, q_wif, q_swc, q_swn, List.cons_append, List.nil_append, if_true, if_false, e10, e01, Bool.false_eq_true, sh_1, q1]
        simp only [oI_s] at q' ⊢
        simp only [u315_1166, u315_1169, u315_1171, u315_1174, u315_1176, u315_1179, u315_1181, u315_1183, eq_self, q_nl0, q_nlI, q_nlR, not_false_eq_true, q_nz0, q_nz1, q_zv0, q_zv1, q_tl1, q_tl0, q_wif, q_swc, q_swn, List.cons_append, List.nil_append, if_true, if_false, e10, e01, Bool.false_eq_true, z8, f0, zl, lt, y]
        exact q' Q
      · have E1 : ∀ n, n ≤ m + 1 → ofM τ A n = aCs τ A v - aCs τ A n := fun n hn => by
          unfold ofM ofE
          rw [e]
          show aCs τ A (if n ≤ v then v else n) - _ = _
          rw [if_pos (by omega)]
        have cm := aCs_mono (τ := τ) (A := A) (show m ≤ m + 1 by omega)
        obtain ⟨g', W', q'⟩ := two (by rw [E1 _ (by omega), E1 _ (by omega)]; omega)
        refine ⟨g', W', fun Q => ?_⟩
        simp only [u315_1155, u315_1156, u315_1159, u315_1160, u315_1162, u315_1163, eq_self, q_nl0, q_nlI, q_nlR, not_false_eq_true, q_nz0, q_nz1, q_zv0, q_zv1, q_tl1, q_tl0, q_wif, q_swc, q_swn, List.cons_append, List.nil_append, if_true, if_false, e10, e01, Bool.false_eq_true, sh_1, q1]
        simp only [oI_s] at q' ⊢
        simp only [u315_1166, u315_1169, u315_1171, u315_1174, u315_1176, u315_1179, u315_1181, u315_1183, eq_self, q_nl0, q_nlI, q_nlR, not_false_eq_true, q_nz0, q_nz1, q_zv0, q_zv1, q_tl1, q_tl0, q_wif, q_swc, q_swn, List.cons_append, List.nil_append, if_true, if_false, e10, e01, Bool.false_eq_true, z8, f0, zl, lt, y]
        exact q' Q
theorem lw_offers (L : LB τ b) {i j : Nat} {A0 : Nat → Int32} (W : WW h τ b A A j A0 Z) {k11 j12 v14 v15 v16 v17 v18 : Int32} {l20 l21 l22 : Option Value} : ∃ g l20', WW g τ b A A j A0 Z ∧ ∀ Q : QT, wq X (d + 12) 315 1069 [some (.ref 10000), some (.ref 1), some (.ref 195), some (.int 1), some (.ref 196), some (.int (nI (sAll τ))), some (.int (nI i)), some (.int (A 18)), some (.int (nI (aN A))), some (.int (nI (sShort τ (aN A)))), some (.int (nI (sLoss τ (aN A)))), some (.int k11), some (.int j12), some (.int (oI (fstN (lsP τ A) 60))), some (.int v14), some (.int v15), some (.int v16), some (.int v17), some (.int v18), some (.int 0), l20, l21, l22] [] h Q = wq X (d + 12) 315 1233 [some (.ref 10000), some (.ref 1), some (.ref 195), some (.int 1), some (.ref 196), some (.int (nI (sAll τ))), some (.int (nI i)), some (.int (A 18)), some (.int (nI (aN A))), some (.int (nI (sShort τ (aN A)))), some (.int (nI (sLoss τ (aN A)))), some (.int k11), some (.int j12), some (.int (oI (fstN (lsP τ A) 60))), some (.int v14), some (.int v15), some (.int v16), some (.int v17), some (.int v18), some (.int (nI 9)), l20', l21, l22] [] g Q := by
  obtain ⟨l', W', e⟩ := q_loopI (α := HT × Option Value) (fun n l => fun (Q : QT) => wq X (d + 12) 315 1069 [some (.ref 10000), some (.ref 1), some (.ref 195), some (.int 1), some (.ref 196), some (.int (nI (sAll τ))), some (.int (nI i)), some (.int (A 18)), some (.int (nI (aN A))), some (.int (nI (sShort τ (aN A)))), some (.int (nI (sLoss τ (aN A)))), some (.int k11), some (.int j12), some (.int (oI (fstN (lsP τ A) 60))), some (.int v14), some (.int v15), some (.int v16), some (.int v17), some (.int v18), some (.int (nI n)), l.2, l21, l22] [] l.1 Q) (fun n l => WW l.1 τ b A A j A0 Z) 9 (by
    rintro n hn ⟨h, j20⟩ W
    obtain ⟨g1, v20, W1, q1⟩ := lw_of1 (X := X) (d := d) (i := i) (k11 := k11) (j12 := j12) (v14 := v14) (v15 := v15) (v16 := v16) (v17 := v17) (v18 := v18) (l20 := j20) (l21 := l21) (l22 := l22) L W hn
    obtain ⟨g2, W2, q2⟩ := lw_of2 (X := X) (d := d) (i := i) (k11 := k11) (j12 := j12) (v14 := v14) (v15 := v15) (v16 := v16) (v17 := v17) (v18 := v18) (v20 := v20) (l21 := l21) (l22 := l22) L W1 hn
    exact ⟨⟨g2, some (.int v20)⟩, W2, funext fun Q => (q1 Q).trans (q2 Q)⟩) ⟨h, l20⟩ W
  refine ⟨l'.1, l'.2, W', fun Q => ?_⟩
  have e' := congrFun e Q
  refine Eq.trans (b := wq X (d + 12) 315 1069 [some (.ref 10000), some (.ref 1), some (.ref 195), some (.int 1), some (.ref 196), some (.int (nI (sAll τ))), some (.int (nI i)), some (.int (A 18)), some (.int (nI (aN A))), some (.int (nI (sShort τ (aN A)))), some (.int (nI (sLoss τ (aN A)))), some (.int k11), some (.int j12), some (.int (oI (fstN (lsP τ A) 60))), some (.int v14), some (.int v15), some (.int v16), some (.int v17), some (.int v18), some (.int (nI 0)), l20, l21, l22] [] h Q) rfl (e'.trans ?_)
  show wq X (d + 12) 315 1069 _ _ _ _ = _
  rw [u315_1069]
  simp only [u315_1071, u315_1073, eq_self, q_nl0, q_nlI, q_nlR, not_false_eq_true, q_nz0, q_nz1, q_zv0, q_zv1, q_tl1, q_tl0, q_wif, q_swc, q_swn, List.cons_append, List.nil_append, if_true, if_false, e10, e01, Bool.false_eq_true, eq_false (show ¬ nI 9 < 9 by decide)]
end LAW5
