/-! WHAT THE CONSTRUCTOR MAKES, by the kernel -/
def i1K : KT := [(0, 11)]
def i1 : Option (Option Value × KT × HT) := m_run X0 3000 999 0 0 (m_ent (m_ml 0) [.ref 1]) [] i1K (m_clr h00 1)
/-- what is 0 in the beginning -/
def iniZ : List (Nat × Nat) := [(23, 0), (23, 4), (23, 10), (23, 14), (23, 15), (23, 16), (23, 9), (33, 1), (33, 2), (37, 0), (38, 0), (38, 3), (38, 4), (38, 5), (38, 6), (38, 7), (44, 1), (44, 2), (44, 3), (170, 0), (170, 1), (170, 2), (179, 5), (179, 6), (2, 1), (4, 2)] ++ (List.range 128).map fun n => (36, n)
def iniC (h : HT) : Bool := PT.all (fun q => Nat.beq (m_gR h q.1 q.2.1) q.2.2) && (Nat.beq (m_gR h 1 2) 23 && Nat.beq (m_gR h 4 1) 5) && iniZ.all (fun q => decide (m_gI h q.1 q.2 = 0)) && decide (m_gI h 4 3 = -1)
def ck (a : Option (Option Value × KT × HT)) : Bool := match a with
  | some (none, K1, h1) => decide (K1 = KS0.take 194) && iniC h1
  | _ => false
theorem ck_gen {a : Option (Option Value × KT × HT)} (e : ck a = true) : ∃ h1, a = some (none, KS0.take 194, h1) ∧ iniC h1 = true := by
  unfold ck at e
  split at e
  · rename_i K1 h1
    have e1 := Bool.and_eq_true_iff.mp e
    have k1 : K1 = KS0.take 194 := of_decide_eq_true e1.1
    subst k1
    exact ⟨h1, rfl, e1.2⟩
  · cases e
set_option maxRecDepth 100000 in
theorem ck_ok : ck i1 = true := by decide +kernel
theorem ini_z {h : HT} (H : iniC h = true) : ∀ q ∈ iniZ, m_gI h q.1 q.2 = 0 := fun q hq => of_decide_eq_true (List.all_eq_true.mp (Bool.and_eq_true_iff.mp (Bool.and_eq_true_iff.mp H).1).2 q hq)
theorem ini_p {h : HT} (H : iniC h = true) : Ptr h := fun q hq => Nat.eq_of_beq_eq_true (List.all_eq_true.mp (Bool.and_eq_true_iff.mp (Bool.and_eq_true_iff.mp (Bool.and_eq_true_iff.mp H).1).1).1 q hq)
theorem ini_r {h : HT} (H : iniC h = true) : m_gR h 1 2 = 23 ∧ m_gR h 4 1 = 5 := by
  have := Bool.and_eq_true_iff.mp (Bool.and_eq_true_iff.mp (Bool.and_eq_true_iff.mp (Bool.and_eq_true_iff.mp H).1).1).2
  exact ⟨Nat.eq_of_beq_eq_true this.1, Nat.eq_of_beq_eq_true this.2⟩
theorem ini_m {h : HT} (H : iniC h = true) : m_gI h 4 3 = -1 := of_decide_eq_true (Bool.and_eq_true_iff.mp H).2
theorem ini_36 : ∀ n, n < 128 → (36, n) ∈ iniZ := fun n hn => List.mem_append_right _ (List.mem_map.mpr ⟨n, List.mem_range.mpr hn, rfl⟩)
theorem ini_CI {h : HT} (H : iniC h = true) : CI h (fun _ _ => 0, fun _ => 0, 0, 0, fun _ _ => 0, fun _ => false, fun _ _ => 0, 0, 0, fun _ _ => 0, 0, fun _ => 0, 0, -1) := by
  have z := ini_z H
  have zz : ∀ c k, (c, k) ∈ iniZ → m_gI h c k = 0 := fun c k m => z (c, k) m
  have hp := ini_p H
  have hr := ini_r H
  have hm := ini_m H
  have O := lOk_0
  have eN : aN (fun _ => 0) = 0 := rfl
  have ak : aOk (fun _ _ => 0) 999 (fun _ => 0) := ⟨⟨by rw [eN]; rfl, by rw [eN]; exact Nat.two_pow_pos _⟩, ⟨0, Nat.two_pow_pos _, rfl⟩, ⟨0, by decide, rfl⟩, 0, Nat.zero_le _, rfl, fun m hm => absurd hm (Nat.not_lt_zero _)⟩
  have rp : Rep (fun _ _ => 0) (gS h 38) (fun _ => 0) := ⟨⟨zz 38 0 (by decide), zz 38 3 (by decide), zz 38 4 (by decide), zz 38 5 (by decide), zz 38 6 (by decide), zz 38 7 (by decide)⟩, fun m hm => absurd hm (Nat.not_lt_zero _), fun m hm => absurd hm (Nat.not_lt_zero _)⟩
  have cc : CCity h 23 (fun _ _ => 0) := by
    refine ⟨⟨zz 23 0 (by decide), zz 23 4 (by decide), zz 23 10 (by decide), zz 23 14 (by decide), zz 23 15 (by decide), zz 23 16 (by decide), zz 23 9 (by decide)⟩, ?_, ?_, ?_, ?_, ?_, ?_, ?_, ?_, ?_, ⟨zz 33 1 (by decide), zz 33 2 (by decide)⟩, ?_, fun n hn => zz 36 n (ini_36 n hn), fun s hs => ?_⟩
    case refine_11 =>
      have : s = 0 := by
        have : s < 1 := hs
        omega
      subst this
      exact zz 37 0 (by decide)
    all_goals exact fun i hi => absurd hi (Nat.not_lt_zero _)
  refine ⟨⟨23, ⟨⟨Or.inr rfl, hp, O.1, cc⟩, O.2.2.2.2.2.1, hr.1, rp, ak⟩, hr.2⟩, ⟨0, by decide, ⟨zz 44 1 (by decide), zz 44 2 (by decide), zz 44 3 (by decide)⟩, fun j hj => absurd hj (Nat.not_lt_zero _), fun j _ hj => absurd hj (Nat.not_lt_zero _), fun w => absurd w (Nat.lt_irrefl _)⟩, fun b hb => ⟨?_, fun w => (nomatch w)⟩, ⟨zz 179 5 (by decide), zz 179 6 (by decide), fun i hi => absurd hi (Nat.not_lt_zero _)⟩, ⟨zz 2 1 (by decide), fun i hi => absurd hi (Nat.not_lt_zero _)⟩, zz 4 2 (by decide), hm⟩
  have : b = 0 ∨ b = 1 ∨ b = 2 := by omega
  rcases this with rfl | rfl | rfl
  · exact zz 170 0 (by decide)
  · exact zz 170 1 (by decide)
  · exact zz 170 2 (by decide)
/-- as the law begins to write: an empty tape, an empty row -/
theorem ini_TW {h : HT} (H : iniC h = true) : TW (m_clr h 195) [] (fun _ => 0) := by
  refine ⟨_, _, _, _, _, _, _, _, _, _, _, _, CI_lo2 (fun c k z => gR_clr (by omega)) (fun c k z => gI_clr (by omega)) (ini_CI H), ⟨by omega, fun j hj => absurd hj (Nat.not_lt_zero _), fun _ _ w => (nomatch w), Nat.zero_le _, Nat.zero_le _, fun i hi => absurd hi (Nat.not_lt_zero _), Nat.zero_le _, fun i hi => absurd hi (Nat.not_lt_zero _)⟩, fun i hi => absurd hi (Nat.not_lt_zero _), funext fun k => gI_clr0⟩
