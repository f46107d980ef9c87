/-! WHAT THE LAW WROTE, READ AGAIN: all lines -/
def cF (f g : Nat → Nat) : Nat → Nat → List Nat → List Nat
  | _, 0, U => U
  | k, r + 1, U => cLn k (f k) (g k) (cF f g (k + 1) r U)
def dF (f g : Nat → Nat) : Nat → Nat → List Nat → List Nat
  | _, 0, U => U
  | k, r + 1, U => dLn k (f k) (g k) (dF f g (k + 1) r U)
def mF (X : XT) (n : Nat) : Nat → Nat → List Nat → List Nat
  | _, 0, U => U
  | k, r + 1, U => mLX X n k (mF X n (k + 1) r U)
section PARSE
variable {V : Nat → Nat} {L s : Nat} {τ : CT} { U : List Nat}
theorem cLn_U {k a l : Nat} : cLn k a l U = cLn k a l [] ++ U := by
  unfold cLn
  simp only [List.append_assoc, List.append_nil]
theorem dLn_U {k a l : Nat} : dLn k a l U = dLn k a l [] ++ U := by
  unfold dLn
  simp only [List.append_assoc, List.append_nil]
theorem mLX_U {X : XT} {n m : Nat} : mLX X n m U = mLX X n m [] ++ U := by
  unfold mLX mLn
  rw [nmL_app, nmL_app (U := tb 33 ++ _), otL_0, otL_0 (U := ouL _ (tb 30 ++ [])), ouL_0, ouL_0 (U := tb 30 ++ [])]
  simp only [List.append_assoc, List.append_nil]
theorem cF_e {f g : Nat → Nat} : ∀ r k, cA f g k ++ cF f g k r U = cA f g (k + r) ++ U
  | 0, k => rfl
  | r + 1, k => by
    show cA f g k ++ cLn k (f k) (g k) (cF f g (k + 1) r U) = _
    rw [cLn_U, ← List.append_assoc]
    show cA f g (k + 1) ++ cF f g (k + 1) r U = _
    rw [cF_e r (k + 1), show k + 1 + r = k + (r + 1) by omega]
theorem dF_e {f g : Nat → Nat} : ∀ r k, dA f g k ++ dF f g k r U = dA f g (k + r) ++ U
  | 0, k => rfl
  | r + 1, k => by
    show dA f g k ++ dLn k (f k) (g k) (dF f g (k + 1) r U) = _
    rw [dLn_U, ← List.append_assoc]
    show dA f g (k + 1) ++ dF f g (k + 1) r U = _
    rw [dF_e r (k + 1), show k + 1 + r = k + (r + 1) by omega]
theorem mF_e {X : XT} {n : Nat} : ∀ r k, bAm X n k ++ mF X n k r U = bAm X n (k + r) ++ U
  | 0, k => rfl
  | r + 1, k => by
    show bAm X n k ++ mLX X n k (mF X n (k + 1) r U) = _
    rw [mLX_U, ← List.append_assoc]
    show bAm X n (k + 1) ++ mF X n (k + 1) r U = _
    rw [mF_e r (k + 1), show k + 1 + r = k + (r + 1) by omega]
theorem nb_cF {f g : Nat → Nat} {k r : Nat} (n : nb U) : nb (cF f g k r U) := by
  cases r with
  | zero => exact n
  | succ r => exact nb_tb (by decide) (by decide)
theorem nb_dF {f g : Nat → Nat} {k r : Nat} (n : nb U) : nb (dF f g k r U) := by
  cases r with
  | zero => exact n
  | succ r => exact nb_tb (by decide) (by decide)
theorem nb_mF {X : XT} {m k r : Nat} (n : nb U) : nb (mF X m k r U) := by
  cases r with
  | zero => exact n
  | succ r => exact nb_tb (by decide) (by decide)
theorem rd_1 {f s' : Nat} {τ' : CT} (h : tK V L s ≠ 0) (e : exL V L 59 (liX V L s τ) = .inr (s', τ')) : rdL V L (f + 1) (.inr (s, τ)) = rdL V L f (.inr (s', τ')) := by
  show (if tK V L s = 0 then .inr (s, τ) else rdL V L f (exL V L 59 (liX V L s τ))) = _
  rw [if_neg h, e]
/-- the crafts so far -/
def PC (τ : CT) (f g : Nat → Nat) (k : Nat) : Prop := τ 0 0 = k ∧ (∀ j, j ≠ 0 → τ 0 j = 0) ∧ ∀ c, c < k → τ 1 c = f c ∧ τ 2 c = g c ∧ τ 11 c = 1 + c
theorem pp_crafts {f g : Nat → Nat} (hf : ∀ k, f k ≤ 7) (hg : ∀ k, g k ≤ 99) (n : nb U) : ∀ (r k s : Nat) (τ : CT) (F : Nat), k + r ≤ 3 → PC τ f g k → St V L s (cF f g k r U) → ∃ s' τ', rdL V L (F + r) (.inr (s, τ)) = rdL V L F (.inr (s', τ')) ∧ PC τ' f g (k + r) ∧ St V L s' U
  | 0, k, s, τ, F, _, P, H => ⟨s, τ, rfl, P, H⟩
  | r + 1, k, s, τ, F, hk, P, H => by
    obtain ⟨p0, p1, p2⟩ := P
    obtain ⟨h0, s1, e1, H1⟩ := p_craft (τ := τ) H (nb_cF n) (by omega) (hf k) (hg k) p0 (fun i hi => (p2 i hi).2.2)
    have P' : PC (upC τ (1 + k) (f k) (g k)) f g (k + 1) := by
      refine ⟨?_, fun j hj => ?_, fun c hc => ?_⟩
      · show τ 0 0 + 1 = k + 1
        rw [p0]
      · show (if j = 0 then τ 0 0 + 1 else τ 0 j) = 0
        rw [if_neg hj, p1 j hj]
      · show (if c = τ 0 0 then f k else τ 1 c) = f c ∧ (if c = τ 0 0 then g k else τ 2 c) = g c ∧ (if c = τ 0 0 then 1 + k else τ 11 c) = 1 + c
        rw [p0]
        by_cases e : c = k
        · rw [if_pos e, if_pos e, if_pos e, e]
          exact ⟨rfl, rfl, rfl⟩
        · rw [if_neg e, if_neg e, if_neg e]
          exact p2 c (by omega)
    obtain ⟨s', τ', e2, P2, H2⟩ := pp_crafts hf hg n r (k + 1) s1 _ F (by omega) P' H1
    refine ⟨s', τ', ?_, by rw [show k + (r + 1) = k + 1 + r by omega]; exact P2, H2⟩
    rw [show F + (r + 1) = (F + r) + 1 by omega, rd_1 h0 e1]
    exact e2
/-- the men so far -/
def PM (X : XT) (τ : CT) (f g : Nat → Nat) (n m : Nat) : Prop := (τ 0 0 = n ∧ τ 0 1 = m ∧ τ 0 6 = ouN X m ∧ ∀ j, j ≠ 0 → j ≠ 1 → j ≠ 6 → τ 0 j = 0) ∧ (∀ c, c < n → τ 1 c = f c ∧ τ 2 c = g c ∧ τ 11 c = 1 + c) ∧ ∀ c, c < m → τ 3 c = skS (mW X c) n n ∧ τ 4 c = mLv (mW X c) ∧ τ 5 c = mDe (mW X c) ∧ τ 6 c = (if mHo (mW X c) = true then mOt (mW X c) else 0) ∧ τ 12 c = 1 + c
theorem pp_men {X : XT} {f g : Nat → Nat} {n : Nat} (hn : n ≤ 3) (hn0 : 0 < n) (nn : nb U) : ∀ (r k s : Nat) (τ : CT) (F : Nat), k + r ≤ 5 → PM X τ f g n k → St V L s (mF X n k r U) → ∃ s' τ', rdL V L (F + r) (.inr (s, τ)) = rdL V L F (.inr (s', τ')) ∧ PM X τ' f g n (k + r) ∧ St V L s' U
  | 0, k, s, τ, F, _, P, H => ⟨s, τ, rfl, P, H⟩
  | r + 1, k, s, τ, F, hk, P, H => by
    obtain ⟨⟨p0, p1, p6, pz⟩, pc, pm⟩ := P
    have v1 : mLv (mW X k) ≤ 7 := (mk_e 7 _ (by decide)).2
    have v2 : mDe (mW X k) ≤ 15 := (mk_e 15 _ (by decide)).2
    have v3 : mOt (mW X k) ≤ 3 := (mk_e 3 _ (by decide)).2
    obtain ⟨h0, s1, e1, H1⟩ := p_man (τ := τ) (k := k) (sk := skS (mW X k) n n) (lv := mLv (mW X k)) (de := mDe (mW X k)) (ot := mOt (mW X k)) (ho := mHo (mW X k)) (hu := mHu (mW X k)) H (nb_mF nn) (by omega) (by omega) (by omega) (by omega) p1 (fun i hi => (pm i hi).2.2.2.2) (by omega) (by rw [p0]; exact fun i hi => (pc i hi).2.2) (skS_pos hn0) (by rw [p0]; exact skS_lt n)
    have P' : PM X (upM τ (1 + k) (skS (mW X k) n n) (mLv (mW X k)) (mDe (mW X k)) (if mHo (mW X k) = true then mOt (mW X k) else 0) (if mHu (mW X k) = true then 1 else 0)) f g n (k + 1) := by
      refine ⟨⟨p0, ?_, ?_, fun j h1 h2 h3 => ?_⟩, pc, fun c hc => ?_⟩
      · show τ 0 1 + 1 = k + 1
        rw [p1]
      · show (if (if mHu (mW X k) = true then 1 else 0) = 1 then τ 0 6 ||| 2 ^ τ 0 1 else τ 0 6) = if mHu (mW X k) = true then ouN X k ||| 2 ^ k else ouN X k
        rw [p6, p1]
        cases mHu (mW X k) <;> rfl
      · show (if j = 1 then τ 0 1 + 1 else if j = 6 then _ else τ 0 j) = 0
        rw [if_neg h2, if_neg h3, pz j h1 h2 h3]
      · show (if c = τ 0 1 then _ else τ 3 c) = _ ∧ (if c = τ 0 1 then _ else τ 4 c) = _ ∧ (if c = τ 0 1 then _ else τ 5 c) = _ ∧ (if c = τ 0 1 then _ else τ 6 c) = _ ∧ (if c = τ 0 1 then _ else τ 12 c) = _
        rw [p1]
        by_cases e : c = k
        · rw [if_pos e, if_pos e, if_pos e, if_pos e, if_pos e, e]
          exact ⟨rfl, rfl, rfl, rfl, rfl⟩
        · rw [if_neg e, if_neg e, if_neg e, if_neg e, if_neg e]
          exact pm c (by omega)
    obtain ⟨s', τ', e2, P2, H2⟩ := pp_men hn hn0 nn r (k + 1) s1 _ F (by omega) P' H1
    refine ⟨s', τ', ?_, by rw [show k + (r + 1) = k + 1 + r by omega]; exact P2, H2⟩
    rw [show F + (r + 1) = (F + r) + 1 by omega, rd_1 h0 e1]
    exact e2
/-- the demands so far -/
def PD (X : XT) (τ : CT) (f g p q : Nat → Nat) (n m k : Nat) : Prop := (τ 0 0 = n ∧ τ 0 1 = m ∧ τ 0 2 = k ∧ τ 0 6 = ouN X m ∧ ∀ j, j ≠ 0 → j ≠ 1 → j ≠ 2 → j ≠ 6 → τ 0 j = 0) ∧ (∀ c, c < n → τ 1 c = f c ∧ τ 2 c = g c) ∧ (∀ c, c < m → τ 3 c = skS (mW X c) n n ∧ τ 4 c = mLv (mW X c) ∧ τ 5 c = mDe (mW X c) ∧ τ 6 c = (if mHo (mW X c) = true then mOt (mW X c) else 0)) ∧ ∀ c, c < k → τ 7 c = p c ∧ τ 8 c = q c ∧ τ 13 c = 1 + c
theorem pp_dems {X : XT} {f g p q : Nat → Nat} {n m : Nat} (hp : ∀ k, p k ≤ 999) (hq : ∀ k, q k ≤ 99) (nn : nb U) : ∀ (r k s : Nat) (τ : CT) (F : Nat), k + r ≤ 3 → PD X τ f g p q n m k → St V L s (dF p q k r U) → ∃ s' τ', rdL V L (F + r) (.inr (s, τ)) = rdL V L F (.inr (s', τ')) ∧ PD X τ' f g p q n m (k + r) ∧ St V L s' U
  | 0, k, s, τ, F, _, P, H => ⟨s, τ, rfl, P, H⟩
  | r + 1, k, s, τ, F, hk, P, H => by
    obtain ⟨⟨p0, p1, p2, p6, pz⟩, pc, pm, pd⟩ := P
    obtain ⟨h0, s1, e1, H1⟩ := p_demand (τ := τ) H (nb_dF nn) (by omega) (hp k) (hq k) p2 (fun i hi => (pd i hi).2.2)
    have P' : PD X (upD τ (1 + k) (p k) (q k)) f g p q n m (k + 1) := by
      refine ⟨⟨p0, p1, ?_, p6, fun j h1 h2 h3 h4 => ?_⟩, pc, pm, fun c hc => ?_⟩
      · show τ 0 2 + 1 = k + 1
        rw [p2]
      · show (if j = 2 then τ 0 2 + 1 else τ 0 j) = 0
        rw [if_neg h3, pz j h1 h2 h3 h4]
      · show (if c = τ 0 2 then p k else τ 7 c) = p c ∧ (if c = τ 0 2 then q k else τ 8 c) = q c ∧ (if c = τ 0 2 then 1 + k else τ 13 c) = 1 + c
        rw [p2]
        by_cases e : c = k
        · rw [if_pos e, if_pos e, if_pos e, e]
          exact ⟨rfl, rfl, rfl⟩
        · rw [if_neg e, if_neg e, if_neg e]
          exact pd c (by omega)
    obtain ⟨s', τ', e2, P2, H2⟩ := pp_dems hp hq nn r (k + 1) s1 _ F (by omega) P' H1
    refine ⟨s', τ', ?_, by rw [show k + (r + 1) = k + 1 + r by omega]; exact P2, H2⟩
    rw [show F + (r + 1) = (F + r) + 1 by omega, rd_1 h0 e1]
    exact e2
end PARSE
