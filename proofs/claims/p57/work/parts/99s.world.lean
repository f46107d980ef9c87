/-! WHERE THE LAW STANDS: the class in a state, a box filled, an act to be undone, the law's own rows -/
def WC (h : HT) (τ : CT) (A : Nat → Int32) (j : Nat) (A0 : Nat → Int32) (Z : Option (Nat → Int32)) : Prop := ∃ (bh ah : Nat) (W : Nat → Nat → Int32) (F : Nat → Bool) (B S : Nat → Nat → Int32) (L : Nat) (V : Nat → Nat) (x y : Int32), CI h (τ, A, bh, ah, W, F, B, 0, 0, S, L, V, x, y) ∧ OKs (τ, A, bh, ah, W, F, B, 0, 0, S, L, V, x, y) ∧ (j < 3 → F j = true ∧ ∀ k, k < 20 → B j k = A0 k) ∧ ∀ A', Z = some A' → ∃ p, bh = p + 1 ∧ ∀ k, k < 20 → W p k = A' k
def WW (h : HT) (τ : CT) (b : Nat) (C A : Nat → Int32) (j : Nat) (A0 : Nat → Int32) (Z : Option (Nat → Int32)) : Prop := WC h τ A j A0 Z ∧ TR h τ b ∧ m_gI h 196 = C
theorem CI_cg {h : HT} {τ : CT} {A A' : Nat → Int32} {bh ah : Nat} {W : Nat → Nat → Int32} {F : Nat → Bool} {B : Nat → Nat → Int32} {n t : Nat} {S : Nat → Nat → Int32} {L : Nat} {V : Nat → Nat} {x y : Int32} (e : ∀ k, k < 20 → A' k = A k) (C : CI h (τ, A, bh, ah, W, F, B, n, t, S, L, V, x, y)) : CI h (τ, A', bh, ah, W, F, B, n, t, S, L, V, x, y) := by
  obtain ⟨⟨T, H, H1'⟩, ⟨o, HA⟩, H3, H4, H5, H6⟩ := C
  have hk := cq_k H
  exact ⟨⟨T, ⟨H.1, H.2.1, H.2.2.1, Rep_cg hk e (cq_r H), aOk_cg hk e (cq_a H)⟩, H1'⟩, ⟨o, HA.1, HA.2.1, HA.2.2.1, HA.2.2.2.1, fun z => Rep_cg hk e (HA.2.2.2.2 z)⟩, H3, H4, H5, H6⟩
theorem ww_A {h : HT} {τ : CT} {b : Nat} {C A A' : Nat → Int32} {j : Nat} {A0 : Nat → Int32} {Z : Option (Nat → Int32)} (e : ∀ k, k < 20 → A' k = A k) (W : WW h τ b C A j A0 Z) : WW h τ b C A' j A0 Z := by
  obtain ⟨⟨bh, ah, w, F, B, S, L, V, x, y, c, o, f, u⟩, T, r⟩ := W
  exact ⟨⟨bh, ah, w, F, B, S, L, V, x, y, CI_cg e c, o, f, u⟩, T, r⟩
section WORLD
variable {X : XT} {d : Nat} {h : HT} {τ : CT} {b : Nat} {C A : Nat → Int32} {j : Nat} {A0 : Nat → Int32} {Z : Option (Nat → Int32)}
theorem ww_T (W : WW h τ b C A j A0 Z) : TR h τ b := W.2.1
theorem ww_C (W : WW h τ b C A j A0 Z) : m_gI h 196 = C := W.2.2
theorem ww_q (W : WW h τ b C A j A0 Z) : ∃ T, CQ h T τ 999 A := by
  obtain ⟨⟨bh, ah, w, F, B, S, L, V, x, y, ⟨⟨T, H, _⟩, _⟩, o, f, u⟩, _⟩ := W
  exact ⟨T, H⟩
theorem ww_a (W : WW h τ b C A j A0 Z) : aOk τ 999 A := by
  obtain ⟨T, H⟩ := ww_q W
  exact cq_a H
theorem ww_same {g : HT} (s : Same h g) (W : WW h τ b C A j A0 Z) : WW g τ b C A j A0 Z := by
  obtain ⟨⟨bh, ah, w, F, B, S, L, V, x, y, c, o, f, u⟩, T, r⟩ := W
  exact ⟨⟨bh, ah, w, F, B, S, L, V, x, y, CI_same s c, o, f, u⟩, TR_eq (fun k => s.2 195 k (isJ_mid (by omega))) T, (funext fun k => s.2 196 k (isJ_mid (by omega))).trans r⟩
/-- a question: the world stays -/
theorem w_q {M : Nat} {L : LT} {v : Int32} (W : WW h τ b C A j A0 Z) (P : An X d M L h v) : ∃ g, WW g τ b C A j A0 Z ∧ ∀ Q : QT, wq X d M 0 L [] h Q = Q (some (.int v)) g := by
  obtain ⟨g, s, e⟩ := P
  exact ⟨g, ww_same s W, e⟩
theorem w_out (W : WW h τ b C A j A0 Z) : ∃ g, WW g τ b C A j A0 Z ∧ ∀ Q : QT, wq X (d + 10) 98 0 [some (.ref 1)] [] h Q = Q (some (.int (nI (aN A)))) g := by
  obtain ⟨T, H⟩ := ww_q W
  exact w_q W (a_out H)
theorem w_loss0 (W : WW h τ b C A j A0 Z) : ∃ g, WW g τ b C A j A0 Z ∧ ∀ Q : QT, wq X (d + 10) 99 0 [some (.ref 1), some (.int 0)] [] h Q = Q (some (.int (nI (sLoss τ (aN A))))) g := by
  obtain ⟨T, H⟩ := ww_q W
  exact w_q W (a_loss0 H rfl)
theorem w_loss1 (W : WW h τ b C A j A0 Z) : ∃ g, WW g τ b C A j A0 Z ∧ ∀ Q : QT, wq X (d + 10) 99 0 [some (.ref 1), some (.int 1)] [] h Q = Q (some (.int (nI (sLoss τ (sAll τ))))) g := by
  obtain ⟨T, H⟩ := ww_q W
  exact w_q W (a_loss1 H rfl)
theorem w_ab (W : WW h τ b C A j A0 Z) {w v : Int32} (P : ∀ (bh ah : Nat) (w' : Nat → Nat → Int32) (F : Nat → Bool) (B S : Nat → Nat → Int32) (L : Nat) (V : Nat → Nat) (x y : Int32), CI h (τ, A, bh, ah, w', F, B, 0, 0, S, L, V, x, y) → OKs (τ, A, bh, ah, w', F, B, 0, 0, S, L, V, x, y) → An X (d + 10) 115 [some (.ref 1), some (.int w)] h v) : ∃ g, WW g τ b C A j A0 Z ∧ ∀ Q : QT, wq X (d + 10) 115 0 [some (.ref 1), some (.int w)] [] h Q = Q (some (.int v)) g := by
  have W0 := W
  obtain ⟨⟨bh, ah, w', F, B, S, L, V, x, y, c, o, f, u⟩, T, r⟩ := W
  exact w_q W0 (P _ _ _ _ _ _ _ _ _ _ c o)
theorem w_about3 (W : WW h τ b C A j A0 Z) : ∃ g, WW g τ b C A j A0 Z ∧ ∀ Q : QT, wq X (d + 10) 115 0 [some (.ref 1), some (.int 3)] [] h Q = Q (some (.int (A 18))) g := w_ab W (fun _ _ _ _ _ _ _ _ _ _ c o => a_about3 c o rfl)
theorem w_about4 (W : WW h τ b C A j A0 Z) : ∃ g, WW g τ b C A j A0 Z ∧ ∀ Q : QT, wq X (d + 10) 115 0 [some (.ref 1), some (.int 4)] [] h Q = Q (some (.int (A 19))) g := w_ab W (fun _ _ _ _ _ _ _ _ _ _ c o => a_about4 c o rfl)
theorem w_about5 (W : WW h τ b C A j A0 Z) : ∃ g, WW g τ b C A j A0 Z ∧ ∀ Q : QT, wq X (d + 10) 115 0 [some (.ref 1), some (.int 5)] [] h Q = Q (some (.int (A 16))) g := w_ab W (fun _ _ _ _ _ _ _ _ _ _ c o => a_about5 c o rfl)
theorem w_about6 (W : WW h τ b C A j A0 Z) : ∃ g, WW g τ b C A j A0 Z ∧ ∀ Q : QT, wq X (d + 10) 115 0 [some (.ref 1), some (.int 6)] [] h Q = Q (some (.int (A 17))) g := w_ab W (fun _ _ _ _ _ _ _ _ _ _ c o => a_about6 c o rfl)
theorem w_about7 (W : WW h τ b C A j A0 Z) : ∃ g, WW g τ b C A j A0 Z ∧ ∀ Q : QT, wq X (d + 10) 115 0 [some (.ref 1), some (.int 7)] [] h Q = Q (some (.int (nI (sShort τ (aN A))))) g := w_ab W (fun _ _ _ _ _ _ _ _ _ _ c o => a_about7 c o rfl)
theorem w_man {m : Nat} {w v : Int32} (W : WW h τ b C A j A0 Z) (P : ∀ T, CQ h T τ 999 A → An X (d + 10) 81 [some (.ref 1), some (.int (nI m)), some (.int w), none] h v) : ∃ g, WW g τ b C A j A0 Z ∧ ∀ Q : QT, wq X (d + 10) 81 0 [some (.ref 1), some (.int (nI m)), some (.int w), none] [] h Q = Q (some (.int v)) g := by
  obtain ⟨T, H⟩ := ww_q W
  exact w_q W (P T H)
theorem w_ask {M : Nat} {L : LT} {v : Int32} (W : WW h τ b C A j A0 Z) (P : ∀ T, CQ h T τ 999 A → An X d M L h v) : ∃ g, WW g τ b C A j A0 Z ∧ ∀ Q : QT, wq X d M 0 L [] h Q = Q (some (.int v)) g := by
  obtain ⟨T, H⟩ := ww_q W
  exact w_q W (P T H)
/-- an act, as WC has it -/
theorem ww_act {g : HT} {A' : Nat → Int32} {j' : Nat} {A0' : Nat → Int32} {ZU : Option (Nat → Int32)} (W : WW h τ b C A j A0 Z) (i : Hi h g) (P : WC g τ A' j' A0' ZU) : WW g τ b C A' j' A0' ZU :=
  ⟨P, TR_eq (fun k => i.2 195 k (by omega)) W.2.1, (funext fun k => i.2 196 k (by omega)).trans W.2.2⟩
theorem kp_w {W : Nat → Nat → Int32} {A : Nat → Int32} {bh : Nat} : ∃ p, kpB bh = p + 1 ∧ ∀ k, k < 20 → kpW W A bh p k = A k := by
  unfold kpB kpW
  by_cases z : bh = 40
  · rw [if_pos z, if_pos z]
    exact ⟨39, rfl, fun k _ => rfl⟩
  · rw [if_neg z, if_neg z]
    refine ⟨bh, rfl, fun k _ => ?_⟩
    show (if bh = bh then A else W bh) k = A k
    rw [if_pos rfl]
/-- whatever is done as an act can be undone -/
theorem w_act {M : Nat} {L : LT} {v : Int32} {A' : Nat → Int32} (W : WW h τ b C A j A0 Z) (P : ∀ (bh ah : Nat) (w : Nat → Nat → Int32) (F : Nat → Bool) (B S : Nat → Nat → Int32) (L' : Nat) (V : Nat → Nat) (x y : Int32), CI h (τ, A, bh, ah, w, F, B, 0, 0, S, L', V, x, y) → OKs (τ, A, bh, ah, w, F, B, 0, 0, S, L', V, x, y) → Ac X d M L h v (τ, A', kpB bh, 0, kpW w A bh, F, B, 0, 0, S, L', V, x, y)) : ∃ g, WW g τ b C A' j A0 (some A) ∧ ∀ Q : QT, wq X d M 0 L [] h Q = Q (some (.int v)) g := by
  have W0 := W
  obtain ⟨⟨bh, ah, w', F, B, S, L', V, x, y, c, o, f, u⟩, T, r⟩ := W
  obtain ⟨o', g, i, c', e⟩ := P _ _ _ _ _ _ _ _ _ _ c o
  refine ⟨g, ww_act W0 i ⟨_, _, _, _, _, _, _, _, _, _, c', o', f, fun A1 hA1 => ?_⟩, e⟩
  cases hA1
  exact kp_w
theorem w_leave {m : Nat} (W : WW h τ b C A j A0 Z) (hm : m < τ 0 1) (z : ¬ (aN A).testBit m = true) : ∃ g, WW g τ b C (plA A (2 ^ m)) j A0 (some A) ∧ ∀ Q : QT, wq X (d + 10) 116 0 [some (.ref 1), some (.int (nI m))] [] h Q = Q (some (.int (nI (pcN (aN A ||| 2 ^ m))))) g := w_act W (fun _ _ _ _ _ _ _ _ _ _ c o => a_leave c o hm z)
theorem w_home {m : Nat} (W : WW h τ b C A j A0 Z) (hm : m < τ 0 1) (z : (aN A).testBit m = true) : ∃ g, WW g τ b C (aHome τ A (aN A) (2 ^ m)) j A0 (some A) ∧ ∀ Q : QT, wq X (d + 10) 120 0 [some (.ref 1), some (.int (nI m)), none] [] h Q = Q (some (.int (A (7 + m)))) g := w_act W (fun _ _ _ _ _ _ _ _ _ _ c o => a_home c o hm z)
theorem w_give {m : Nat} {v : Int32} (W : WW h τ b C A j A0 Z) (hm : m < τ 0 1) (v1 : ¬ v < 1) (v2 : ¬ 99 < v) : ∃ g, WW g τ b C (upL A m v) j A0 (some A) ∧ ∀ Q : QT, wq X (d + 10) 121 0 [some (.ref 1), some (.int (nI m)), some (.int v)] [] h Q = Q (some (.int (upL A m v m))) g := w_act W (fun _ _ _ _ _ _ _ _ _ _ c o => a_give c o hm v1 v2)
theorem w_grant {m g : Nat} (W : WW h τ b C A j A0 Z) (hm : m < τ 0 2) (hg : g < 2 ^ τ 0 2) (eg : A 15 = nI g) (z : ¬ g.testBit m = true) : ∃ g', WW g' τ b C (grA τ A g m) j A0 (some A) ∧ ∀ Q : QT, wq X (d + 10) 123 0 [some (.ref 1), some (.int (nI m))] [] h Q = Q (some (.int (A 16 + nI (τ 7 m)))) g' := w_act W (fun _ _ _ _ _ _ _ _ _ _ c o => a_grant c o hm hg eg z)
theorem w_day {y : Nat} (W : WW h τ b C A j A0 Z) (y1 : y < 999) (y2 : A 18 = nI y) : ∃ g, WW g τ b C (aD τ A) j A0 (some A) ∧ ∀ Q : QT, wq X (d + 10) 124 0 [some (.ref 1)] [] h Q = Q (some (.int (nI (aC τ A)))) g := w_act W (fun _ _ _ _ _ _ _ _ _ _ c o => a_day c o y1 y2)
theorem w_undo {A' : Nat → Int32} (W : WW h τ b C A j A0 (some A')) : ∃ g, WW g τ b C A' j A0 none ∧ ∀ Q : QT, wq X (d + 10) 125 0 [some (.ref 1)] [] h Q = Q (some (.int 1)) g := by
  have W0 := W
  obtain ⟨⟨bh, ah, w', F, B, S, L', V, x, y, c, o, f, u⟩, T, r⟩ := W
  obtain ⟨p, rfl, hp⟩ := u A' rfl
  obtain ⟨o', g, i, c', e⟩ := a_undo (X := X) (d := d) c o
  refine ⟨g, ww_act W0 i ⟨_, _, _, _, _, _, _, _, _, _, CI_cg (fun k hk => ?_) c', ?_, f, fun A1 hA1 => nomatch hA1⟩, e⟩
  · show A' k = if k < 20 then w' p k else A k
    rw [if_pos hk, hp k hk]
  · exact o'
theorem w_image {i : Nat} (W : WW h τ b C A j A0 Z) (hi : i < 3) : ∃ g, WW g τ b C A i A Z ∧ ∀ Q : QT, wq X (d + 10) 184 0 [some (.ref 1), some (.int (nI i))] [] h Q = Q (some (.int (A 18))) g := by
  have W0 := W
  obtain ⟨⟨bh, ah, w', F, B, S, L', V, x, y, c, o, f, u⟩, T, r⟩ := W
  obtain ⟨o', g, ih, c', e⟩ := a_image (X := X) (d := d) c o hi
  exact ⟨g, ww_act W0 ih ⟨_, _, _, _, _, _, _, _, _, _, c', o', fun _ => ⟨if_pos rfl, fun k _ => by
    show (if i = i then A else B i) k = A k
    rw [if_pos rfl]⟩, u⟩, e⟩
theorem w_back (W : WW h τ b C A j A0 Z) (hj : j < 3) : ∃ g, WW g τ b C A0 j A0 none ∧ ∀ Q : QT, wq X (d + 10) 185 0 [some (.ref 1), some (.int (nI j))] [] h Q = Q (some (.int (A0 18))) g := by
  have W0 := W
  obtain ⟨⟨bh, ah, w', F, B, S, L', V, x, y, c, o, f, u⟩, T, r⟩ := W
  obtain ⟨f1, f2⟩ := f hj
  obtain ⟨o', g, ih, c', e⟩ := a_back (X := X) (d := d) c o hj f1
  have e18 : cpL A (B j) 20 18 = A0 18 := (if_pos (by decide)).trans (f2 18 (by decide))
  rw [e18] at e
  refine ⟨g, ww_act W0 ih ⟨_, _, _, _, _, _, _, _, _, _, CI_cg (fun k hk => ?_) c', o', fun _ => ⟨f1, f2⟩, fun A1 hA1 => nomatch hA1⟩, e⟩
  show A0 k = if k < 20 then B j k else A k
  rw [if_pos hk, f2 k hk]
end WORLD
