/-! THE SMALL MACHINE AS RULES: what a method does from a state, with all cells made -/
def KS0 : KT := [(0, 11), (8, 7), (20, 1600), (5, 10), (9, 19), (20, 4), (20, 4), (20, 4), (20, 7), (20, 7), (20, 7), (20, 7), (20, 5), (20, 5), (2, 5), (20, 1600), (20, 30), (20, 128), (20, 16), (21, 4), (21, 7), (21, 5), (9, 19), (20, 4), (20, 4), (20, 4), (20, 7), (20, 7), (20, 7), (20, 7), (20, 5), (20, 5), (2, 5), (20, 1600), (20, 30), (20, 128), (20, 16), (7, 8), (20, 7), (20, 7), (7, 8), (20, 7), (20, 7), (1, 4), (24, 41), (7, 8), (20, 7), (20, 7), (7, 8), (20, 7), (20, 7), (7, 8), (20, 7), (20, 7), (7, 8), (20, 7), (20, 7), (7, 8), (20, 7), (20, 7), (7, 8), (20, 7), (20, 7), (7, 8), (20, 7), (20, 7), (7, 8), (20, 7), (20, 7), (7, 8), (20, 7), (20, 7), (7, 8), (20, 7), (20, 7), (7, 8), (20, 7), (20, 7), (7, 8), (20, 7), (20, 7), (7, 8), (20, 7), (20, 7), (7, 8), (20, 7), (20, 7), (7, 8), (20, 7), (20, 7), (7, 8), (20, 7), (20, 7), (7, 8), (20, 7), (20, 7), (7, 8), (20, 7), (20, 7), (7, 8), (20, 7), (20, 7), (7, 8), (20, 7), (20, 7), (7, 8), (20, 7), (20, 7), (7, 8), (20, 7), (20, 7), (7, 8), (20, 7), (20, 7), (7, 8), (20, 7), (20, 7), (7, 8), (20, 7), (20, 7), (7, 8), (20, 7), (20, 7), (7, 8), (20, 7), (20, 7), (7, 8), (20, 7), (20, 7), (7, 8), (20, 7), (20, 7), (7, 8), (20, 7), (20, 7), (7, 8), (20, 7), (20, 7), (7, 8), (20, 7), (20, 7), (7, 8), (20, 7), (20, 7), (7, 8), (20, 7), (20, 7), (7, 8), (20, 7), (20, 7), (7, 8), (20, 7), (20, 7), (7, 8), (20, 7), (20, 7), (7, 8), (20, 7), (20, 7), (7, 8), (20, 7), (20, 7), (7, 8), (20, 7), (20, 7), (7, 8), (20, 7), (20, 7), (24, 3), (22, 3), (3, 4), (7, 8), (20, 7), (20, 7), (20, 61), (20, 61), (20, 61), (4, 4), (6, 9), (20, 30), (20, 30), (22, 30), (20, 30), (20, 30), (20, 7), (7, 8), (20, 7), (20, 7), (7, 8), (20, 7), (20, 7), (7, 8), (20, 7), (20, 7), (20, 70)]
/-- the cells that are made: behind the law's second row of numbers one more (a mark beside the script says so) -/
def KS (X : XT) : KT := if X.2 100000 = 0 then KS0 else KS0 ++ [(20, 21)]
abbrev QT : Type := Option Value → HT → Prop
/-- from here the method comes to its end, and Q holds of its answer and the heap then -/
def wq (X : XT) (d M pc : Nat) (ls : LT) (st : List Value) (h : HT) (Q : QT) : Prop := ∃ (f : Nat) (v : Option Value) (h' : HT), m_run X f d M pc ls st (KS X) h = some (v, (KS X), h') ∧ Q v h'
theorem m_mono {X : XT} : ∀ (f d M pc : Nat) (ls : LT) (st : List Value) (K : KT) (h : HT) (r : Option Value × KT × HT), m_run X f d M pc ls st K h = some r → m_run X (f + 1) d M pc ls st K h = some r := by
  intro f
  induction f with
  | zero => intro d M pc ls st K h r e; cases e
  | succ f ih =>
    intro d M pc ls st K h r e
    rw [m_run] at e ⊢
    split at e
    · cases e
    · rename_i i n hd
      split at e
      · cases e
      · exact ih _ _ _ _ _ _ _ _ e
      · exact e
      · split at e
        · cases e
        · split at e
          · cases e
          · rename_i r1 hr1
            rw [ih _ _ _ _ _ _ _ _ hr1]
            exact ih _ _ _ _ _ _ _ _ e
theorem m_monoK {X : XT} (k : Nat) {f d M pc : Nat} {ls : LT} {st : List Value} {K : KT} {h : HT} {r : Option Value × KT × HT} (e : m_run X f d M pc ls st K h = some r) : m_run X (f + k) d M pc ls st K h = some r := by
  induction k with
  | zero => exact e
  | succ k ih => exact m_mono _ _ _ _ _ _ _ _ _ ih
theorem m_det {X : XT} {f f' d M pc : Nat} {ls : LT} {st : List Value} {K : KT} {h : HT} {r r' : Option Value × KT × HT} (e : m_run X f d M pc ls st K h = some r) (e' : m_run X f' d M pc ls st K h = some r') : r = r' := by
  have h1 := m_monoK f' e
  have h2 := m_monoK f e'
  rw [Nat.add_comm f' f, h1] at h2
  exact Option.some.inj h2
theorem KS_len {X : XT} : (KS X).length ≤ 196 := by
  unfold KS
  split
  · exact Nat.le_of_ble_eq_true (by decide +kernel)
  · exact Nat.le_of_ble_eq_true (by decide +kernel)
def q_nb (ty : FieldType) (x : Int32) : Bool := decide (narrow ty (.int x) = .int x)
def q_zv (x : Int32) : Bool := decide (x = 0 ∨ x = 1)
def m_dec (M : Nat) (l : List (Nat × Instr × Nat)) : Bool := l.all fun q => decide (decode (m_bts M) q.1 = .ok q.2)
theorem q_dec {M pc n : Nat} {i : Instr} {l : List (Nat × Instr × Nat)} (h : m_dec M l = true) (k : Nat) (hk : l[k]? = some (pc, i, n)) : decode (m_bts M) pc = .ok (i, n) :=
  of_decide_eq_true (List.all_eq_true.mp h (pc, i, n) (List.mem_of_getElem? hk))
section WQ
variable {X : XT} {d M pc n : Nat} {i : Instr} {ls : LT} {st : List Value} {h : HT} {Q : QT}
theorem q_next {pc' : Nat} {ls' : LT} {st' : List Value} {h' : HT} (hd : decode (m_bts M) pc = .ok (i, n)) (ha : m_act X M pc i n ls st (KS X) h = some (.inl (pc', ls', st', (KS X), h'))) : wq X d M pc ls st h Q = wq X d M pc' ls' st' h' Q := by
  refine propext ⟨fun ⟨f, v, g, e, q⟩ => ?_, fun ⟨f, v, g, e, q⟩ => ⟨f + 1, v, g, ?_, q⟩⟩
  · cases f with
    | zero => cases e
    | succ f =>
      rw [m_run, hd] at e
      dsimp only at e
      rw [ha] at e
      exact ⟨f, v, g, e, q⟩
  · rw [m_run, hd]
    dsimp only
    rw [ha]
    exact e
theorem q_ret {v : Option Value} (hd : decode (m_bts M) pc = .ok (i, n)) (ha : m_act X M pc i n ls st (KS X) h = some (.inr (.inr v))) : wq X d M pc ls st h Q = Q v h := by
  refine propext ⟨fun ⟨f, v', g, e, q⟩ => ?_, fun q => ⟨1, v, h, ?_, q⟩⟩
  · cases f with
    | zero => cases e
    | succ f =>
      rw [m_run, hd] at e
      dsimp only at e
      rw [ha] at e
      cases e
      exact q
  · rw [m_run, hd]
    dsimp only
    rw [ha]
theorem q_pre {K' : KT} (h1 : (KS X) <+: K') (h2 : K' <+: (KS X)) : K' = (KS X) := (h1.eq_of_length (Nat.le_antisymm h1.length_le h2.length_le)).symm
theorem q_call {y : Nat} {As rest : List Value} (hd : decode (m_bts M) pc = .ok (i, n)) (ha : m_act X M pc i n ls st (KS X) h = some (.inr (.inl (y, As, rest)))) :
    wq X (d + 1) M pc ls st h Q = wq X d y 0 (m_ent (m_ml y) As) [] h (fun v h' => wq X (d + 1) M (pc + 3) ls (v.toList ++ rest) h' Q) := by
  refine propext ⟨fun ⟨f, v, g, e, q⟩ => ?_, fun ⟨f, v, g, e, f2, v2, g2, e2, q⟩ => ⟨f + f2 + 1, v2, g2, ?_, q⟩⟩
  · cases f with
    | zero => cases e
    | succ f =>
      rw [m_run, hd] at e
      dsimp only at e
      rw [ha] at e
      dsimp only at e
      split at e
      · cases e
      · rename_i r hr
        obtain ⟨v1, K1, h1⟩ := r
        have p1 := g_run _ _ _ _ _ _ _ _ _ _ _ hr
        have p2 := g_run _ _ _ _ _ _ _ _ _ _ _ e
        have e9 : K1 = (KS X) := q_pre p1 p2
        subst e9
        exact ⟨f, v1, h1, hr, f, v, g, e, q⟩
  · rw [m_run, hd]
    dsimp only
    rw [ha]
    dsimp only
    rw [m_monoK f2 e]
    dsimp only
    rw [Nat.add_comm f f2]
    exact m_monoK f e2
theorem q_iadd {a b : Int32} (hd : decode (m_bts M) pc = .ok (.iadd, 1)) : wq X d M pc ls (.int b :: .int a :: st) h Q = wq X d M (pc + 1) ls (.int (a + b) :: st) h Q := q_next hd rfl
theorem q_isub {a b : Int32} (hd : decode (m_bts M) pc = .ok (.isub, 1)) : wq X d M pc ls (.int b :: .int a :: st) h Q = wq X d M (pc + 1) ls (.int (a - b) :: st) h Q := q_next hd rfl
theorem q_imul {a b : Int32} (hd : decode (m_bts M) pc = .ok (.imul, 1)) : wq X d M pc ls (.int b :: .int a :: st) h Q = wq X d M (pc + 1) ls (.int (a * b) :: st) h Q := q_next hd rfl
theorem q_iand {a b : Int32} (hd : decode (m_bts M) pc = .ok (.iand, 1)) : wq X d M pc ls (.int b :: .int a :: st) h Q = wq X d M (pc + 1) ls (.int (a &&& b) :: st) h Q := q_next hd rfl
theorem q_ior {a b : Int32} (hd : decode (m_bts M) pc = .ok (.ior, 1)) : wq X d M pc ls (.int b :: .int a :: st) h Q = wq X d M (pc + 1) ls (.int (a ||| b) :: st) h Q := q_next hd rfl
theorem q_ixor {a b : Int32} (hd : decode (m_bts M) pc = .ok (.ixor, 1)) : wq X d M pc ls (.int b :: .int a :: st) h Q = wq X d M (pc + 1) ls (.int (a ^^^ b) :: st) h Q := q_next hd rfl
theorem q_ishl {a b : Int32} (hd : decode (m_bts M) pc = .ok (.ishl, 1)) : wq X d M pc ls (.int b :: .int a :: st) h Q = wq X d M (pc + 1) ls (.int (a <<< (b &&& 31)) :: st) h Q := q_next hd rfl
theorem q_ishr {a b : Int32} (hd : decode (m_bts M) pc = .ok (.ishr, 1)) : wq X d M pc ls (.int b :: .int a :: st) h Q = wq X d M (pc + 1) ls (.int (a >>> (b &&& 31)) :: st) h Q := q_next hd rfl
theorem q_iushr {a b : Int32} (hd : decode (m_bts M) pc = .ok (.iushr, 1)) : wq X d M pc ls (.int b :: .int a :: st) h Q = wq X d M (pc + 1) ls (.int ((a.toUInt32 >>> (b.toUInt32 &&& Int32.toUInt32 31)).toInt32) :: st) h Q := q_next hd rfl
theorem q_idiv {a b : Int32} (hd : decode (m_bts M) pc = .ok (.idiv, 1)) (hb : ¬ b = 0) : wq X d M pc ls (.int b :: .int a :: st) h Q = wq X d M (pc + 1) ls (.int (a / b) :: st) h Q := q_next hd (by simp [m_act, m_ck, m_2I, m_1I, hb])
theorem q_irem {a b : Int32} (hd : decode (m_bts M) pc = .ok (.irem, 1)) (hb : ¬ b = 0) : wq X d M pc ls (.int b :: .int a :: st) h Q = wq X d M (pc + 1) ls (.int (a - a / b * b) :: st) h Q := q_next hd (by simp [m_act, m_ck, m_2I, m_1I, hb])
theorem q_ineg {a : Int32} (hd : decode (m_bts M) pc = .ok (.ineg, 1)) : wq X d M pc ls (.int a :: st) h Q = wq X d M (pc + 1) ls (.int (-a) :: st) h Q := q_next hd rfl
theorem q_ladd {a b : Int64} (hd : decode (m_bts M) pc = .ok (.ladd, 1)) : wq X d M pc ls (.long b :: .long a :: st) h Q = wq X d M (pc + 1) ls (.long (a + b) :: st) h Q := q_next hd rfl
theorem q_lsub {a b : Int64} (hd : decode (m_bts M) pc = .ok (.lsub, 1)) : wq X d M pc ls (.long b :: .long a :: st) h Q = wq X d M (pc + 1) ls (.long (a - b) :: st) h Q := q_next hd rfl
theorem q_lmul {a b : Int64} (hd : decode (m_bts M) pc = .ok (.lmul, 1)) : wq X d M pc ls (.long b :: .long a :: st) h Q = wq X d M (pc + 1) ls (.long (a * b) :: st) h Q := q_next hd rfl
theorem q_lor {a b : Int64} (hd : decode (m_bts M) pc = .ok (.lor, 1)) : wq X d M pc ls (.long b :: .long a :: st) h Q = wq X d M (pc + 1) ls (.long (a ||| b) :: st) h Q := q_next hd rfl
theorem q_lcmp {a b : Int64} (hd : decode (m_bts M) pc = .ok (.lcmp, 1)) : wq X d M pc ls (.long b :: .long a :: st) h Q = wq X d M (pc + 1) ls (.int (lg_cmp a b) :: st) h Q := q_next hd rfl
theorem q_land {a b : Int64} (hd : decode (m_bts M) pc = .ok (.land, 1)) : wq X d M pc ls (.long b :: .long a :: st) h Q = wq X d M (pc + 1) ls (.long (a &&& b) :: st) h Q := q_next hd rfl
theorem q_lushr {a : Int64} {b : Int32} (hd : decode (m_bts M) pc = .ok (.lushr, 1)) : wq X d M pc ls (.int b :: .long a :: st) h Q = wq X d M (pc + 1) ls (.long ((a.toUInt64 >>> (b.toInt64.toUInt64 &&& Int64.toUInt64 63)).toInt64) :: st) h Q := q_next hd rfl
theorem q_l2i {a : Int64} (hd : decode (m_bts M) pc = .ok (.l2i, 1)) : wq X d M pc ls (.long a :: st) h Q = wq X d M (pc + 1) ls (.int a.toInt32 :: st) h Q := q_next hd rfl
theorem q_lshl {a : Int64} {b : Int32} (hd : decode (m_bts M) pc = .ok (.lshl, 1)) : wq X d M pc ls (.int b :: .long a :: st) h Q = wq X d M (pc + 1) ls (.long (a <<< (b.toInt64 &&& 63)) :: st) h Q := q_next hd rfl
theorem q_i2l {a : Int32} (hd : decode (m_bts M) pc = .ok (.i2l, 1)) : wq X d M pc ls (.int a :: st) h Q = wq X d M (pc + 1) ls (.long a.toInt64 :: st) h Q := q_next hd rfl
theorem q_i2b {a : Int32} (hd : decode (m_bts M) pc = .ok (.i2b, 1)) : wq X d M pc ls (.int a :: st) h Q = wq X d M (pc + 1) ls (.int a.toInt8.toInt32 :: st) h Q := q_next hd rfl
theorem q_i2c {a : Int32} (hd : decode (m_bts M) pc = .ok (.i2c, 1)) : wq X d M pc ls (.int a :: st) h Q = wq X d M (pc + 1) ls (.int (a.toUInt32 % 65536).toInt32 :: st) h Q := q_next hd rfl
theorem q_iconst {c : Int} {v : Int32} (hd : decode (m_bts M) pc = .ok (.iconst c, 1)) (hv : Int32.ofInt c = v) : wq X d M pc ls st h Q = wq X d M (pc + 1) ls (.int v :: st) h Q := by subst hv; exact q_next hd rfl
theorem q_bipush {c : Int} {v : Int32} (hd : decode (m_bts M) pc = .ok (.bipush c, 2)) (hv : (Int8.ofInt c).toInt32 = v) : wq X d M pc ls st h Q = wq X d M (pc + 2) ls (.int v :: st) h Q := by subst hv; exact q_next hd rfl
theorem q_sipush {c : Int} {v : Int32} (hd : decode (m_bts M) pc = .ok (.sipush c, 3)) (hv : (Int16.ofInt c).toInt32 = v) : wq X d M pc ls st h Q = wq X d M (pc + 3) ls (.int v :: st) h Q := by subst hv; exact q_next hd rfl
theorem q_lconst {c : Fin 2} {v : Int64} (hd : decode (m_bts M) pc = .ok (.lconst c, 1)) (hv : Int64.ofNat c.val = v) : wq X d M pc ls st h Q = wq X d M (pc + 1) ls (.long v :: st) h Q := by subst hv; exact q_next hd rfl
theorem q_iload_n {k : Fin 4} {i : Nat} {a : Int32} (hd : decode (m_bts M) pc = .ok (.iload_n k, 1)) (hi : k.val = i) (hl : ls[i]? = some (some (.int a))) : wq X d M pc ls st h Q = wq X d M (pc + 1) ls (.int a :: st) h Q := by subst hi; exact q_next hd (by simp only [m_act, m_lI, hl]; rfl)
theorem q_iload {k : Nat} {a : Int32} (hd : decode (m_bts M) pc = .ok (.iload k, 2)) (hl : ls[k]? = some (some (.int a))) : wq X d M pc ls st h Q = wq X d M (pc + 2) ls (.int a :: st) h Q := q_next hd (by simp only [m_act, m_lI, hl]; rfl)
theorem q_lload_n {k : Fin 4} {i : Nat} {a : Int64} (hd : decode (m_bts M) pc = .ok (.lload_n k, 1)) (hi : k.val = i) (hl : ls[i]? = some (some (.long a))) : wq X d M pc ls st h Q = wq X d M (pc + 1) ls (.long a :: st) h Q := by subst hi; exact q_next hd (by simp only [m_act, m_lL, hl]; rfl)
theorem q_lload {k : Nat} {a : Int64} (hd : decode (m_bts M) pc = .ok (.lload k, 2)) (hl : ls[k]? = some (some (.long a))) : wq X d M pc ls st h Q = wq X d M (pc + 2) ls (.long a :: st) h Q := q_next hd (by simp only [m_act, m_lL, hl]; rfl)
theorem q_aload_n {k : Fin 4} {i : Nat} {a : Nat} (hd : decode (m_bts M) pc = .ok (.aload_n k, 1)) (hi : k.val = i) (hl : ls[i]? = some (some (.ref a))) : wq X d M pc ls st h Q = wq X d M (pc + 1) ls (.ref a :: st) h Q := by subst hi; exact q_next hd (by simp only [m_act, m_lR, hl]; rfl)
theorem q_aload {k : Nat} {a : Nat} (hd : decode (m_bts M) pc = .ok (.aload k, 2)) (hl : ls[k]? = some (some (.ref a))) : wq X d M pc ls st h Q = wq X d M (pc + 2) ls (.ref a :: st) h Q := q_next hd (by simp only [m_act, m_lR, hl]; rfl)
theorem q_istore_n {k : Fin 4} {i : Nat} {a : Int32} (hd : decode (m_bts M) pc = .ok (.istore_n k, 1)) (hi : k.val = i) (hn : Nat.blt i (m_ml M) = true) (hp : m_pl ls i = true) : wq X d M pc ls (.int a :: st) h Q = wq X d M (pc + 1) (ls.set i (some (.int a))) st h Q := by subst hi; exact q_next hd (by simp only [m_act, m_1I, m_s1, hn, hp]; rfl)
theorem q_istore {k : Nat} {a : Int32} (hd : decode (m_bts M) pc = .ok (.istore k, 2)) (hn : Nat.blt k (m_ml M) = true) (hp : m_pl ls k = true) : wq X d M pc ls (.int a :: st) h Q = wq X d M (pc + 2) (ls.set k (some (.int a))) st h Q := q_next hd (by simp only [m_act, m_1I, m_s1, hn, hp]; rfl)
theorem q_astore_n {k : Fin 4} {i : Nat} {a : Nat} (hd : decode (m_bts M) pc = .ok (.astore_n k, 1)) (hi : k.val = i) (hn : Nat.blt i (m_ml M) = true) (hp : m_pl ls i = true) : wq X d M pc ls (.ref a :: st) h Q = wq X d M (pc + 1) (ls.set i (some (.ref a))) st h Q := by subst hi; exact q_next hd (by simp only [m_act, m_0R, m_s1, hn, hp]; rfl)
theorem q_astore {k : Nat} {a : Nat} (hd : decode (m_bts M) pc = .ok (.astore k, 2)) (hn : Nat.blt k (m_ml M) = true) (hp : m_pl ls k = true) : wq X d M pc ls (.ref a :: st) h Q = wq X d M (pc + 2) (ls.set k (some (.ref a))) st h Q := q_next hd (by simp only [m_act, m_0R, m_s1, hn, hp]; rfl)
theorem q_lstore_n {k : Fin 4} {i : Nat} {a : Int64} (hd : decode (m_bts M) pc = .ok (.lstore_n k, 1)) (hi : k.val = i) (hn : Nat.blt (i + 1) (m_ml M) = true) (hp : m_pl ls i = true) : wq X d M pc ls (.long a :: st) h Q = wq X d M (pc + 1) ((ls.set i (some (.long a))).set (i + 1) none) st h Q := by subst hi; exact q_next hd (by simp only [m_act, m_1L, m_s2, hn, hp]; rfl)
theorem q_lstore {k : Nat} {a : Int64} (hd : decode (m_bts M) pc = .ok (.lstore k, 2)) (hn : Nat.blt (k + 1) (m_ml M) = true) (hp : m_pl ls k = true) : wq X d M pc ls (.long a :: st) h Q = wq X d M (pc + 2) ((ls.set k (some (.long a))).set (k + 1) none) st h Q := q_next hd (by simp only [m_act, m_1L, m_s2, hn, hp]; rfl)
theorem q_iinc {k : Nat} {c : Int} {a v : Int32} (hd : decode (m_bts M) pc = .ok (.iinc k c, 3)) (hv : Int32.ofInt c = v) (hl : ls[k]? = some (some (.int a))) (hn : Nat.blt k (m_ml M) = true) (hp : m_pl ls k = true) : wq X d M pc ls st h Q = wq X d M (pc + 3) (ls.set k (some (.int (a + v)))) st h Q := by subst hv; exact q_next hd (by simp only [m_act, m_lI, m_s1, hl, hn, hp]; rfl)
theorem q_popI {a : Int32} (hd : decode (m_bts M) pc = .ok (.pop, 1)) : wq X d M pc ls (.int a :: st) h Q = wq X d M (pc + 1) ls st h Q := q_next hd rfl
theorem q_popR {a : Nat} (hd : decode (m_bts M) pc = .ok (.pop, 1)) : wq X d M pc ls (.ref a :: st) h Q = wq X d M (pc + 1) ls st h Q := q_next hd rfl
theorem q_dupI {a : Int32} (hd : decode (m_bts M) pc = .ok (.dup, 1)) : wq X d M pc ls (.int a :: st) h Q = wq X d M (pc + 1) ls (.int a :: .int a :: st) h Q := q_next hd rfl
theorem q_dupR {a : Nat} (hd : decode (m_bts M) pc = .ok (.dup, 1)) : wq X d M pc ls (.ref a :: st) h Q = wq X d M (pc + 1) ls (.ref a :: .ref a :: st) h Q := q_next hd rfl
theorem q_dup2 {a : Int32} {r : Nat} (hd : decode (m_bts M) pc = .ok (.dup2, 1)) : wq X d M pc ls (.int a :: .ref r :: st) h Q = wq X d M (pc + 1) ls (.int a :: .ref r :: .int a :: .ref r :: st) h Q := q_next hd rfl
theorem q_goto {o : Int} {t : Nat} (hd : decode (m_bts M) pc = .ok (.goto o, 3)) (hj : m_jk pc o = true) (ht : m_jp pc o = t) : wq X d M pc ls st h Q = wq X d M t ls st h Q := by subst ht; exact q_next hd (by simp only [m_act, hj]; rfl)
theorem q_le {a b : Int32} : decide (a ≤ b) = !decide (b < a) := by
  by_cases h : b < a
  · rw [decide_eq_true h, decide_eq_false (by rw [Int32.not_le]; exact h)]
    rfl
  · rw [decide_eq_false h, decide_eq_true (by rw [← Int32.not_lt]; exact h)]
    rfl
theorem q_if_eq {a : Int32} {o : Int} {t : Nat} (hd : decode (m_bts M) pc = .ok (.ifCond .eq o, 3)) (hj : m_jk pc o = true) (ht : m_jp pc o = t) : wq X d M pc ls (.int a :: st) h Q = if a = 0 then wq X d M t ls st h Q else wq X d M (pc + 3) ls st h Q := by
  subst ht
  by_cases hc : a = 0
  · rw [if_pos hc]
    exact q_next hd (by simp [m_act, m_ck, m_2I, m_1I, m_cmp, q_le, hj, hc, Int32.not_le, Int32.not_lt])
  · rw [if_neg hc]
    exact q_next hd (by simp [m_act, m_ck, m_2I, m_1I, m_cmp, q_le, hj, hc, Int32.not_le, Int32.not_lt])
theorem q_icmp_eq {a b : Int32} {o : Int} {t : Nat} (hd : decode (m_bts M) pc = .ok (.if_icmp .eq o, 3)) (hj : m_jk pc o = true) (ht : m_jp pc o = t) : wq X d M pc ls (.int b :: .int a :: st) h Q = if a = b then wq X d M t ls st h Q else wq X d M (pc + 3) ls st h Q := by
  subst ht
  by_cases hc : a = b
  · rw [if_pos hc]
    exact q_next hd (by simp [m_act, m_ck, m_2I, m_1I, m_cmp, q_le, hj, hc, Int32.not_le, Int32.not_lt])
  · rw [if_neg hc]
    exact q_next hd (by simp [m_act, m_ck, m_2I, m_1I, m_cmp, q_le, hj, hc, Int32.not_le, Int32.not_lt])
theorem q_if_ne {a : Int32} {o : Int} {t : Nat} (hd : decode (m_bts M) pc = .ok (.ifCond .ne o, 3)) (hj : m_jk pc o = true) (ht : m_jp pc o = t) : wq X d M pc ls (.int a :: st) h Q = if a = 0 then wq X d M (pc + 3) ls st h Q else wq X d M t ls st h Q := by
  subst ht
  by_cases hc : a = 0
  · rw [if_pos hc]
    exact q_next hd (by simp [m_act, m_ck, m_2I, m_1I, m_cmp, q_le, hj, hc, Int32.not_le, Int32.not_lt])
  · rw [if_neg hc]
    exact q_next hd (by simp [m_act, m_ck, m_2I, m_1I, m_cmp, q_le, hj, hc, Int32.not_le, Int32.not_lt])
theorem q_icmp_ne {a b : Int32} {o : Int} {t : Nat} (hd : decode (m_bts M) pc = .ok (.if_icmp .ne o, 3)) (hj : m_jk pc o = true) (ht : m_jp pc o = t) : wq X d M pc ls (.int b :: .int a :: st) h Q = if a = b then wq X d M (pc + 3) ls st h Q else wq X d M t ls st h Q := by
  subst ht
  by_cases hc : a = b
  · rw [if_pos hc]
    exact q_next hd (by simp [m_act, m_ck, m_2I, m_1I, m_cmp, q_le, hj, hc, Int32.not_le, Int32.not_lt])
  · rw [if_neg hc]
    exact q_next hd (by simp [m_act, m_ck, m_2I, m_1I, m_cmp, q_le, hj, hc, Int32.not_le, Int32.not_lt])
theorem q_if_lt {a : Int32} {o : Int} {t : Nat} (hd : decode (m_bts M) pc = .ok (.ifCond .lt o, 3)) (hj : m_jk pc o = true) (ht : m_jp pc o = t) : wq X d M pc ls (.int a :: st) h Q = if a < 0 then wq X d M t ls st h Q else wq X d M (pc + 3) ls st h Q := by
  subst ht
  by_cases hc : a < 0
  · rw [if_pos hc]
    exact q_next hd (by simp [m_act, m_ck, m_2I, m_1I, m_cmp, q_le, hj, hc, Int32.not_le, Int32.not_lt])
  · rw [if_neg hc]
    exact q_next hd (by simp [m_act, m_ck, m_2I, m_1I, m_cmp, q_le, hj, hc, Int32.not_le, Int32.not_lt])
theorem q_icmp_lt {a b : Int32} {o : Int} {t : Nat} (hd : decode (m_bts M) pc = .ok (.if_icmp .lt o, 3)) (hj : m_jk pc o = true) (ht : m_jp pc o = t) : wq X d M pc ls (.int b :: .int a :: st) h Q = if a < b then wq X d M t ls st h Q else wq X d M (pc + 3) ls st h Q := by
  subst ht
  by_cases hc : a < b
  · rw [if_pos hc]
    exact q_next hd (by simp [m_act, m_ck, m_2I, m_1I, m_cmp, q_le, hj, hc, Int32.not_le, Int32.not_lt])
  · rw [if_neg hc]
    exact q_next hd (by simp [m_act, m_ck, m_2I, m_1I, m_cmp, q_le, hj, hc, Int32.not_le, Int32.not_lt])
theorem q_if_ge {a : Int32} {o : Int} {t : Nat} (hd : decode (m_bts M) pc = .ok (.ifCond .ge o, 3)) (hj : m_jk pc o = true) (ht : m_jp pc o = t) : wq X d M pc ls (.int a :: st) h Q = if a < 0 then wq X d M (pc + 3) ls st h Q else wq X d M t ls st h Q := by
  subst ht
  by_cases hc : a < 0
  · rw [if_pos hc]
    exact q_next hd (by simp [m_act, m_ck, m_2I, m_1I, m_cmp, q_le, hj, hc, Int32.not_le, Int32.not_lt])
  · rw [if_neg hc]
    exact q_next hd (by simp [m_act, m_ck, m_2I, m_1I, m_cmp, q_le, hj, hc, Int32.not_le, Int32.not_lt])
theorem q_icmp_ge {a b : Int32} {o : Int} {t : Nat} (hd : decode (m_bts M) pc = .ok (.if_icmp .ge o, 3)) (hj : m_jk pc o = true) (ht : m_jp pc o = t) : wq X d M pc ls (.int b :: .int a :: st) h Q = if a < b then wq X d M (pc + 3) ls st h Q else wq X d M t ls st h Q := by
  subst ht
  by_cases hc : a < b
  · rw [if_pos hc]
    exact q_next hd (by simp [m_act, m_ck, m_2I, m_1I, m_cmp, q_le, hj, hc, Int32.not_le, Int32.not_lt])
  · rw [if_neg hc]
    exact q_next hd (by simp [m_act, m_ck, m_2I, m_1I, m_cmp, q_le, hj, hc, Int32.not_le, Int32.not_lt])
theorem q_if_gt {a : Int32} {o : Int} {t : Nat} (hd : decode (m_bts M) pc = .ok (.ifCond .gt o, 3)) (hj : m_jk pc o = true) (ht : m_jp pc o = t) : wq X d M pc ls (.int a :: st) h Q = if 0 < a then wq X d M t ls st h Q else wq X d M (pc + 3) ls st h Q := by
  subst ht
  by_cases hc : 0 < a
  · rw [if_pos hc]
    exact q_next hd (by simp [m_act, m_ck, m_2I, m_1I, m_cmp, q_le, hj, hc, Int32.not_le, Int32.not_lt])
  · rw [if_neg hc]
    exact q_next hd (by simp [m_act, m_ck, m_2I, m_1I, m_cmp, q_le, hj, hc, Int32.not_le, Int32.not_lt])
theorem q_icmp_gt {a b : Int32} {o : Int} {t : Nat} (hd : decode (m_bts M) pc = .ok (.if_icmp .gt o, 3)) (hj : m_jk pc o = true) (ht : m_jp pc o = t) : wq X d M pc ls (.int b :: .int a :: st) h Q = if b < a then wq X d M t ls st h Q else wq X d M (pc + 3) ls st h Q := by
  subst ht
  by_cases hc : b < a
  · rw [if_pos hc]
    exact q_next hd (by simp [m_act, m_ck, m_2I, m_1I, m_cmp, q_le, hj, hc, Int32.not_le, Int32.not_lt])
  · rw [if_neg hc]
    exact q_next hd (by simp [m_act, m_ck, m_2I, m_1I, m_cmp, q_le, hj, hc, Int32.not_le, Int32.not_lt])
theorem q_if_le {a : Int32} {o : Int} {t : Nat} (hd : decode (m_bts M) pc = .ok (.ifCond .le o, 3)) (hj : m_jk pc o = true) (ht : m_jp pc o = t) : wq X d M pc ls (.int a :: st) h Q = if 0 < a then wq X d M (pc + 3) ls st h Q else wq X d M t ls st h Q := by
  subst ht
  by_cases hc : 0 < a
  · rw [if_pos hc]
    exact q_next hd (by simp [m_act, m_ck, m_2I, m_1I, m_cmp, q_le, hj, hc, Int32.not_le, Int32.not_lt])
  · rw [if_neg hc]
    exact q_next hd (by simp [m_act, m_ck, m_2I, m_1I, m_cmp, q_le, hj, hc, Int32.not_le, Int32.not_lt])
theorem q_icmp_le {a b : Int32} {o : Int} {t : Nat} (hd : decode (m_bts M) pc = .ok (.if_icmp .le o, 3)) (hj : m_jk pc o = true) (ht : m_jp pc o = t) : wq X d M pc ls (.int b :: .int a :: st) h Q = if b < a then wq X d M (pc + 3) ls st h Q else wq X d M t ls st h Q := by
  subst ht
  by_cases hc : b < a
  · rw [if_pos hc]
    exact q_next hd (by simp [m_act, m_ck, m_2I, m_1I, m_cmp, q_le, hj, hc, Int32.not_le, Int32.not_lt])
  · rw [if_neg hc]
    exact q_next hd (by simp [m_act, m_ck, m_2I, m_1I, m_cmp, q_le, hj, hc, Int32.not_le, Int32.not_lt])
theorem q_ldc {k c w : Nat} {v : Int32} (hd : decode (m_bts M) pc = .ok (.ldc k, 2)) (ho : m_own M = c) (hf : m_fnd (m_con.getD c []) k = some (v, w)) : wq X d M pc ls st h Q = wq X d M (pc + 2) ls (.int v :: st) h Q := by subst ho; exact q_next hd (by simp only [m_act, hf]; rfl)
theorem q_ldcS {k c r : Nat} (hd : decode (m_bts M) pc = .ok (.ldc k, 2)) (ho : m_own M = c) (hg : m_fnd (m_con.getD c []) k = none) (hf : m_fnd (m_str.getD c []) k = some r) : wq X d M pc ls st h Q = wq X d M (pc + 2) ls (.ref (10010 + r) :: st) h Q := by subst ho; exact q_next hd (by simp only [m_act, hg, hf]; rfl)
theorem q_ldc_w {k c w : Nat} {v : Int32} (hd : decode (m_bts M) pc = .ok (.ldc_w k, 3)) (ho : m_own M = c) (hf : m_fnd (m_con.getD c []) k = some (v, w)) : wq X d M pc ls st h Q = wq X d M (pc + 3) ls (.int v :: st) h Q := by subst ho; exact q_next hd (by simp only [m_act, hf]; rfl)
theorem q_ldc2_w {k c w : Nat} {v : Int64} (hd : decode (m_bts M) pc = .ok (.ldc2_w k, 3)) (ho : m_own M = c) (hf : m_fnd (m_lcon.getD c []) k = some (v, w)) : wq X d M pc ls st h Q = wq X d M (pc + 3) ls (.long v :: st) h Q := by subst ho; exact q_next hd (by simp only [m_act, hf]; rfl)
theorem q_sh {r k : Nat} (hs : (m_sh (KS X) r).1 = k) (hk : k ≠ 99) : m_ex r = false ∧ ∃ r0, r = r0 + 1 := by
  cases r with
  | zero => exact absurd hs.symm hk
  | succ r0 =>
    refine ⟨?_, r0, rfl⟩
    have hl : r0 < (KS X).length := s_sh_lt hs hk
    have h237 := KS_len (X := X)
    cases he : m_ex (r0 + 1) with
    | false => rfl
    | true => have := s_ex he; omega
theorem q_getI {k c ci j w r : Nat} (hd : decode (m_bts M) pc = .ok (.getfield k, 3)) (ho : m_own M = c) (hf : m_fnd (m_fld.getD c []) k = some (ci, j, 0, w)) (hci : ci < 10) (hs : (m_sh (KS X) r).1 = ci) : wq X d M pc ls (.ref r :: st) h Q = wq X d M (pc + 3) ls (.int (m_gI h r j) :: st) h Q := by
  subst ho
  obtain ⟨he, r0, rfl⟩ := q_sh hs (by omega)
  refine q_next hd ?_
  simp only [m_act, m_1R, he, hf, m_op, hs, m_ck, beq_self_eq_true, Nat.beq_refl]
  rfl
theorem q_getL {k c ci j w r : Nat} (hd : decode (m_bts M) pc = .ok (.getfield k, 3)) (ho : m_own M = c) (hf : m_fnd (m_fld.getD c []) k = some (ci, j, 1, w)) (hci : ci < 10) (hs : (m_sh (KS X) r).1 = ci) : wq X d M pc ls (.ref r :: st) h Q = wq X d M (pc + 3) ls (.long (m_gL h r j) :: st) h Q := by
  subst ho
  obtain ⟨he, r0, rfl⟩ := q_sh hs (by omega)
  refine q_next hd ?_
  simp only [m_act, m_1R, he, hf, m_op, hs, m_ck, beq_self_eq_true, Nat.beq_refl]
  rfl
theorem q_getR {k c ci j w r : Nat} (hd : decode (m_bts M) pc = .ok (.getfield k, 3)) (ho : m_own M = c) (hf : m_fnd (m_fld.getD c []) k = some (ci, j, 2, w)) (hci : ci < 10) (hs : (m_sh (KS X) r).1 = ci) : wq X d M pc ls (.ref r :: st) h Q = wq X d M (pc + 3) ls (.ref (m_gR h r j) :: st) h Q := by
  subst ho
  obtain ⟨he, r0, rfl⟩ := q_sh hs (by omega)
  refine q_next hd ?_
  simp only [m_act, m_1R, he, hf, m_op, hs, m_ck, beq_self_eq_true, Nat.beq_refl]
  rfl
theorem q_getZ {k c ci j w r : Nat} (hd : decode (m_bts M) pc = .ok (.getfield k, 3)) (ho : m_own M = c) (hf : m_fnd (m_fld.getD c []) k = some (ci, j, 3, w)) (hci : ci < 10) (hs : (m_sh (KS X) r).1 = ci) : wq X d M pc ls (.ref r :: st) h Q = wq X d M (pc + 3) ls (.int (m_gI h r j) :: st) h Q := by
  subst ho
  obtain ⟨he, r0, rfl⟩ := q_sh hs (by omega)
  refine q_next hd ?_
  simp only [m_act, m_1R, he, hf, m_op, hs, m_ck, beq_self_eq_true, Nat.beq_refl]
  rfl
theorem q_putI {k c ci j w r : Nat} {v : Int32} (hd : decode (m_bts M) pc = .ok (.putfield k, 3)) (ho : m_own M = c) (hf : m_fnd (m_fld.getD c []) k = some (ci, j, 0, w)) (hci : ci < 10) (hm : m_fin ci j M = true) (hs : (m_sh (KS X) r).1 = ci) : wq X d M pc ls (.int v :: .ref r :: st) h Q = wq X d M (pc + 3) ls st (m_sI h r j v) Q := by
  subst ho
  obtain ⟨he, r0, rfl⟩ := q_sh hs (by omega)
  refine q_next hd ?_
  simp only [m_act, m_1R, he, hf, m_op, hs, m_ck, hm, beq_self_eq_true, Nat.beq_refl, m_wr]
  rfl
theorem q_putL {k c ci j w r : Nat} {v : Int64} (hd : decode (m_bts M) pc = .ok (.putfield k, 3)) (ho : m_own M = c) (hf : m_fnd (m_fld.getD c []) k = some (ci, j, 1, w)) (hci : ci < 10) (hm : m_fin ci j M = true) (hs : (m_sh (KS X) r).1 = ci) : wq X d M pc ls (.long v :: .ref r :: st) h Q = wq X d M (pc + 3) ls st (m_sL h r j v) Q := by
  subst ho
  obtain ⟨he, r0, rfl⟩ := q_sh hs (by omega)
  refine q_next hd ?_
  simp only [m_act, m_1R, he, hf, m_op, hs, m_ck, hm, beq_self_eq_true, Nat.beq_refl, m_wr]
  rfl
theorem q_putR {k c ci j w r : Nat} {v : Nat} (hd : decode (m_bts M) pc = .ok (.putfield k, 3)) (ho : m_own M = c) (hf : m_fnd (m_fld.getD c []) k = some (ci, j, 2, w)) (hci : ci < 10) (hm : m_fin ci j M = true) (hs : (m_sh (KS X) r).1 = ci) (hv : Nat.beq v 0 = false) : wq X d M pc ls (.ref v :: .ref r :: st) h Q = wq X d M (pc + 3) ls st (m_sR h r j v) Q := by
  subst ho
  obtain ⟨he, r0, rfl⟩ := q_sh hs (by omega)
  refine q_next hd ?_
  obtain ⟨v0, rfl⟩ : ∃ v0, v = v0 + 1 := Nat.exists_eq_succ_of_ne_zero (by rintro rfl; cases hv)
  simp only [m_act, m_1R, he, hf, m_op, hs, m_ck, hm, beq_self_eq_true, Nat.beq_refl, m_wr]
  rfl
theorem q_putZ {k c ci j w r : Nat} {v : Int32} (hd : decode (m_bts M) pc = .ok (.putfield k, 3)) (ho : m_own M = c) (hf : m_fnd (m_fld.getD c []) k = some (ci, j, 3, w)) (hci : ci < 10) (hm : m_fin ci j M = true) (hs : (m_sh (KS X) r).1 = ci) (hv : q_zv v = true) : wq X d M pc ls (.int v :: .ref r :: st) h Q = wq X d M (pc + 3) ls st (m_sI h r j v) Q := by
  subst ho
  obtain ⟨he, r0, rfl⟩ := q_sh hs (by omega)
  refine q_next hd ?_
  simp only [m_act, m_1R, he, hf, m_op, hs, m_ck, hm, beq_self_eq_true, Nat.beq_refl, m_wr, if_pos (of_decide_eq_true hv)]
  rfl
theorem q_alen {r : Nat} (hd : decode (m_bts M) pc = .ok (.arraylength, 1)) (hs : (Nat.ble 20 (m_sh (KS X) r).1 && Nat.blt (m_sh (KS X) r).1 99) = true) : wq X d M pc ls (.ref r :: st) h Q = wq X d M (pc + 1) ls (.int (Int32.ofNat (m_sh (KS X) r).2) :: st) h Q := by
  have h1 : (m_sh (KS X) r).1 ≠ 99 := by
    intro z
    rw [z] at hs
    cases hs
  obtain ⟨he, r0, rfl⟩ := q_sh (k := (m_sh (KS X) r).1) rfl h1
  refine q_next hd ?_
  simp only [m_act, m_1R, he, m_ck, hs]
  rfl
theorem q_alenS {r : Nat} (hd : decode (m_bts M) pc = .ok (.arraylength, 1)) (hs : m_xb (10000 + r) = true) : wq X d M pc ls (.ref (10000 + r) :: st) h Q = wq X d M (pc + 1) ls (.int (Int32.ofNat (m_xl X (10000 + r))) :: st) h Q := by
  obtain ⟨i, hi, ei⟩ := s_xb hs
  refine q_next hd ?_
  rw [ei] at hs ⊢
  have he : m_ex (10069 + i + 1) = true := Nat.ble_eq_true_of_le (by omega)
  rw [show 10070 + i = 10069 + i + 1 by omega] at hs ⊢
  simp only [m_act, m_1R, he, m_ck, hs, Bool.or_true]
  rfl
theorem q_alenX (hd : decode (m_bts M) pc = .ok (.arraylength, 1)) (hX : Nat.blt X.1 4096 = true) : wq X d M pc ls (.ref 10000 :: st) h Q = wq X d M (pc + 1) ls (.int (Int32.ofNat X.1) :: st) h Q := by
  refine q_next hd ?_
  simp only [m_act, m_1R, m_ck, hX]
  rfl
theorem q_ialdX {j : Int32} (hd : decode (m_bts M) pc = .ok (.iaload, 1)) (hX : Nat.blt X.1 4096 = true) (hj : m_in j X.1 = true) : wq X d M pc ls (.int j :: .ref 10000 :: st) h Q = wq X d M (pc + 1) ls (.int (X.2 j.toNatClampNeg) :: st) h Q := by
  refine q_next hd ?_
  have e : m_xl X 10000 = X.1 := rfl
  have he : m_ex 10000 = true := rfl
  simp only [m_act, m_1R, m_1I, m_ck, hX, e, hj, he]
  rfl
theorem q_ialdO {j : Int32} (hd : decode (m_bts M) pc = .ok (.iaload, 1)) (hj : m_in j 8 = true) : wq X d M pc ls (.int j :: .ref 10001 :: st) h Q = wq X d M (pc + 1) ls (.int (m_ord.getD j.toNatClampNeg 0) :: st) h Q := by
  refine q_next hd ?_
  have e : m_xl X 10001 = 8 := rfl
  have he : m_ex 10001 = true := rfl
  simp only [m_act, m_1R, m_1I, m_ck, e, hj, he, beq_self_eq_true, Bool.or_true]
  rfl
theorem q_baldS {r : Nat} {j : Int32} (hd : decode (m_bts M) pc = .ok (.baload, 1)) (hs : m_xb (10000 + r) = true) (hj : m_in j (m_xl X (10000 + r)) = true) : wq X d M pc ls (.int j :: .ref (10000 + r) :: st) h Q = wq X d M (pc + 1) ls (.int ((m_tx (r - 70)).getD j.toNatClampNeg 0) :: st) h Q := by
  obtain ⟨i, hi, ei⟩ := s_xb hs
  refine q_next hd ?_
  have er : r - 70 = 10000 + r - 10070 := by omega
  rw [er]
  rw [ei] at hs hj ⊢
  have he : m_ex (10069 + i + 1) = true := Nat.ble_eq_true_of_le (by omega)
  rw [show 10070 + i = 10069 + i + 1 by omega] at hs hj ⊢
  simp only [m_act, m_1R, m_1I, he, m_ck, hs, hj, Bool.and_true]
  rfl
theorem q_getS {k r : Nat} (hd : decode (m_bts M) pc = .ok (.getfield k, 3)) (ho : m_own M = 16) (hs : m_xs (10000 + r) = true) (hk : k = 15) : wq X d M pc ls (.ref (10000 + r) :: st) h Q = wq X d M (pc + 3) ls (.int 0 :: st) h Q := by
  subst hk
  obtain ⟨i, hi, ei⟩ := s_xs hs
  refine q_next hd ?_
  rw [ei] at hs ⊢
  have he : m_ex (10009 + i + 1) = true := Nat.ble_eq_true_of_le (by omega)
  rw [show 10010 + i = 10009 + i + 1 by omega] at hs ⊢
  simp only [m_act, m_1R, he, m_ck, hs, ho]
  rfl
theorem q_getSV {k r : Nat} (hd : decode (m_bts M) pc = .ok (.getfield k, 3)) (ho : m_own M = 16) (hs : m_xs (10000 + r) = true) (hk : k = 9) : wq X d M pc ls (.ref (10000 + r) :: st) h Q = wq X d M (pc + 3) ls (.ref (10000 + (r + 60)) :: st) h Q := by
  subst hk
  obtain ⟨i, hi, ei⟩ := s_xs hs
  refine q_next hd ?_
  rw [← Nat.add_assoc]
  rw [ei] at hs ⊢
  have he : m_ex (10009 + i + 1) = true := Nat.ble_eq_true_of_le (by omega)
  rw [show 10010 + i = 10009 + i + 1 by omega] at hs ⊢
  simp only [m_act, m_1R, he, m_ck, hs, ho]
  rfl
theorem q_gsO (hd : decode (m_bts M) pc = .ok (.getstatic 287, 3)) (ho : m_own M = 0) : wq X d M pc ls st h Q = wq X d M (pc + 3) ls (.ref 10001 :: st) h Q := by
  refine q_next hd ?_
  simp only [m_act, ho]
  rfl
theorem q_gsC (hd : decode (m_bts M) pc = .ok (.getstatic 38, 3)) (ho : m_own M = 16) : wq X d M pc ls st h Q = wq X d M (pc + 3) ls (.int 1 :: st) h Q := by
  refine q_next hd ?_
  simp only [m_act, ho]
  rfl
theorem q_gsF (hd : decode (m_bts M) pc = .ok (.getstatic 1053, 3)) (ho : m_own M = 16) : wq X d M pc ls st h Q = wq X d M (pc + 3) ls (.retAddr 0 :: st) h Q := by
  refine q_next hd ?_
  simp only [m_act, ho]
  rfl
theorem q_iald {r : Nat} {i : Int32} (hd : decode (m_bts M) pc = .ok (.iaload, 1)) (hs : (m_sh (KS X) r).1 = 20) (hi : m_in i (m_sh (KS X) r).2 = true) : wq X d M pc ls (.int i :: .ref r :: st) h Q = wq X d M (pc + 1) ls (.int (m_gI h r i.toNatClampNeg) :: st) h Q := by
  obtain ⟨he, r0, rfl⟩ := q_sh hs (by omega)
  refine q_next hd ?_
  simp only [m_act, m_1R, m_1I, he, hs, hi, m_ck]
  rfl
theorem q_lald {r : Nat} {i : Int32} (hd : decode (m_bts M) pc = .ok (.laload, 1)) (hs : (m_sh (KS X) r).1 = 21) (hi : m_in i (m_sh (KS X) r).2 = true) : wq X d M pc ls (.int i :: .ref r :: st) h Q = wq X d M (pc + 1) ls (.long (m_gL h r i.toNatClampNeg) :: st) h Q := by
  obtain ⟨he, r0, rfl⟩ := q_sh hs (by omega)
  refine q_next hd ?_
  simp only [m_act, m_1R, m_1I, he, hs, hi, m_ck]
  rfl
theorem q_aald {r : Nat} {i : Int32} (hd : decode (m_bts M) pc = .ok (.aaload, 1)) (hs : (m_sh (KS X) r).1 = 24) (hi : m_in i (m_sh (KS X) r).2 = true) : wq X d M pc ls (.int i :: .ref r :: st) h Q = wq X d M (pc + 1) ls (.ref (m_gR h r i.toNatClampNeg) :: st) h Q := by
  obtain ⟨he, r0, rfl⟩ := q_sh hs (by omega)
  refine q_next hd ?_
  simp only [m_act, m_1R, m_1I, he, hs, hi, m_ck]
  rfl
theorem q_zald {r : Nat} {i : Int32} (hd : decode (m_bts M) pc = .ok (.baload, 1)) (hs : (m_sh (KS X) r).1 = 22) (hi : m_in i (m_sh (KS X) r).2 = true) : wq X d M pc ls (.int i :: .ref r :: st) h Q = wq X d M (pc + 1) ls (.int (m_gI h r i.toNatClampNeg) :: st) h Q := by
  obtain ⟨he, r0, rfl⟩ := q_sh hs (by omega)
  refine q_next hd ?_
  simp only [m_act, m_1R, m_1I, he, hs, hi, m_ck]
  rfl
theorem q_bald {r : Nat} {i : Int32} (hd : decode (m_bts M) pc = .ok (.baload, 1)) (hs : (m_sh (KS X) r).1 = 23) (hi : m_in i (m_sh (KS X) r).2 = true) : wq X d M pc ls (.int i :: .ref r :: st) h Q = wq X d M (pc + 1) ls (.int (m_gI h r i.toNatClampNeg) :: st) h Q := by
  obtain ⟨he, r0, rfl⟩ := q_sh hs (by omega)
  refine q_next hd ?_
  simp only [m_act, m_1R, m_1I, he, hs, hi, m_ck]
  rfl
theorem q_iast {r : Nat} {i : Int32} {v : Int32} (hd : decode (m_bts M) pc = .ok (.iastore, 1)) (hs : (m_sh (KS X) r).1 = 20) (hi : m_in i (m_sh (KS X) r).2 = true) : wq X d M pc ls (.int v :: .int i :: .ref r :: st) h Q = wq X d M (pc + 1) ls st (m_sI h r i.toNatClampNeg v) Q := by
  obtain ⟨he, r0, rfl⟩ := q_sh hs (by omega)
  refine q_next hd ?_
  simp only [m_act, m_1R, m_1I, m_1L, he, hs, hi, m_ck]
  rfl
theorem q_last {r : Nat} {i : Int32} {v : Int64} (hd : decode (m_bts M) pc = .ok (.lastore, 1)) (hs : (m_sh (KS X) r).1 = 21) (hi : m_in i (m_sh (KS X) r).2 = true) : wq X d M pc ls (.long v :: .int i :: .ref r :: st) h Q = wq X d M (pc + 1) ls st (m_sL h r i.toNatClampNeg v) Q := by
  obtain ⟨he, r0, rfl⟩ := q_sh hs (by omega)
  refine q_next hd ?_
  simp only [m_act, m_1R, m_1I, m_1L, he, hs, hi, m_ck]
  rfl
theorem q_zast {r : Nat} {i : Int32} {v : Int32} (hd : decode (m_bts M) pc = .ok (.bastore, 1)) (hs : (m_sh (KS X) r).1 = 22) (hi : m_in i (m_sh (KS X) r).2 = true) : wq X d M pc ls (.int v :: .int i :: .ref r :: st) h Q = wq X d M (pc + 1) ls st (m_sI h r i.toNatClampNeg (vp_nar .boolean v)) Q := by
  obtain ⟨he, r0, rfl⟩ := q_sh hs (by omega)
  refine q_next hd ?_
  simp only [m_act, m_1R, m_1I, m_1L, he, hs, hi, m_ck]
  rfl
theorem q_bast {r : Nat} {i : Int32} {v : Int32} (hd : decode (m_bts M) pc = .ok (.bastore, 1)) (hs : (m_sh (KS X) r).1 = 23) (hi : m_in i (m_sh (KS X) r).2 = true) : wq X d M pc ls (.int v :: .int i :: .ref r :: st) h Q = wq X d M (pc + 1) ls st (m_sI h r i.toNatClampNeg (vp_nar .byte v)) Q := by
  obtain ⟨he, r0, rfl⟩ := q_sh hs (by omega)
  refine q_next hd ?_
  simp only [m_act, m_1R, m_1I, m_1L, he, hs, hi, m_ck]
  rfl
theorem q_tsw {dt lo hi : Int} {os : Array Int} {a : Int32} (hd : decode (m_bts M) pc = .ok (.tableswitch dt lo hi os, n)) (hk : (m_jk pc dt && os.toList.all (m_jk pc) && decide (hi = lo + (os.toList.length : Int) - 1)) = true) {l : List (Int × Nat)} {t : Nat} (hl : m_tsl pc lo os.toList = l) (ht : m_jp pc dt = t) : wq X d M pc ls (.int a :: st) h Q = wq X d M (m_swt l t a.toInt) ls st h Q := by
  subst hl
  subst ht
  refine q_next hd ?_
  simp only [m_act, m_1I, m_ck, hk]
  rfl
theorem q_lsw {dt : Int} {ps : Array (Int × Int)} {a : Int32} (hd : decode (m_bts M) pc = .ok (.lookupswitch dt ps, n)) (hk : (m_jk pc dt && ps.toList.all (fun q => m_jk pc q.2) && (ps.toList.zip (ps.toList.drop 1)).all (fun (a, next) => a.1 < next.1)) = true) {l : List (Int × Nat)} {t : Nat} (hl : m_lsl pc ps.toList = l) (ht : m_jp pc dt = t) : wq X d M pc ls (.int a :: st) h Q = wq X d M (m_swt l t a.toInt) ls st h Q := by
  subst hl
  subst ht
  refine q_next hd ?_
  simp only [m_act, m_1I, m_ck, hk]
  rfl
theorem q_iret {x : Int32} (hd : decode (m_bts M) pc = .ok (.ireturn, 1)) (hr : m_rt M = some .int) : wq X d M pc ls [.int x] h Q = Q (some (.int x)) h := by
  refine q_ret hd ?_
  simp only [m_act, hr, m_ck]
  rw [decide_eq_true (show narrow .int (.int x) = .int x from rfl)]
  rfl
theorem q_zret {x : Int32} {ty : FieldType} (hd : decode (m_bts M) pc = .ok (.ireturn, 1)) (hr : m_rt M = some ty) (hx : q_nb ty x = true) : wq X d M pc ls [.int x] h Q = Q (some (.int x)) h := by
  refine q_ret hd ?_
  simp only [m_act, hr, m_ck]
  rw [show decide (narrow ty (.int x) = .int x) = true from hx]
  rfl
theorem q_lret {x : Int64} (hd : decode (m_bts M) pc = .ok (.lreturn, 1)) (hr : m_rt M = some .long) : wq X d M pc ls [.long x] h Q = Q (some (.long x)) h := by
  refine q_ret hd ?_
  simp only [m_act, hr, m_ck]
  rfl
theorem q_aret {x : Nat} {C : String} (hd : decode (m_bts M) pc = .ok (.areturn, 1)) (hr : m_rt M = some (.object C)) : wq X d M pc ls [.ref x] h Q = Q (some (.ref x)) h := by
  refine q_ret hd ?_
  simp only [m_act, hr, m_ck]
  rfl
theorem q_vret (hd : decode (m_bts M) pc = .ok (.return_, 1)) (hr : m_rt M = none) : wq X d M pc ls [] h Q = Q none h := by
  refine q_ret hd ?_
  simp only [m_act, hr, m_ck]
  rfl
theorem q_inv {k c y na w o : Nat} {As rest : List Value} (hd : decode (m_bts M) pc = .ok (.invokevirtual k, 3)) (ho : m_own M = c) (hf : m_fnd (m_lnk.getD c []) k = some (0, y, na, w)) (hn : As.length = na) (h4 : m_cs rest ≤ 8) {nl : Nat} (hml : m_ml y = nl) (hlen : (m_loc (.ref o :: As.reverse)).length ≤ nl) {E : LT} (hE : m_ent nl (.ref o :: As.reverse) = E) {c2 : Nat} (hc2 : m_own y = c2) (hc3 : c2 < 11) (hs : (m_sh (KS X) o).1 = c2) :
    wq X (d + 1) M pc ls (As ++ .ref o :: rest) h Q = wq X d y 0 E [] h (fun v h' => wq X (d + 1) M (pc + 3) ls (v.toList ++ rest) h' Q) := by
  subst ho
  subst hml
  subst hE
  subst hn
  obtain ⟨he, o0, rfl⟩ := q_sh hs (by omega)
  refine q_call hd ?_
  have e1 : Nat.ble As.length (As ++ .ref (o0 + 1) :: rest).length = true := Nat.ble_eq_true_of_le (by simp)
  have e2 : Nat.ble (m_cs rest) 8 = true := Nat.ble_eq_true_of_le h4
  have e3 : Nat.ble (m_loc (.ref (o0 + 1) :: As.reverse)).length (m_ml y) = true := Nat.ble_eq_true_of_le hlen
  simp only [m_act, hf, m_op, m_ck, e1, List.drop_left, List.take_left, m_1R, m_rec, he, hc2, hs, Nat.beq_refl, m_cal, e2, e3]
  rfl
theorem q_invX {k c y na w r : Nat} {As rest : List Value} (hd : decode (m_bts M) pc = .ok (.invokevirtual k, 3)) (ho : m_own M = c) (hf : m_fnd (m_lnk.getD c []) k = some (0, y, na, w)) (hn : As.length = na) (h4 : m_cs rest ≤ 8) {nl : Nat} (hml : m_ml y = nl) (hlen : (m_loc (.ref (10000 + r) :: As.reverse)).length ≤ nl) {E : LT} (hE : m_ent nl (.ref (10000 + r) :: As.reverse) = E) (hc2 : m_own y = 16) (hs : m_xs (10000 + r) = true) :
    wq X (d + 1) M pc ls (As ++ .ref (10000 + r) :: rest) h Q = wq X d y 0 E [] h (fun v h' => wq X (d + 1) M (pc + 3) ls (v.toList ++ rest) h' Q) := by
  subst ho
  subst hml
  subst hE
  subst hn
  obtain ⟨i, hi, ei⟩ := s_xs hs
  refine q_call hd ?_
  rw [ei] at hs hlen ⊢
  have he : m_ex (10009 + i + 1) = true := Nat.ble_eq_true_of_le (by omega)
  rw [show 10010 + i = 10009 + i + 1 by omega] at hs hlen ⊢
  have e1 : Nat.ble As.length (As ++ .ref (10009 + i + 1) :: rest).length = true := Nat.ble_eq_true_of_le (by simp)
  have e2 : Nat.ble (m_cs rest) 8 = true := Nat.ble_eq_true_of_le h4
  have e3 : Nat.ble (m_loc (.ref (10009 + i + 1) :: As.reverse)).length (m_ml y) = true := Nat.ble_eq_true_of_le hlen
  simp only [m_act, hf, m_op, m_ck, e1, List.drop_left, List.take_left, m_1R, m_rec, he, hc2, hs, Nat.beq_refl, m_cal, e2, e3]
  rfl
theorem q_ins {k c y na w kd : Nat} {As rest : List Value} (hd : decode (m_bts M) pc = .ok (.invokestatic k, 3)) (ho : m_own M = c) (hf : m_fnd (m_lnk.getD c []) k = some (kd, y, na, w)) (hkd : kd = 1 ∨ kd = 4) (hn : As.length = na) (h4 : m_cs rest ≤ 8) {nl : Nat} (hml : m_ml y = nl) (hlen : (m_loc As.reverse).length ≤ nl) {E : LT} (hE : m_ent nl As.reverse = E) :
    wq X (d + 1) M pc ls (As ++ rest) h Q = wq X d y 0 E [] h (fun v h' => wq X (d + 1) M (pc + 3) ls (v.toList ++ rest) h' Q) := by
  subst ho
  subst hml
  subst hE
  subst hn
  refine q_call hd ?_
  have e1 : Nat.ble As.length (As ++ rest).length = true := Nat.ble_eq_true_of_le (by simp)
  have e2 : Nat.ble (m_cs rest) 8 = true := Nat.ble_eq_true_of_le h4
  have e3 : Nat.ble (m_loc As.reverse).length (m_ml y) = true := Nat.ble_eq_true_of_le hlen
  rcases hkd with rfl | rfl
  · simp only [m_act, hf, m_op, m_ck, e1, List.drop_left, List.take_left, m_cal, e2, e3]
    rfl
  · simp only [m_act, hf, m_op, m_ck, e1, List.drop_left, List.take_left, m_cal, e2, e3]
    rfl
theorem q_max {k c y na w : Nat} {a b : Int32} (hd : decode (m_bts M) pc = .ok (.invokestatic k, 3)) (ho : m_own M = c) (hf : m_fnd (m_lnk.getD c []) k = some (6, y, na, w)) (h4 : Nat.ble (m_cs st) 8 = true) : wq X d M pc ls (.int b :: .int a :: st) h Q = wq X d M (pc + 3) ls (.int (if a < b then b else a) :: st) h Q := by
  subst ho
  refine q_next hd ?_
  simp only [m_act, hf, m_op, m_ck, m_2I, m_1I, h4]
  rfl
theorem q_min {k c y na w : Nat} {a b : Int32} (hd : decode (m_bts M) pc = .ok (.invokestatic k, 3)) (ho : m_own M = c) (hf : m_fnd (m_lnk.getD c []) k = some (7, y, na, w)) (h4 : Nat.ble (m_cs st) 8 = true) : wq X d M pc ls (.int b :: .int a :: st) h Q = wq X d M (pc + 3) ls (.int (if b < a then b else a) :: st) h Q := by
  subst ho
  refine q_next hd ?_
  simp only [m_act, hf, m_op, m_ck, m_2I, m_1I, h4]
  rfl
end WQ
