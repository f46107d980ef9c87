/-! A SMALL MACHINE OF OUR OWN: the program's instructions over a heap of numbered cells. What it does is a function; part 04 on shows that the Jvm does the same. -/
abbrev HT : Type := (Nat → Nat → Int32) × (Nat → Nat → Int64) × (Nat → Nat → Nat)
abbrev KT : Type := List (Nat × Nat)
abbrev LT : Type := List (Option Value)
abbrev XT : Type := Nat × (Nat → Int32)
abbrev AT : Type := Option ((Nat × LT × List Value × KT × HT) ⊕ (Nat × List Value × List Value) ⊕ (Option Value))
def m_gI (h : HT) (a k : Nat) : Int32 := h.1 a k
def m_gL (h : HT) (a k : Nat) : Int64 := h.2.1 a k
def m_gR (h : HT) (a k : Nat) : Nat := h.2.2 a k
def m_sI (h : HT) (a k : Nat) (v : Int32) : HT := (fun b j => if b = a ∧ j = k then v else h.1 b j, h.2.1, h.2.2)
def m_sL (h : HT) (a k : Nat) (v : Int64) : HT := (h.1, fun b j => if b = a ∧ j = k then v else h.2.1 b j, h.2.2)
def m_sR (h : HT) (a k : Nat) (v : Nat) : HT := (h.1, h.2.1, fun b j => if b = a ∧ j = k then v else h.2.2 b j)
def m_clr (h : HT) (a : Nat) : HT := (fun b j => if b = a then 0 else h.1 b j, fun b j => if b = a then 0 else h.2.1 b j, fun b j => if b = a then 0 else h.2.2 b j)
/-- the sort of a cell and its size; 99: there is none -/
def m_sh (K : KT) (a : Nat) : Nat × Nat := match a with
  | 0 => (99, 0)
  | k + 1 => K.getD k (99, 0)
def m_sl (K : KT) : Nat := (K.map (fun q => q.2)).sum
def m_fnd {α : Type} : List (Nat × α) → Nat → Option α
  | [], _ => none
  | (i, x) :: l, k => if k = i then some x else m_fnd l k
theorem m_fnd_mem {α : Type} : ∀ {l : List (Nat × α)} {k : Nat} {x : α}, m_fnd l k = some x → (k, x) ∈ l
  | [], _, _, h => by cases h
  | (i, y) :: l, k, x, h => by
    unfold m_fnd at h
    split at h
    · rename_i e
      cases h
      rw [e]
      exact List.mem_cons_self
    · exact List.mem_cons_of_mem _ (m_fnd_mem h)
def m_row (M : Nat) : MethodName × Nat × Option FieldType × Nat := m_tab.getD M (⟨"", "", ""⟩, 0, none, 99)
def m_nm (M : Nat) : MethodName := (m_row M).1
/-- a method's code, out of the Statement's word for it -/
def m_bts (M : Nat) : ByteArray := if M = 315 then code else match s_wd (m_wx.getD M (0, 0, 0, 0)).1 with
  | some (.code _ b _ _) => b
  | _ => ⟨#[]⟩
def m_ml (M : Nat) : Nat := (m_row M).2.1
def m_rt (M : Nat) : Option FieldType := (m_row M).2.2.1
def m_own (M : Nat) : Nat := (m_row M).2.2.2
def m_loc : List Value → LT
  | [] => []
  | v :: vs => if v.category = 2 then some v :: none :: m_loc vs else some v :: m_loc vs
/-- the locals at a method's entry -/
def m_ent (n : Nat) (vs : List Value) : LT := m_loc vs ++ List.replicate (n - (m_loc vs).length) none
/-- what lies outside: 10000 the script, 10001 ORDERS, from 10010 on the texts, from 10070 on their bytes -/
def m_ex (r : Nat) : Bool := Nat.ble 10000 r
def m_txt : List (List Int32) := [[59, 40, 41, 60, 62, 61, 43, 45, 42, 47, 37], [99, 114, 97, 102, 116], [99, 114, 97, 102, 116, 32, 110, 101, 101, 100, 115, 32, 108, 111, 115, 115, 32, 109, 97, 110, 32, 111, 102, 32, 108, 111, 97, 118, 101, 115, 32, 100, 101, 98, 116, 32, 111, 116, 104, 101, 114, 115, 32, 111, 117, 116, 32, 100, 101, 109, 97, 110, 100, 32, 99, 111, 115, 116, 32, 119, 111, 114, 116, 104, 32, 98, 97, 99, 107, 32, 102, 111, 101, 115, 32, 114, 97, 105, 100, 32, 100, 114, 97, 119, 32, 111, 114, 32, 97, 110, 100, 32, 110, 111, 116, 32, 103, 111, 110, 101, 32, 100, 97, 121, 115, 32, 115, 104, 111, 114, 116, 32], [110, 101, 101, 100, 115], [108, 111, 115, 115], [109, 97, 110], [111, 102], [108, 111, 97, 118, 101, 115], [100, 101, 98, 116], [111, 116, 104, 101, 114, 115], [111, 117, 116], [100, 101, 109, 97, 110, 100], [99, 111, 115, 116], [119, 111, 114, 116, 104], [98, 97, 99, 107], [103, 111, 110, 101], [100, 97, 121, 115], [115, 104, 111, 114, 116], [110, 111, 116], [111, 114], [97, 110, 100], [60, 62, 61], [43, 45], [42, 47, 37], [102, 111, 101, 115], [114, 97, 105, 100], [100, 114, 97, 119], [99, 114, 97, 102, 116, 32], [110, 101, 101, 100, 115, 32], [108, 111, 115, 115, 32], [59], [109, 97, 110, 32], [111, 102, 32], [108, 111, 97, 118, 101, 115, 32], [100, 101, 98, 116, 32], [111, 116, 104, 101, 114, 115, 32], [111, 117, 116], [100, 101, 109, 97, 110, 100, 32], [99, 111, 115, 116, 32], [119, 111, 114, 116, 104, 32], [98, 97, 99, 107, 32, 108, 111, 97, 118, 101, 115, 61, 48, 32, 111, 114, 32, 100, 97, 121, 115, 62, 111, 116, 104, 101, 114, 115, 43, 51, 59], [98, 97, 99, 107, 32, 103, 111, 110, 101, 60, 50, 45, 115, 104, 111, 114, 116, 59], [98, 97, 99, 107, 32, 40, 108, 111, 97, 118, 101, 115, 43, 103, 111, 110, 101, 60, 100, 101, 98, 116, 47, 52, 41, 32, 97, 110, 100, 32, 110, 111, 116, 32, 115, 104, 111, 114, 116, 61, 51, 59], [102, 111, 101, 115, 32], [114, 97, 105, 100, 32], [100, 114, 97, 119, 32]]
def m_ord : List Int32 := [1, 1, 2, 6, 24, 120, 720, 5040]
def m_tx (i : Nat) : List Int32 := m_txt.getD i []
def m_in (j : Int32) (n : Nat) : Bool := !(decide (j < 0)) && Nat.blt j.toNatClampNeg n
def m_jp (pc : Nat) (off : Int) : Nat := ((pc : Int) + off).toNat
def m_jk (pc : Nat) (off : Int) : Bool := decide (0 ≤ (pc : Int) + off)
def m_nl : Option (Option Value) → Bool
  | some (some (.long _)) => false
  | some (some (.double _)) => false
  | _ => true
def m_pl (ls : LT) (i : Nat) : Bool := match i with
  | 0 => true
  | k + 1 => m_nl ls[k]?
def m_s1 (nL : Nat) (ls : LT) (i : Nat) (v : Value) (f : LT → AT) : AT := if Nat.blt i nL && m_pl ls i then f (ls.set i (some v)) else none
def m_s2 (nL : Nat) (ls : LT) (i : Nat) (v : Value) (f : LT → AT) : AT := if Nat.blt (i + 1) nL && m_pl ls i then f ((ls.set i (some v)).set (i + 1) none) else none
def m_lI (ls : LT) (i : Nat) (f : Int32 → AT) : AT := match ls[i]? with
  | some (some (.int x)) => f x
  | _ => none
def m_lL (ls : LT) (i : Nat) (f : Int64 → AT) : AT := match ls[i]? with
  | some (some (.long x)) => f x
  | _ => none
def m_lR (ls : LT) (i : Nat) (f : Nat → AT) : AT := match ls[i]? with
  | some (some (.ref k)) => f k
  | _ => none
def m_1I (st : List Value) (f : Int32 → List Value → AT) : AT := match st with
  | .int a :: r => f a r
  | _ => none
def m_1L (st : List Value) (f : Int64 → List Value → AT) : AT := match st with
  | .long a :: r => f a r
  | _ => none
def m_1R (st : List Value) (f : Nat → List Value → AT) : AT := match st with
  | .ref (k + 1) :: r => f (k + 1) r
  | _ => none
def m_0R (st : List Value) (f : Nat → List Value → AT) : AT := match st with
  | .ref k :: r => f k r
  | _ => none
def m_2I (st : List Value) (f : Int32 → Int32 → List Value → AT) : AT := m_1I st fun b r => m_1I r fun a r => f a b r
def m_2L (st : List Value) (f : Int64 → Int64 → List Value → AT) : AT := m_1L st fun b r => m_1L r fun a r => f a b r
def m_ck (b : Bool) (a : AT) : AT := if b then a else none
def m_op {α : Type} (o : Option α) (f : α → AT) : AT := match o with
  | some x => f x
  | none => none
def m_rd (t : Nat) (h : HT) (a k : Nat) : Value := match t with
  | 1 => .long (m_gL h a k)
  | 2 => .ref (m_gR h a k)
  | _ => .int (m_gI h a k)
/-- a field's new value, by its sort: 0 an int, 1 a long, 2 a reference, 3 a boolean -/
def m_wr (t : Nat) (h : HT) (a k : Nat) (v : Value) : Option HT := match t, v with
  | 0, .int x => some (m_sI h a k x)
  | 1, .long x => some (m_sL h a k x)
  | 2, .ref (b + 1) => some (m_sR h a k (b + 1))
  | 3, .int x => if x = 0 ∨ x = 1 then some (m_sI h a k x) else none
  | _, _ => none
def m_fin (ci k M : Nat) : Bool := !(mT ci k).2.2.2 || (decide ((m_nm M).name = "<init>") && Nat.beq (m_own M) ci)
def m_xl (X : XT) (r : Nat) : Nat := if r = 10000 then X.1 else if r = 10001 then 8 else (m_tx (r - 10070)).length
def m_xI (X : XT) (r j : Nat) : Int32 := if r = 10000 then X.2 j else m_ord.getD j 0
def m_xs (r : Nat) : Bool := Nat.ble 10010 r && Nat.blt r 10056
def m_xb (r : Nat) : Bool := Nat.ble 10070 r && Nat.blt r 10116
def m_swt : List (Int × Nat) → Nat → Int → Nat
  | [], d, _ => d
  | (a, t) :: l, d, x => if x = a then t else m_swt l d x
def m_tsl (pc : Nat) : Int → List Int → List (Int × Nat)
  | _, [] => []
  | lo, o :: l => (lo, m_jp pc o) :: m_tsl pc (lo + 1) l
def m_lsl (pc : Nat) (ps : List (Int × Int)) : List (Int × Nat) := ps.map fun q => (q.1, m_jp pc q.2)
def m_at : ArrayType → Nat
  | .int => 20
  | .long => 21
  | .boolean => 22
  | .byte => 23
  | _ => 98
def m_cmp (c : ClassFile.Cond) (x y : Int32) : Bool := match c with
  | .eq => decide (x = y)
  | .ne => decide (¬ x = y)
  | .lt => decide (x < y)
  | .ge => decide (y ≤ x)
  | .gt => decide (y < x)
  | .le => decide (x ≤ y)
def m_mk (K : KT) (h : HT) (c n : Nat) (f : Nat → KT → HT → AT) : AT := m_ck (Nat.blt K.length 9000) (f (K.length + 1) (K ++ [(c, n)]) (m_clr h (K.length + 1)))
def m_rec (K : KT) (o y : Nat) : Bool := if m_ex o then m_xs o && Nat.beq (m_own y) 16 else Nat.beq (m_sh K o).1 (m_own y)
/-- the words that a list of values takes -/
def m_cs (l : List Value) : Nat := (l.map fun v => v.category).sum
def m_cal (y : Nat) (As rest : List Value) : AT := m_ck (Nat.ble (m_cs rest) 8 && Nat.ble (m_loc As).length (m_ml y)) (some (.inr (.inl (y, As, rest))))
def m_act (X : XT) (M pc : Nat) (i : Instr) (n : Nat) (ls : LT) (st : List Value) (K : KT) (h : HT) : AT :=
  let nx : Nat → LT → List Value → AT := fun pc ls st => some (.inl (pc, ls, st, K, h))
  match i with
  | .aload_n k => m_ck (n == 1) (m_lR ls k.val fun x => nx (pc + 1) ls (.ref x :: st))
  | .aload k => m_ck (n == 2) (m_lR ls k fun x => nx (pc + 2) ls (.ref x :: st))
  | .iload_n k => m_ck (n == 1) (m_lI ls k.val fun x => nx (pc + 1) ls (.int x :: st))
  | .iload k => m_ck (n == 2) (m_lI ls k fun x => nx (pc + 2) ls (.int x :: st))
  | .lload_n k => m_ck (n == 1) (m_lL ls k.val fun x => nx (pc + 1) ls (.long x :: st))
  | .lload k => m_ck (n == 2) (m_lL ls k fun x => nx (pc + 2) ls (.long x :: st))
  | .astore_n k => m_ck (n == 1) (m_0R st fun x r => m_s1 (m_ml M) ls k.val (.ref x) fun ls => nx (pc + 1) ls r)
  | .astore k => m_ck (n == 2) (m_0R st fun x r => m_s1 (m_ml M) ls k (.ref x) fun ls => nx (pc + 2) ls r)
  | .istore_n k => m_ck (n == 1) (m_1I st fun x r => m_s1 (m_ml M) ls k.val (.int x) fun ls => nx (pc + 1) ls r)
  | .istore k => m_ck (n == 2) (m_1I st fun x r => m_s1 (m_ml M) ls k (.int x) fun ls => nx (pc + 2) ls r)
  | .lstore_n k => m_ck (n == 1) (m_1L st fun x r => m_s2 (m_ml M) ls k.val (.long x) fun ls => nx (pc + 1) ls r)
  | .lstore k => m_ck (n == 2) (m_1L st fun x r => m_s2 (m_ml M) ls k (.long x) fun ls => nx (pc + 2) ls r)
  | .iinc k c => m_ck (n == 3) (m_lI ls k fun x => m_s1 (m_ml M) ls k (.int (x + Int32.ofInt c)) fun ls => nx (pc + 3) ls st)
  | .iconst c => m_ck (n == 1) (nx (pc + 1) ls (.int (Int32.ofInt c) :: st))
  | .lconst c => m_ck (n == 1) (nx (pc + 1) ls (.long (Int64.ofNat c.val) :: st))
  | .bipush c => m_ck (n == 2) (nx (pc + 2) ls (.int (Int8.ofInt c).toInt32 :: st))
  | .sipush c => m_ck (n == 3) (nx (pc + 3) ls (.int (Int16.ofInt c).toInt32 :: st))
  | .ldc k => m_ck (n == 2) (match m_fnd (m_con.getD (m_own M) []) k with
    | some q => nx (pc + 2) ls (.int q.1 :: st)
    | none => m_op (m_fnd (m_str.getD (m_own M) []) k) fun q => nx (pc + 2) ls (.ref (10010 + q) :: st))
  | .ldc_w k => m_ck (n == 3) (m_op (m_fnd (m_con.getD (m_own M) []) k) fun q => nx (pc + 3) ls (.int q.1 :: st))
  | .ldc2_w k => m_ck (n == 3) (m_op (m_fnd (m_lcon.getD (m_own M) []) k) fun q => nx (pc + 3) ls (.long q.1 :: st))
  | .iadd => m_ck (n == 1) (m_2I st fun a b r => nx (pc + 1) ls (.int (a + b) :: r))
  | .isub => m_ck (n == 1) (m_2I st fun a b r => nx (pc + 1) ls (.int (a - b) :: r))
  | .imul => m_ck (n == 1) (m_2I st fun a b r => nx (pc + 1) ls (.int (a * b) :: r))
  | .iand => m_ck (n == 1) (m_2I st fun a b r => nx (pc + 1) ls (.int (a &&& b) :: r))
  | .ior => m_ck (n == 1) (m_2I st fun a b r => nx (pc + 1) ls (.int (a ||| b) :: r))
  | .ixor => m_ck (n == 1) (m_2I st fun a b r => nx (pc + 1) ls (.int (a ^^^ b) :: r))
  | .idiv => m_ck (n == 1) (m_2I st fun a b r => m_ck (!decide (b = 0)) (nx (pc + 1) ls (.int (a / b) :: r)))
  | .irem => m_ck (n == 1) (m_2I st fun a b r => m_ck (!decide (b = 0)) (nx (pc + 1) ls (.int (a - a / b * b) :: r)))
  | .ineg => m_ck (n == 1) (m_1I st fun a r => nx (pc + 1) ls (.int (-a) :: r))
  | .ishl => m_ck (n == 1) (m_2I st fun a b r => nx (pc + 1) ls (.int (a <<< (b &&& 31)) :: r))
  | .ishr => m_ck (n == 1) (m_2I st fun a b r => nx (pc + 1) ls (.int (a >>> (b &&& 31)) :: r))
  | .iushr => m_ck (n == 1) (m_2I st fun a b r => nx (pc + 1) ls (.int (a.toUInt32 >>> (b.toUInt32 &&& Int32.toUInt32 31)).toInt32 :: r))
  | .ladd => m_ck (n == 1) (m_2L st fun a b r => nx (pc + 1) ls (.long (a + b) :: r))
  | .lsub => m_ck (n == 1) (m_2L st fun a b r => nx (pc + 1) ls (.long (a - b) :: r))
  | .lmul => m_ck (n == 1) (m_2L st fun a b r => nx (pc + 1) ls (.long (a * b) :: r))
  | .lor => m_ck (n == 1) (m_2L st fun a b r => nx (pc + 1) ls (.long (a ||| b) :: r))
  | .land => m_ck (n == 1) (m_2L st fun a b r => nx (pc + 1) ls (.long (a &&& b) :: r))
  | .lushr => m_ck (n == 1) (m_1I st fun b r => m_1L r fun a r => nx (pc + 1) ls (.long ((a.toUInt64 >>> (b.toInt64.toUInt64 &&& Int64.toUInt64 63)).toInt64) :: r))
  | .l2i => m_ck (n == 1) (m_1L st fun a r => nx (pc + 1) ls (.int a.toInt32 :: r))
  | .lshl => m_ck (n == 1) (m_1I st fun b r => m_1L r fun a r => nx (pc + 1) ls (.long (a <<< (b.toInt64 &&& 63)) :: r))
  | .lcmp => m_ck (n == 1) (m_2L st fun a b r => nx (pc + 1) ls (.int (lg_cmp a b) :: r))
  | .i2l => m_ck (n == 1) (m_1I st fun a r => nx (pc + 1) ls (.long a.toInt64 :: r))
  | .i2b => m_ck (n == 1) (m_1I st fun a r => nx (pc + 1) ls (.int a.toInt8.toInt32 :: r))
  | .i2c => m_ck (n == 1) (m_1I st fun a r => nx (pc + 1) ls (.int (a.toUInt32 % 65536).toInt32 :: r))
  | .pop => m_ck (n == 1) (match st with
    | .int _ :: r => nx (pc + 1) ls r
    | .ref _ :: r => nx (pc + 1) ls r
    | _ => none)
  | .dup => m_ck (n == 1) (match st with
    | .int a :: r => nx (pc + 1) ls (.int a :: .int a :: r)
    | .ref a :: r => nx (pc + 1) ls (.ref a :: .ref a :: r)
    | _ => none)
  | .dup2 => m_ck (n == 1) (match st with
    | .int b :: .ref a :: r => nx (pc + 1) ls (.int b :: .ref a :: .int b :: .ref a :: r)
    | _ => none)
  | .goto o => m_ck (n == 3 && m_jk pc o) (nx (m_jp pc o) ls st)
  | .ifCond c o => m_ck (n == 3 && m_jk pc o) (m_1I st fun a r => nx (if m_cmp c a 0 then m_jp pc o else pc + 3) ls r)
  | .if_icmp c o => m_ck (n == 3 && m_jk pc o) (m_2I st fun a b r => nx (if m_cmp c a b then m_jp pc o else pc + 3) ls r)
  | .tableswitch d lo hi os => m_ck (m_jk pc d && os.toList.all (m_jk pc) && decide (hi = lo + (os.toList.length : Int) - 1)) (m_1I st fun a r => nx (m_swt (m_tsl pc lo os.toList) (m_jp pc d) a.toInt) ls r)
  | .lookupswitch d ps => m_ck (m_jk pc d && ps.toList.all (fun q => m_jk pc q.2) && (ps.toList.zip (ps.toList.drop 1)).all (fun (a, next) => a.1 < next.1)) (m_1I st fun a r => nx (m_swt (m_lsl pc ps.toList) (m_jp pc d) a.toInt) ls r)
  | .getstatic k => m_ck (n == 3) (if m_own M = 0 ∧ k = 287 then nx (pc + 3) ls (.ref 10001 :: st)
    else if m_own M = 16 ∧ k = 38 then nx (pc + 3) ls (.int 1 :: st)
    else if m_own M = 16 ∧ k = 1053 then nx (pc + 3) ls (.retAddr 0 :: st)
    else none)
  | .getfield k => m_ck (n == 3) (m_1R st fun a r =>
    if m_ex a then m_ck (m_xs a) (if m_own M = 16 ∧ k = 15 then nx (pc + 3) ls (.int 0 :: r)
      else if m_own M = 16 ∧ k = 9 then nx (pc + 3) ls (.ref (a + 60) :: r)
      else none)
    else m_op (m_fnd (m_fld.getD (m_own M) []) k) fun q => m_ck (Nat.beq (m_sh K a).1 q.1) (nx (pc + 3) ls (m_rd q.2.2.1 h a q.2.1 :: r)))
  | .putfield k => m_ck (n == 3) (match st with
    | v :: r => m_1R r fun a r => m_op (m_fnd (m_fld.getD (m_own M) []) k) fun q => m_ck (!m_ex a && Nat.beq (m_sh K a).1 q.1 && m_fin q.1 q.2.1 M) (m_op (m_wr q.2.2.1 h a q.2.1 v) fun h' => some (.inl (pc + 3, ls, r, K, h')))
    | _ => none)
  | .arraylength => m_ck (n == 1) (m_1R st fun a r => if m_ex a then m_ck ((a == 10000 && Nat.blt X.1 4096) || a == 10001 || m_xb a) (nx (pc + 1) ls (.int (Int32.ofNat (m_xl X a)) :: r)) else m_ck (Nat.ble 20 (m_sh K a).1 && Nat.blt (m_sh K a).1 99) (nx (pc + 1) ls (.int (Int32.ofNat (m_sh K a).2) :: r)))
  | .iaload => m_ck (n == 1) (m_1I st fun j r => m_1R r fun a r => if m_ex a then m_ck (((a == 10000 && Nat.blt X.1 4096) || a == 10001) && m_in j (m_xl X a)) (nx (pc + 1) ls (.int (m_xI X a j.toNatClampNeg) :: r)) else m_ck (Nat.beq (m_sh K a).1 20 && m_in j (m_sh K a).2) (nx (pc + 1) ls (.int (m_gI h a j.toNatClampNeg) :: r)))
  | .laload => m_ck (n == 1) (m_1I st fun j r => m_1R r fun a r => m_ck (!m_ex a && Nat.beq (m_sh K a).1 21 && m_in j (m_sh K a).2) (nx (pc + 1) ls (.long (m_gL h a j.toNatClampNeg) :: r)))
  | .baload => m_ck (n == 1) (m_1I st fun j r => m_1R r fun a r => if m_ex a then m_ck (m_xb a && m_in j (m_xl X a)) (nx (pc + 1) ls (.int ((m_tx (a - 10070)).getD j.toNatClampNeg 0) :: r)) else m_ck ((Nat.beq (m_sh K a).1 22 || Nat.beq (m_sh K a).1 23) && m_in j (m_sh K a).2) (nx (pc + 1) ls (.int (m_gI h a j.toNatClampNeg) :: r)))
  | .aaload => m_ck (n == 1) (m_1I st fun j r => m_1R r fun a r => m_ck (!m_ex a && Nat.beq (m_sh K a).1 24 && m_in j (m_sh K a).2) (nx (pc + 1) ls (.ref (m_gR h a j.toNatClampNeg) :: r)))
  | .iastore => m_ck (n == 1) (m_1I st fun x r => m_1I r fun j r => m_1R r fun a r => m_ck (!m_ex a && Nat.beq (m_sh K a).1 20 && m_in j (m_sh K a).2) (some (.inl (pc + 1, ls, r, K, m_sI h a j.toNatClampNeg x))))
  | .lastore => m_ck (n == 1) (m_1L st fun x r => m_1I r fun j r => m_1R r fun a r => m_ck (!m_ex a && Nat.beq (m_sh K a).1 21 && m_in j (m_sh K a).2) (some (.inl (pc + 1, ls, r, K, m_sL h a j.toNatClampNeg x))))
  | .bastore => m_ck (n == 1) (m_1I st fun x r => m_1I r fun j r => m_1R r fun a r => m_ck (!m_ex a && m_in j (m_sh K a).2) (match (m_sh K a).1 with
    | 22 => some (.inl (pc + 1, ls, r, K, m_sI h a j.toNatClampNeg (vp_nar .boolean x)))
    | 23 => some (.inl (pc + 1, ls, r, K, m_sI h a j.toNatClampNeg (vp_nar .byte x)))
    | _ => none))
  | .aastore => m_ck (n == 1) (m_1R st fun v r => m_1I r fun j r => m_1R r fun a r => m_ck (!m_ex a && !m_ex v && Nat.beq (m_sh K a).1 24 && m_in j (m_sh K a).2 && Nat.beq (m_sh K v).1 7) (some (.inl (pc + 1, ls, r, K, m_sR h a j.toNatClampNeg v))))
  | .new k => m_ck (n == 3) (m_op (m_fnd (m_cll.getD (m_own M) []) k) fun q => m_ck (Nat.blt q.1 10) (m_mk K h q.1 (m_NN.getD q.1 0) fun o K h => some (.inl (pc + 3, ls, .ref o :: st, K, h))))
  | .newarray t => m_ck (n == 2 && Nat.blt (m_at t) 24) (m_1I st fun x r => m_ck (!(decide (x < 0)) && Nat.ble x.toNatClampNeg 100000) (m_mk K h (m_at t) x.toNatClampNeg fun o K h => some (.inl (pc + 2, ls, .ref o :: r, K, h))))
  | .anewarray k => m_ck (n == 3) (m_op (m_fnd (m_cll.getD (m_own M) []) k) fun q => m_ck (Nat.beq q.1 7) (m_1I st fun x r => m_ck (!(decide (x < 0)) && Nat.ble x.toNatClampNeg 100000) (m_mk K h 24 x.toNatClampNeg fun o K h => some (.inl (pc + 3, ls, .ref o :: r, K, h)))))
  | .invokevirtual k => m_ck (n == 3) (m_op (m_fnd (m_lnk.getD (m_own M) []) k) fun q => m_ck (Nat.beq q.1 0 && Nat.ble q.2.2.1 st.length) (m_1R (st.drop q.2.2.1) fun o r => m_ck (m_rec K o q.2.1) (m_cal q.2.1 (.ref o :: (st.take q.2.2.1).reverse) r)))
  | .invokestatic k => m_ck (n == 3) (m_op (m_fnd (m_lnk.getD (m_own M) []) k) fun q => match q.1 with
    | 1 => m_ck (Nat.ble q.2.2.1 st.length) (m_cal q.2.1 (st.take q.2.2.1).reverse (st.drop q.2.2.1))
    | 4 => m_ck (Nat.ble q.2.2.1 st.length) (m_cal q.2.1 (st.take q.2.2.1).reverse (st.drop q.2.2.1))
    | 6 => m_2I st fun a b r => m_ck (Nat.ble (m_cs r) 8) (nx (pc + 3) ls (.int (if a < b then b else a) :: r))
    | 7 => m_2I st fun a b r => m_ck (Nat.ble (m_cs r) 8) (nx (pc + 3) ls (.int (if b < a then b else a) :: r))
    | _ => none)
  | .invokespecial k => m_ck (n == 3) (m_op (m_fnd (m_lnk.getD (m_own M) []) k) fun q => m_ck (Nat.ble q.2.2.1 st.length) (m_1R (st.drop q.2.2.1) fun o r => match q.1 with
    | 5 => m_ck (Nat.ble (m_cs r) 8 && Nat.beq q.2.2.1 0) (nx (pc + 3) ls r)
    | 2 => m_cal q.2.1 (.ref o :: (st.take q.2.2.1).reverse) r
    | 3 => m_cal q.2.1 (.ref o :: (st.take q.2.2.1).reverse) r
    | _ => none))
  | .ireturn => m_ck (n == 1) (match st, m_rt M with
    | [.int x], some ty => m_ck (decide (narrow ty (.int x) = .int x)) (some (.inr (.inr (some (.int x)))))
    | _, _ => none)
  | .lreturn => m_ck (n == 1 && decide (m_rt M = some .long)) (match st with
    | [.long x] => some (.inr (.inr (some (.long x))))
    | _ => none)
  | .areturn => m_ck (n == 1) (match st, m_rt M with
    | [.ref x], some (.object _) => some (.inr (.inr (some (.ref x))))
    | [.ref x], some (.array _) => some (.inr (.inr (some (.ref x))))
    | _, _ => none)
  | .return_ => m_ck (n == 1 && decide (m_rt M = none)) (match st with
    | [] => some (.inr (.inr none))
    | _ => none)
  | _ => none
def m_run (X : XT) : Nat → Nat → Nat → Nat → LT → List Value → KT → HT → Option (Option Value × KT × HT)
  | 0, _, _, _, _, _, _, _ => none
  | f + 1, d, M, pc, ls, st, K, h =>
    match decode (m_bts M) pc with
    | .error _ => none
    | .ok (i, n) => match m_act X M pc i n ls st K h with
      | none => none
      | some (.inl q) => m_run X f d M q.1 q.2.1 q.2.2.1 q.2.2.2.1 q.2.2.2.2
      | some (.inr (.inr v)) => some (v, K, h)
      | some (.inr (.inl q)) => match d with
        | 0 => none
        | d' + 1 => match m_run X f d' q.1 0 (m_ent (m_ml q.1) q.2.1) [] K h with
          | none => none
          | some r => m_run X f (d' + 1) M (pc + 3) ls (r.1.toList ++ q.2.2) r.2.1 r.2.2
