/-! FROM THE LAW'S ENTRY -/
/-- the leaves of a conjunction, one by one, ahead of a list -/
def l_fa : Cond → List Cond → List Cond
  | .and a b, acc => l_fa a (l_fa b acc)
  | c, acc => c :: acc
theorem l_fa_ok {args : Array Value} {s : State} (T : Cond) : ∀ acc : List Cond, T.before args s = true → (∀ c ∈ acc, c.before args s = true) → ∀ c ∈ l_fa T acc, c.before args s = true := by
  induction T with
  | and a b iha ihb =>
    intro acc h hacc
    rw [Cond.before_and, Bool.and_eq_true] at h
    exact iha _ h.1 (ihb _ h.2 hacc)
  | _ =>
    intro acc h hacc c hc
    rcases List.mem_cons.mp hc with z | z
    · rw [z]; exact h
    · exact hacc c z
def l_fl : List Cond := l_fa (Jvm.Cond.and given_1 narrow_1) []
def l_tms : List (String × Nat × Nat × String) := [("HillLeavers$Tape", 53, 4198, ";()<>=+-*/%"), ("HillLeavers$Reader", 60, 5014, "craft"), ("HillLeavers$Tape", 67, 5038, "craft needs loss man of loaves debt others out demand cost worth back foes raid draw or and not gone days short "), ("HillLeavers$Reader", 126, 5042, "needs"), ("HillLeavers$Reader", 130, 5051, "loss"), ("HillLeavers$Reader", 69, 5052, "man"), ("HillLeavers$Reader", 135, 5057, "of"), ("HillLeavers$Reader", 155, 5062, "loaves"), ("HillLeavers$Reader", 160, 5063, "debt"), ("HillLeavers$Reader", 164, 5064, "others"), ("HillLeavers$Reader", 165, 5065, "out"), ("HillLeavers$Reader", 74, 5066, "demand"), ("HillLeavers$Reader", 176, 5071, "cost"), ("HillLeavers$Reader", 180, 5072, "worth"), ("HillLeavers$Reader", 79, 5073, "back"), ("HillLeavers$Reader", 240, 5090, "gone"), ("HillLeavers$Reader", 242, 5091, "days"), ("HillLeavers$Reader", 244, 5092, "short"), ("HillLeavers$Reader", 202, 5101, "not"), ("HillLeavers$Reader", 219, 5110, "or"), ("HillLeavers$Reader", 221, 5111, "and"), ("HillLeavers$Reader", 223, 5112, "<>="), ("HillLeavers$Reader", 229, 5117, "+-"), ("HillLeavers$Reader", 231, 5118, "*/%"), ("HillLeavers$Reader", 88, 5119, "foes"), ("HillLeavers$Reader", 96, 5120, "raid"), ("HillLeavers$Reader", 100, 5121, "draw"), ("HillLeaversLaw", 43, 4065, "craft "), ("HillLeaversLaw", 53, 4137, "needs "), ("HillLeaversLaw", 58, 4142, "loss "), ("HillLeaversLaw", 60, 4143, ";"), ("HillLeaversLaw", 62, 4144, "man "), ("HillLeaversLaw", 64, 4145, "of "), ("HillLeaversLaw", 66, 4146, "loaves "), ("HillLeaversLaw", 68, 4147, "debt "), ("HillLeaversLaw", 70, 4148, "others "), ("HillLeaversLaw", 72, 4149, "out"), ("HillLeaversLaw", 74, 4150, "demand "), ("HillLeaversLaw", 76, 4151, "cost "), ("HillLeaversLaw", 78, 4152, "worth "), ("HillLeaversLaw", 80, 4153, "back loaves=0 or days>others+3;"), ("HillLeaversLaw", 82, 4154, "back gone<2-short;"), ("HillLeaversLaw", 84, 4155, "back (loaves+gone<debt/4) and not short=3;"), ("HillLeaversLaw", 86, 4156, "foes "), ("HillLeaversLaw", 88, 4157, "raid "), ("HillLeaversLaw", 90, 4158, "draw ")]
def l_tm (i : Nat) : String × Nat × Nat × String := l_tms.getD i ("", 0, 0, "")
def l_st (i : Nat) : Term := .string (l_tm i).1 (l_tm i).2.1
def l_ex (i : Nat) : List Cond := .exactly (l_st i) "java/lang/String" :: .eq (.field (l_st i) "java/lang/String" "coder" "B") (.int 0) :: .arrayOf (.field (l_st i) "java/lang/String" "value" "[B") .byte :: .eq (.length (.field (l_st i) "java/lang/String" "value" "[B")) (.int (Int32.ofNat ((m_txt.map List.length).getD i 0))) :: (List.range ((m_txt.map List.length).getD i 0)).map fun j => .eq (.elem (.field (l_st i) "java/lang/String" "value" "[B") (.int (Int32.ofNat j))) (.int ((m_txt.getD i []).getD j 0))
def l_perm1 : List Nat := [27, 28, 29, 30, 31, 32, 33, 34, 35, 36, 37, 38, 39, 40, 41, 42, 43, 44, 45, 0, 1, 2, 3, 4, 5, 6, 7, 8, 9, 10]
def l_perm2 : List Nat := [11, 12, 13, 14, 15, 16, 17, 18, 19, 20, 21, 22, 23, 24, 25, 26]
theorem l_perm_in : ∀ i, i < 46 → i ∈ l_perm1 ∨ i ∈ l_perm2 := by decide
theorem l_strs1 : (l_fl.drop 20).take 452 = l_perm1.flatMap l_ex := by decide +kernel
theorem l_strs2 : (l_fl.drop 473).take 124 = l_perm2.flatMap l_ex := by decide +kernel
theorem l_four : l_fl[15]? = some (Cond.eq (.static "java/lang/String" "COMPACT_STRINGS" "Z") (.int 1)) := by decide +kernel
theorem l_five : l_fl[16]? = some (Cond.isRef (.static "jdk/internal/util/Preconditions" "SIOOBE_FORMATTER" "Ljava/util/function/BiFunction;")) := by decide +kernel
theorem l_ord0 : (l_fl.drop 5).take 10 = .arrayOf (.static "HillLeavers" "ORDERS" "[I") .int :: .eq (.length (.static "HillLeavers" "ORDERS" "[I")) (.int 8) :: (List.range 8).map fun j => .eq (.elem (.static "HillLeavers" "ORDERS" "[I") (.int (Int32.ofNat j))) (.int (m_ord.getD j 0)) := by decide +kernel
theorem l_str_in {i : Nat} (hi : i < 46) : ∀ c ∈ l_ex i, c ∈ l_fl := by
  intro c hc
  rcases l_perm_in i hi with z | z
  · have h1 : c ∈ (l_fl.drop 20).take 452 := by
      rw [l_strs1]
      exact List.mem_flatMap.mpr ⟨i, z, hc⟩
    exact List.mem_of_mem_drop (List.mem_of_mem_take h1)
  · have h1 : c ∈ (l_fl.drop 473).take 124 := by
      rw [l_strs2]
      exact List.mem_flatMap.mpr ⟨i, z, hc⟩
    exact List.mem_of_mem_drop (List.mem_of_mem_take h1)
theorem l_ord_in : ∀ c ∈ (Cond.arrayOf (.static "HillLeavers" "ORDERS" "[I") .int :: .eq (.length (.static "HillLeavers" "ORDERS" "[I")) (.int 8) :: (List.range 8).map fun j => .eq (.elem (.static "HillLeavers" "ORDERS" "[I") (.int (Int32.ofNat j))) (.int (m_ord.getD j 0))), c ∈ l_fl := by
  intro c hc
  rw [← l_ord0] at hc
  exact List.mem_of_mem_drop (List.mem_of_mem_take hc)
theorem l_links : ∀ c, c < 20 → ∀ q ∈ m_str.getD c [], q.2 < 46 ∧ (l_tm q.2).1 = m_cn c ∧ (l_tm q.2).2.1 = q.1 := by decide +kernel
theorem l_srw : ∀ i, i < 46 → s_wd (l_tm i).2.2.1 = some (Cond.stringRef (l_tm i).1 (l_tm i).2.1 (l_tm i).2.2.2) := by decide +kernel
theorem l_ls1 : s_wd 3122 = some (Cond.laysStatic "HillLeavers" "ORDERS" "[I") := by decide +kernel
theorem l_ls2 : s_wd 4078 = some (Cond.laysStatic "java/lang/String" "COMPACT_STRINGS" "Z") := by decide +kernel
theorem l_ls3 : s_wd 4094 = some (Cond.laysStatic "jdk/internal/util/Preconditions" "SIOOBE_FORMATTER" "Ljava/util/function/BiFunction;") := by decide +kernel
theorem l_in1 : s_wd 1001 = some (Cond.initialized "HillLeavers") := by decide +kernel
theorem l_in2 : s_wd 1011 = some (Cond.initialized "java/lang/String") := by decide +kernel
theorem l_in3 : s_wd 1013 = some (Cond.initialized "jdk/internal/util/Preconditions") := by decide +kernel
theorem l_ao : s_wd 2034 = some (Cond.arrayOver (.object "HillLeavers$State")) := by decide +kernel
/-! THE CLAIM OUT OF ONE WALK OF THE LAW'S BODY. Your part is whole_start (and what it stands on); all else here is the same for every law, but numbers. -/
def R_law : String := "HillLeaversLaw"
def lw_P (b : Addr) (xs : List Int32) (args : Array Value) (s : State) : Prop := args = #[.ref b] ∧ s.IntsAt b xs ∧ xs.length ≤ 260 ∧ (Jvm.Cond.and given_1 narrow_1).before args s = true
def lw_Q (_ : Array Value) (s : State) (o : Outcome) (t : State) : Prop := o = .returned (some (.int 1)) ∧ Framed s o t [] 600000 7302250
def lw_Z (below : List Frame) (a : Array Value) (s : State) : State → Prop := fun t => ∃ o, t.status = .running ∧ Ended t below o ∧ lw_Q a s o t
/-- the law's own end, with 1 on the stack, nothing written that was there before, its room as the claim has it -/
theorem lw_ret {p : Program} {l : Launch} {e : Env} {s : State} {m : MethodId} {below : List Frame} {meth : Method} {c : Code} {b : Nat} (hx : p.tables.exec = Jvm.exec) (hb : c.code = code) (hr : meth.sig.returnType = ret) (hlocks : meth.locks = false) {pc : Nat} {H : Heap} {ls : Array Slot} (hdg : decode code pc = .ok (.ireturn, 1)) : W p l e room_1 s m #[Value.ref b] below meth c H [] 600000 7302250 (lw_Z below #[Value.ref b] s) (F0 m pc ls [.int 1]) := by
  intro T hT X
  obtain ⟨fs, hret, hrun, hended, hW, hframe⟩ := X.leave (v := some (.int 1)) (hlocks := hlocks) (fun h => by rw [hr] at h; cases h)
  have hmeth' : T.vm.method? m = some meth := X.method'
  refine ⟨T.setFrames fs, ?_, .returned (some (.int 1)), hrun, hended, rfl, ⟨_, rfl⟩, hW, hframe⟩
  jvm_step X.here [X.here.top, hx, hb, hdg, hmeth', hr, ret, narrow_b1]
  (try refine ⟨rfl, ?_⟩); (try refine ⟨rfl, ?_⟩)
  first | (intro acts; rw [hret _ acts rfl rfl rfl]) | rw [hret _ _ rfl rfl rfl]
  exact Steps.refl _
/-- what holds at the law's entry: the machine, the code, the tables' words (any of lw_tbl by 'hts w (by decide +kernel)'), the script of L ints xs at the cell b, what the Statement gives of the start (any of its parts by flat_of_before) -/
def lw_At (p : Program) (s : State) (m : MethodId) (meth : Method) (c : Code) (b L : Nat) (xs : Nat → Int32) : Prop :=
  p.tables.exec = Jvm.exec ∧ c.code = code ∧ meth.sig.returnType = ret ∧ c.maxLocals = 23 ∧ s.vm.findClass R_law = some m.cls ∧ (∀ w ∈ lw_tbl, w.before #[Value.ref b] s = true) ∧ va_X b L xs s s.heap ∧ b < s.heap.size ∧ meth.locks = false ∧ (Jvm.Cond.and given_1 narrow_1).before #[Value.ref b] s = true
theorem l_str_world {s : State} {args : Array Value} {A : Nat → Prop} (hA : ∀ a : Nat, a < s.heap.size → ¬ A a) (hfl : ∀ c ∈ l_fl, c.before args s = true) : ∃ ad : Nat → Nat × Nat, ∀ i, i < 46 → (l_st i).eval args s none [] s = some (.ref (ad i).1) ∧
    va_O "java/lang/String" (ad i).1 A s s.heap ∧ va_OF "java/lang/String" "coder" "B" (.int 0) (ad i).1 A s s.heap ∧ va_OF "java/lang/String" "value" "[B" (.ref (ad i).2) (ad i).1 A s s.heap ∧ va_T .byte (ad i).2 ((m_txt.map List.length).getD i 0) (fun j => .int ((m_txt.getD i []).getD j 0)) A s s.heap := by
  have h0 : ∀ i : Nat, ∃ q : Nat × Nat, i < 46 → (l_st i).eval args s none [] s = some (.ref q.1) ∧ va_O "java/lang/String" q.1 A s s.heap ∧ va_OF "java/lang/String" "coder" "B" (.int 0) q.1 A s s.heap ∧ va_OF "java/lang/String" "value" "[B" (.ref q.2) q.1 A s s.heap ∧ va_T .byte q.2 ((m_txt.map List.length).getD i 0) (fun j => .int ((m_txt.getD i []).getD j 0)) A s s.heap := by
    intro i
    by_cases hi : i < 46
    · have hf := fun c hc => hfl c (l_str_in hi c hc)
      have f1 := hf _ List.mem_cons_self
      have f2 := hf _ (List.mem_cons_of_mem _ List.mem_cons_self)
      have f3 := hf _ (List.mem_cons_of_mem _ (List.mem_cons_of_mem _ List.mem_cons_self))
      have f4 := hf _ (List.mem_cons_of_mem _ (List.mem_cons_of_mem _ (List.mem_cons_of_mem _ List.mem_cons_self)))
      have f5 : ∀ j, j < (m_txt.map List.length).getD i 0 → (Cond.eq (.elem (.field (l_st i) "java/lang/String" "value" "[B") (.int (Int32.ofNat j))) (.int ((m_txt.getD i []).getD j 0))).before args s = true := fun j hj =>
        hf _ (List.mem_cons_of_mem _ (List.mem_cons_of_mem _ (List.mem_cons_of_mem _ (List.mem_cons_of_mem _ (List.mem_map.mpr ⟨j, List.mem_range.mpr hj, rfl⟩)))))
      have hN : (m_txt.map List.length).getD i 0 < 2 ^ 31 := by
        have : ∀ i, i < 46 → (m_txt.map List.length).getD i 0 < 2 ^ 31 := by decide +kernel
        exact this i hi
      obtain ⟨a, c, cA, kA, q1, q2, q3, q4, q5, q6, -⟩ := Cond.exactly_spec (args := args) (first := s) (o := none) (s := s) (idx := []) (t := l_st i) (cls := "java/lang/String") f1
      obtain ⟨t, ht, hT⟩ := va_Tof (f := fun j => .int ((m_txt.getD i []).getD j 0)) (A := A) hN f3 (va_eqt f4) (fun j hj => va_eqt (f5 j hj)) hA
      exact ⟨(a, t), fun _ => ⟨q1, ⟨cA, q3, q5, by rw [q6]; exact q2, hA a (Array.getElem?_eq_some_iff.mp q3).1⟩, vk_OFof q1 (va_eqt f2) hA, vk_OFof q1 ht hA, hT⟩⟩
    · exact ⟨(0, 0), fun h => absurd h hi⟩
  obtain ⟨ad, had⟩ := Classical.axiomOfChoice h0
  exact ⟨ad, had⟩
def h00 : HT := (fun _ _ => 0, fun _ _ => 0, fun _ _ => 0)
theorem l_isref {args : Array Value} {s : State} {t : Term} (h : (Cond.isRef t).before args s = true) : t.eval args s none [] s = some .null ∨ ∃ a, t.eval args s none [] s = some (.ref a) := by
  simp only [Cond.before, Cond.holds, Cond.value] at h
  cases hv : t.eval args s none [] s with
  | none => simp [hv] at h
  | some v => cases v <;> first | exact Or.inl rfl | exact Or.inr ⟨_, rfl⟩ | (simp [hv] at h)
set_option maxHeartbeats 2000000 in
/-- the law ends as the small machine says -/
theorem l_whole (hrun : ∀ X : XT, X.1 ≤ 260 → ∃ f K' h', m_run X f 1000 315 0 (some (.ref 10000) :: List.replicate 22 none) [] [] h00 = some (some (.int 1), K', h') ∧ K'.length ≤ 600000 ∧ m_sl K' ≤ 7302250)
    {p : Program} {e : Env} {s : State} {m : MethodId} {below : List Frame} {meth : Method} {c : Code} (l : Launch) {b L : Nat} {xs : Nat → Int32} (hL : L ≤ 260) (C0 : lw_At p s m meth c b L xs) : W p l e room_1 s m #[Value.ref b] below meth c s.heap [] 0 0 (lw_Z below #[Value.ref b] s) (entryFrame m ([Value.ref b] : List Value).toArray 23) := by
  obtain ⟨hx, hb, hr, hml, hown, hts0, hX, hbl, hlocks, hgv⟩ := C0
  have hA : ∀ a : Nat, a < s.heap.size → ¬ s_A s.heap.size a := fun a h z => Nat.not_le.mpr h z
  have hfl : ∀ c ∈ l_fl, c.before #[Value.ref b] s = true := l_fa_ok _ [] hgv (fun c h => absurd h List.not_mem_nil)
  have hts : ∀ w ∈ s_TB, w.before #[Value.ref b] s = true := fun w hw => hts0 w (List.mem_filter.mp hw).1
  obtain ⟨ad0, had0⟩ := l_str_world (s := s) (args := #[Value.ref b]) hA hfl
  have o1 := hfl _ (l_ord_in _ List.mem_cons_self)
  have o2 := hfl _ (l_ord_in _ (List.mem_cons_of_mem _ List.mem_cons_self))
  have o3 : ∀ j, j < 8 → (Cond.eq (.elem (.static "HillLeavers" "ORDERS" "[I") (.int (Int32.ofNat j))) (.int (m_ord.getD j 0))).before #[Value.ref b] s = true := fun j hj =>
    hfl _ (l_ord_in _ (List.mem_cons_of_mem _ (List.mem_cons_of_mem _ (List.mem_map.mpr ⟨j, List.mem_range.mpr hj, rfl⟩))))
  obtain ⟨tO, htO, hTO⟩ := va_Tof (N := 8) (f := fun j => .int (m_ord.getD j 0)) (A := s_A s.heap.size) (by decide) o1 (va_eqt o2) (fun j hj => va_eqt (o3 j hj)) hA
  have zO := va_Zof (hts0 _ (s_wd_mem l_ls1)) (hts0 _ (s_wd_mem l_in1)) htO hA
  have zC := va_Zof (hts0 _ (s_wd_mem l_ls2)) (hts0 _ (s_wd_mem l_in2)) (va_eqt (hfl _ (List.mem_of_getElem? l_four))) hA
  obtain ⟨tF, tN, htF⟩ : ∃ tF tN : Nat, (Term.static "jdk/internal/util/Preconditions" "SIOOBE_FORMATTER" "Ljava/util/function/BiFunction;").eval #[Value.ref b] s none [] s = some (if tN = 1 then .null else .ref tF) := by
    rcases l_isref (hfl _ (List.mem_of_getElem? l_five)) with z | ⟨a, z⟩
    · exact ⟨0, 1, z⟩
    · exact ⟨a, 0, z⟩
  have zF := va_Zof (hts0 _ (s_wd_mem l_ls3)) (hts0 _ (s_wd_mem l_in3)) htF hA
  let ad : Nat → Nat := fun k => if k < 10000 then s.heap.size + (k - 1) else if k = 10000 then b else if k = 10001 then tO else if k = 10002 then tF else if k = 10003 then tN else if k < 10070 then (ad0 (k - 10010)).1 else (ad0 (k - 10070)).2
  have a0 : ad 10000 = b := rfl
  have a1 : ad 10001 = tO := rfl
  have a2 : ad 10002 = tF := rfl
  have a5 : ad 10003 = tN := rfl
  have a3 : ∀ i, i < 46 → ad (10010 + i) = (ad0 i).1 := fun i hi => by
    show (if 10010 + i < 10000 then _ else _) = _
    rw [if_neg (by omega), if_neg (by omega), if_neg (by omega), if_neg (by omega), if_neg (by omega), if_pos (by omega), Nat.add_sub_cancel_left]
  have a4 : ∀ i, i < 46 → ad (10070 + i) = (ad0 i).2 := fun i hi => by
    show (if 10070 + i < 10000 then _ else _) = _
    rw [if_neg (by omega), if_neg (by omega), if_neg (by omega), if_neg (by omega), if_neg (by omega), if_neg (by omega), Nat.add_sub_cancel_left]
  have had : s_ad ad s.heap.size := fun k hk => by
    show (if k + 1 < 10000 then _ else _) = _
    rw [if_pos (by omega)]
    rfl
  generalize ad = ad at a0 a1 a2 a3 a4 a5 had
  -- classes
  have hcl : ∀ ci : Nat, ∃ q : ClassId × (Nat → Nat), ci < 10 → u_Kn s (m_cn ci) (mT ci) (m_NN.getD ci 0) q.1 q.2 := by
    intro ci
    by_cases hc : ci < 10
    · obtain ⟨cC, iS, h⟩ := u_known (T := mT ci) hts (s_layin hc) (hts0 _ (s_wd_mem (k_cw ci hc).1))
      exact ⟨(cC, iS), fun _ => h⟩
    · exact ⟨(0, fun _ => 0), fun h => absurd h hc⟩
  obtain ⟨kc, hkc⟩ := Classical.axiomOfChoice hcl
  have harr : ∀ t : Nat, ∃ cA : ClassId, 20 ≤ t → t < 25 → ArrOfT s cA (s_ty t) ∧ va_RA s cA (s_ty t) := by
    intro t
    have prim : ∀ ty : FieldType, (∀ C, ty ≠ .object C) → (Cond.arrayClass ty).before #[Value.ref b] s = true → ∃ cA : ClassId, ArrOfT s cA ty ∧ va_RA s cA ty := by
      intro ty hty hw
      obtain ⟨c1, k1, comp, y1, y2, y3⟩ := Cond.arrayClass_spec (args := #[Value.ref b]) (first := s) (o := none) (s := s) (idx := []) hw
      refine ⟨c1, fun n z => ⟨(fun k h => by cases h), k1, y2, comp, y3⟩, ?_⟩
      cases ty <;> first | exact y1 | exact absurd rfl (hty _)
    by_cases h0 : t = 20
    · subst h0
      obtain ⟨cA, h⟩ := prim .int (fun _ => by simp) (hts0 _ (s_wd_mem k_arr_20))
      exact ⟨cA, fun _ _ => h⟩
    by_cases h1 : t = 21
    · subst h1
      obtain ⟨cA, h⟩ := prim .long (fun _ => by simp) (hts0 _ (s_wd_mem k_arr_21))
      exact ⟨cA, fun _ _ => h⟩
    by_cases h2 : t = 22
    · subst h2
      obtain ⟨cA, h⟩ := prim .boolean (fun _ => by simp) (hts0 _ (s_wd_mem k_arr_22))
      exact ⟨cA, fun _ _ => h⟩
    by_cases h3 : t = 23
    · subst h3
      obtain ⟨cA, h⟩ := prim .byte (fun _ => by simp) (hts0 _ (s_wd_mem k_arr_23))
      exact ⟨cA, fun _ _ => h⟩
    by_cases h4 : t = 24
    · subst h4
      obtain ⟨comp, c1, k1, y1, y2, y3, y4, y5⟩ := Cond.arrayOver_spec (args := #[Value.ref b]) (first := s) (o := none) (s := s) (idx := []) (hts0 _ (s_wd_mem l_ao))
      exact ⟨c1, fun _ _ => ⟨fun n z => ⟨(fun k h => by cases h), k1, y3, comp, y4⟩, k1, comp, y3, y4, y1, y5⟩⟩
    · exact ⟨0, fun _ _ => by omega⟩
  obtain ⟨cA, hcA⟩ := Classical.axiomOfChoice harr
  have hV : s_V (fun ci => (kc ci).1) (fun ci => (kc ci).2) cA ad s := by
    refine ⟨⟨?_, ?_⟩, ?_, va_AO.of (hts0 _ (s_wd_mem l_ao)), ?_⟩
    · intro ci q hq
      unfold m_classes at hq
      rw [List.getElem?_map] at hq
      by_cases hc : ci < 10
      · rw [List.getElem?_range hc] at hq
        cases hq
        exact hkc ci hc
      · rw [List.getElem?_eq_none (by simpa using hc)] at hq
        cases hq
    · intro k q hq
      unfold s_tys at hq
      rw [List.getElem?_map] at hq
      by_cases hk : k < 5
      · rw [List.getElem?_range hk] at hq
        cases hq
        exact hcA (20 + k) (by omega) (by omega)
      · rw [List.getElem?_eq_none (by simpa using hk)] at hq
        cases hq
    · intro w hw
      have hm := (List.mem_filter.mp hw).1
      have h2 := (List.mem_filter.mp hw).2
      have hb2 : w.before #[Value.ref b] s = true := hts0 w (List.mem_append_right _ hm)
      split at h2
      · exact va_Nw.of rfl hb2
      · cases h2
    · intro ci hc q hq
      obtain ⟨r1, r2, r3⟩ := l_links ci hc q hq
      have hsr := hts0 _ (s_wd_mem (l_srw q.2 r1))
      have hev := (had0 q.2 r1).1
      unfold l_st at hev
      rw [r2, r3] at hsr hev
      rw [a3 q.2 r1]
      exact ⟨_, vk_R.of hsr hev⟩
  have hE : s_E ad s.heap.size (L, xs) s := by
    refine ⟨by rw [a0]; exact hX, by rw [a0]; exact hbl, by show L < 2 ^ 31; omega, by rw [a1]; exact zO, by rw [a1]; exact hTO, zC, by unfold s_fv; rw [a2, a5]; exact zF, fun i hi => ?_⟩
    rw [a3 i hi, a4 i hi]
    exact (had0 i hi).2
  obtain ⟨f, K', h', hrun, hb1, hb2⟩ := hrun (L, xs) hL
  have F : s_F (fun ci => (kc ci).1) (fun ci => (kc ci).2) cA ad s.heap.size (L, xs) 315 1000 0 p room_1 s m #[Value.ref b] meth c :=
    ⟨hx, hb, hml, hown, hts, hV, hE, fun z => absurd z (by decide +kernel), had, rfl, Nat.le_of_ble_eq_true rfl, Nat.le_of_ble_eq_true rfl⟩
  have hl := lv_entry ([.ref b]) (n := 23) (Nat.le_of_ble_eq_true rfl)
  rw [lg_entry_eq]
  generalize (lg_sl ([.ref b]) ++ List.replicate (23 - (lg_sl ([.ref b])).length) Slot.unset).toArray = lsx at hl ⊢
  have hl2 : lv_has lsx (m_ml 315) (s_prs ad (some (.ref 10000) :: List.replicate 22 none)) := by
    refine s_has_mono hl (fun q hq => ?_)
    obtain ⟨w, g1, g2⟩ := s_prs_mem.mp hq
    obtain ⟨q1, q2⟩ := q
    dsimp only at g1 g2
    match q1 with
    | 0 =>
      rw [List.getElem?_cons_zero] at g1
      cases g1
      rw [g2]
      show (0, s_con ad (.ref 10000)) ∈ _
      rw [s_con_ref ad (by omega), a0]
      exact List.mem_cons_self
    | q1 + 1 =>
      rw [List.getElem?_cons_succ, List.getElem?_replicate] at g1
      split at g1
      · cases g1
      · cases g1
  refine s_sound (X := (L, xs)) (base := s.heap.size) had l f 1000 315 0 _ [] [] h00 _ K' h' hrun p e room_1 s m #[Value.ref b] below meth c _ 0 0 F hb1 hb2 ?_ s.heap [] 0 0 lsx ?_ va_S.rf hl2 rfl rfl
  · intro pc' ls' st' hret H locs cells slots lsx' hH' hS' hl' hc' hs'
    rcases hret with ⟨hz, -⟩ | ⟨x, ty, hz, rfl, hd, hr2, hn⟩ | ⟨x, hz, -⟩ | ⟨x, C, hz, -⟩
    · cases hz
    · cases hz
      refine va_forget (fun q hq => hS'.2.2 q hq) ?_
      refine W.widen (k := 600000) (n := 7302250) (by omega) (by omega) ?_
      exact lw_ret hx hb hr hlocks hd
    · cases hz
    · cases hz
  · refine ⟨fun k q hq => ?_, by show 0 ≤ 9000; omega, fun k hk => absurd hk (Nat.not_lt_zero k), fun k hk => absurd hk (Nat.not_lt_zero k)⟩
    have := (List.getElem?_eq_some_iff.mp hq).1
    rw [s_ws_len] at this
    exact absurd this (Nat.not_lt_zero k)
