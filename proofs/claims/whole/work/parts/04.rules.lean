/-! the judgement: from the frame at pc (locals ls, stack st, both abstract) over the abstract heap A the method comes to an end that 'post' allows -/
def mj_ex (C : Nat) : String := match C with
  | 0 => "java/lang/IllegalArgumentException"
  | _ => "java/lang/IndexOutOfBoundsException"
def mj_Ext (ad ad0 : Nat → Nat) (n0 n1 : Nat) : Prop := ∀ k, (k < n0 ∨ n1 ≤ k) → ad k = ad0 k
def mj_Hp (D : va_G) (F : Nat → Prop) (ad : Nat → Nat) (cy : Nat → ClassId) (A : List mj_C) (U : State) (H : Heap) : Prop :=
  va_P D mj_cl (mj_W ad cy A) H ∧ va_D F (mj_W ad cy A) ∧ va_K D mj_cl [] U ∧ (∀ (k : Nat) (q : Nat × vp_A), A[k]? = some (.inl q) → ArrOfT U (cy k) (mj_ty q.1) ∧ va_RA U (cy k) (mj_ty q.1)) ∧ (∀ (k : Nat) (c : mj_C), A[k]? = some c → mj_rf A.length c)
/-- a static of Throwable's that holds a reference or null, in a cell that is never written -/
def mj_st (n d : String) (F : Nat → Prop) (s : State) (H : Heap) : Prop := ∃ (c i a : Nat) (k : Class) (f : Field) (cell : Cell) (v : Value), s.vm.findClass Bundle.tN = some c ∧ s.fieldFound? Bundle.tN n d = some (c, k, i, f) ∧ f.isStatic = true ∧ k.statics = some a ∧ H[a]? = some cell ∧ cell.vm.isStatics = true ∧ cell.cls = c ∧ f.slot < cell.slots.size ∧ k.staticTypes[f.slot]? = some f.type ∧ cell.slots[f.slot]? = some v ∧ v.isRef = true ∧ ¬ F a
theorem mj_st_moved {n d : String} {F F' : Nat → Prop} {s U : State} {H H1 : Heap} (h : mj_st n d F s H) (hal : s.vm.Alike U.vm) (hq : ∀ a : Nat, a < H.size → ¬ F a → H1[a]? = H[a]?) (hF : ∀ q, F' q → F q) : mj_st n d F' U H1 := by
  obtain ⟨c, i, a, k, f, cell, v, h1, h2, h3, h4, h5, h6, h7, h8, h9, h10, h11, h12⟩ := h
  obtain ⟨k', hi', he⟩ := State.fieldFound?_setVm hal h2
  exact ⟨c, i, a, k', f, cell, v, by rw [hal.findClass]; exact h1, hi', h3, by rw [he]; exact h4, (hq a (Array.getElem?_eq_some_iff.mp h5).1 h12).trans h5, h6, h7, h8, by rw [he]; exact h9, h10, h11, fun h => h12 (hF a h)⟩
theorem mj_st_lays {n d : String} {F : Nat → Prop} {s : State} {args : Array Value} (h : mj_st n d F s s.heap) : (Cond.laysStatic Bundle.tN n d).before args s = true := by
  obtain ⟨c, i, a, k, f, cell, v, h1, h2, h3, h4, h5, h6, h7, h8, h9, -⟩ := h
  exact Cond.laysStatic_of h1 h2 h3 h4 h5 h6 h7 h8 h9
theorem mj_st_ref {n d : String} {F : Nat → Prop} {s : State} {args : Array Value} (h : mj_st n d F s s.heap) : (Cond.isRef (.static Bundle.tN n d)).before args s = true := by
  obtain ⟨c, i, a, k, f, cell, v, h1, h2, h3, h4, h5, h6, h7, h8, h9, h10, h11, -⟩ := h
  have e := Term.static_eval (args := args) (first := s) (o := none) (idx := []) h2 h3 h4 h5 h6 h10
  cases v <;> simp_all [Cond.before, Cond.holds, Cond.value, Value.isRef]
theorem mj_st_of {n d : String} {F : Nat → Prop} {s : State} {args : Array Value} (hl : (Cond.laysStatic Bundle.tN n d).before args s = true) (hr : (Cond.isRef (.static Bundle.tN n d)).before args s = true) (hF : ∀ a : Nat, a < s.heap.size → ¬ F a) : mj_st n d F s s.heap := by
  obtain ⟨c, k, i, f, a, cell, h1, h2, h3, h4, h5, h6, h7, h8, h9⟩ := Cond.laysStatic_spec hl
  have hv : ∃ v, cell.slots[f.slot]? = some v := ⟨_, Array.getElem?_eq_getElem h8⟩
  obtain ⟨v, hv⟩ := hv
  have e := Term.static_eval (args := args) (first := s) (o := none) (idx := []) h2 h3 h4 h5 h6 hv
  refine ⟨c, i, a, k, f, cell, v, h1, h2, h3, h4, h5, h6, h7, h8, h9, hv, ?_, hF a (Array.getElem?_eq_some_iff.mp h5).1⟩
  cases v <;> simp_all [Cond.before, Cond.holds, Cond.value, Value.isRef]
def mj_X (y : MethodName) (cc : ByteArray) (nL : Nat) (rt : Option FieldType) (hh : List (Nat × Nat × Nat × Nat)) (d : Nat) (p : Program) (e : Env) (R : Room) (s : State) (m : MethodId) (args : Array Value) (meth : Method) (c : Code) (F : Nat → Prop) (nc ns : Nat) : Prop :=
  p.tables.exec = Jvm.exec ∧ e.platform.stackTraces = false ∧ c.code = cc ∧ c.maxLocals = nL ∧ meth.sig.returnType = rt ∧ meth.locks = false ∧ meth.name = y.name ∧ s.vm.findClass y.cls = some m.cls ∧ (∀ w ∈ tw_tbl, w.before args s = true) ∧ c.exceptionTable.toList.map (fun h => (h.startPc, h.endPc, h.handlerPc, h.catchType)) = hh ∧
  (R.frames = d ∧ 41 * d ≤ R.locals ∧ R.cells + nc = 601024 ∧ R.slots + ns = 7293034) ∧ (∀ q, s.heap.size ≤ q → F q) ∧ (∀ (q : Nat) (cell : Cell), F q → s.heap[q]? = some cell → cell.vm.isStatics = false) ∧
  mj_st "UNASSIGNED_STACK" Bundle.steD F s s.heap ∧ mj_st "SUPPRESSED_SENTINEL" Bundle.listD F s s.heap ∧ va_Nc (mj_ex 1) (mj_ex 0) s
def mj_Z (sc : Option (Nat × (Nat → Int32))) (ad : Nat → Nat) (F : Nat → Prop) (s : State) : Prop := match sc with
  | none => True
  | some q => va_X (ad 1000000) q.1 q.2 s s.heap ∧ ad 1000000 < s.heap.size ∧ ¬ F (ad 1000000)
def mj_out (s : State) (ad : Nat → Nat) (out : mj_O) (o : Outcome) (t : State) : Prop := match out with
  | .inl v => o = .returned (v.map (mj_v ad))
  | .inr C => ∃ (x : Addr) (cell : Cell), o = .threw x ∧ t.heap[x]? = some cell ∧ cell.vm.isStatics = false ∧ s.vm.findClass (mj_ex C) = some cell.cls
def mj_fin (s : State) (F : Nat → Prop) (D : va_G) (ad0 : Nat → Nat) (n0 nc ns : Nat) (post : mj_O → mj_H → Prop) (o : Outcome) (t : State) : Prop :=
  ∃ (out : mj_O) (A' : mj_H) (ad' : Nat → Nat) (cy' : Nat → ClassId) (cells' slots' : Nat) (locs' : List Loc), post out A' ∧ mj_out s ad' out o t ∧ mj_Hp D F ad' cy' A'.1 s t.heap ∧ mj_Ext ad' ad0 n0 A'.1.length ∧ n0 ≤ A'.1.length ∧
    va_S F s.heap t.heap locs' ∧ (A'.2.1 = nc + cells' ∧ A'.2.1 ≤ 601024) ∧ (A'.2.2 = ns + slots' ∧ A'.2.2 ≤ 7293034) ∧ s.WarmedH t.vm ∧ s.sameButNew ({ t with vm := s.vm } : State) locs' cells' slots'
def mj_end (below : List Frame) (s : State) (F : Nat → Prop) (D : va_G) (ad0 : Nat → Nat) (n0 nc ns : Nat) (post : mj_O → mj_H → Prop) : State → Prop := fun t =>
  ∃ o : Outcome, t.status = .running ∧ Ended t below o ∧ mj_fin s F D ad0 n0 nc ns post o t
def mj_ls (ad : Nat → Nat) (ls : List (Nat × Value)) : List (Nat × Value) := ls.map (fun q => (q.1, mj_v ad q.2))
def mj_G (y : MethodName) (cc : ByteArray) (nL : Nat) (rt : Option FieldType) (hh : List (Nat × Nat × Nat × Nat)) (d : Nat) (sc : Option (Nat × (Nat → Int32))) (pc : Nat) (ls : List (Nat × Value)) (st : List Value) (A : mj_H) (post : mj_O → mj_H → Prop) : Prop :=
  ∀ (p : Program) (l : Launch) (e : Env) (R : Room) (s : State) (m : MethodId) (args : Array Value) (below : List Frame) (meth : Method) (c : Code) (H : Heap) (locs : List Loc) (cells slots : Nat) (F : Nat → Prop) (nc ns : Nat) (D : va_G) (ad ad0 : Nat → Nat) (cy : Nat → ClassId) (n0 : Nat) (lsC : Array Slot),
    mj_X y cc nL rt hh d p e R s m args meth c F nc ns → mj_Z sc ad F s → mj_Hp D F ad cy A.1 s H → mj_Ext ad ad0 n0 A.1.length → n0 ≤ A.1.length → va_S F s.heap H locs → (A.2.1 = nc + cells ∧ A.2.1 ≤ 601024) → (A.2.2 = ns + slots ∧ A.2.2 ≤ 7293034) → lv_has lsC nL (mj_ls ad ls) →
    W p l e R s m args below meth c H locs cells slots (mj_end below s F D ad0 n0 nc ns post) (F0 m pc lsC (st.map (mj_v ad)))
theorem mj_cat (ad : Nat → Nat) (v : Value) : (mj_v ad v).category = v.category := by cases v <;> rfl
theorem mj_ls_at {ad : Nat → Nat} {ls : List (Nat × Value)} {j i : Nat} {v : Value} (h : ls[j]? = some (i, v)) : (mj_ls ad ls)[j]? = some (i, mj_v ad v) := by simp [mj_ls, h]
theorem mj_ls_f {ad : Nat → Nat} {ls : List (Nat × Value)} (f : Nat → Nat → Bool) : (mj_ls ad ls).filter (fun q => f q.1 q.2.category) = mj_ls ad (ls.filter (fun q => f q.1 q.2.category)) := by
  unfold mj_ls
  rw [List.filter_map]
  congr 1
  apply List.filter_congr
  intro q _
  show f q.1 (mj_v ad q.2).category = f q.1 q.2.category
  rw [mj_cat]
section GR
variable {y : MethodName} {cc : ByteArray} {nL : Nat} {rt : Option FieldType} {hh : List (Nat × Nat × Nat × Nat)} {d : Nat} {sc : Option (Nat × (Nat → Int32))} {pc : Nat} {ls : List (Nat × Value)} {st : List Value} {A : mj_H} {post : mj_O → mj_H → Prop}

theorem G_iadd {x z : Int32} (hd : decode cc pc = .ok (.iadd, 1)) (k : mj_G y cc nL rt hh d sc (pc + 1) ls (.int (x + z) :: st) A post) : mj_G y cc nL rt hh d sc pc ls (.int z :: .int x :: st) A post := by
  intro p l e R s m args below meth c H locs cells slots F nc ns D ad ad0 cy n0 lsC hX hZ hH hE hn hS hc hs hl
  exact lv_iadd hX.1 hX.2.2.1 hd (k _ _ _ _ _ _ _ _ _ _ _ _ _ _ _ _ _ _ _ _ _ _ _ hX hZ hH hE hn hS hc hs hl)

theorem G_isub {x z : Int32} (hd : decode cc pc = .ok (.isub, 1)) (k : mj_G y cc nL rt hh d sc (pc + 1) ls (.int (x - z) :: st) A post) : mj_G y cc nL rt hh d sc pc ls (.int z :: .int x :: st) A post := by
  intro p l e R s m args below meth c H locs cells slots F nc ns D ad ad0 cy n0 lsC hX hZ hH hE hn hS hc hs hl
  exact lv_isub hX.1 hX.2.2.1 hd (k _ _ _ _ _ _ _ _ _ _ _ _ _ _ _ _ _ _ _ _ _ _ _ hX hZ hH hE hn hS hc hs hl)

theorem G_imul {x z : Int32} (hd : decode cc pc = .ok (.imul, 1)) (k : mj_G y cc nL rt hh d sc (pc + 1) ls (.int (x * z) :: st) A post) : mj_G y cc nL rt hh d sc pc ls (.int z :: .int x :: st) A post := by
  intro p l e R s m args below meth c H locs cells slots F nc ns D ad ad0 cy n0 lsC hX hZ hH hE hn hS hc hs hl
  exact lv_imul hX.1 hX.2.2.1 hd (k _ _ _ _ _ _ _ _ _ _ _ _ _ _ _ _ _ _ _ _ _ _ _ hX hZ hH hE hn hS hc hs hl)

theorem G_iand {x z : Int32} (hd : decode cc pc = .ok (.iand, 1)) (k : mj_G y cc nL rt hh d sc (pc + 1) ls (.int (x &&& z) :: st) A post) : mj_G y cc nL rt hh d sc pc ls (.int z :: .int x :: st) A post := by
  intro p l e R s m args below meth c H locs cells slots F nc ns D ad ad0 cy n0 lsC hX hZ hH hE hn hS hc hs hl
  exact lv_iand hX.1 hX.2.2.1 hd (k _ _ _ _ _ _ _ _ _ _ _ _ _ _ _ _ _ _ _ _ _ _ _ hX hZ hH hE hn hS hc hs hl)

theorem G_ior {x z : Int32} (hd : decode cc pc = .ok (.ior, 1)) (k : mj_G y cc nL rt hh d sc (pc + 1) ls (.int (x ||| z) :: st) A post) : mj_G y cc nL rt hh d sc pc ls (.int z :: .int x :: st) A post := by
  intro p l e R s m args below meth c H locs cells slots F nc ns D ad ad0 cy n0 lsC hX hZ hH hE hn hS hc hs hl
  exact lv_ior hX.1 hX.2.2.1 hd (k _ _ _ _ _ _ _ _ _ _ _ _ _ _ _ _ _ _ _ _ _ _ _ hX hZ hH hE hn hS hc hs hl)

theorem G_ixor {x z : Int32} (hd : decode cc pc = .ok (.ixor, 1)) (k : mj_G y cc nL rt hh d sc (pc + 1) ls (.int (x ^^^ z) :: st) A post) : mj_G y cc nL rt hh d sc pc ls (.int z :: .int x :: st) A post := by
  intro p l e R s m args below meth c H locs cells slots F nc ns D ad ad0 cy n0 lsC hX hZ hH hE hn hS hc hs hl
  exact lv_ixor hX.1 hX.2.2.1 hd (k _ _ _ _ _ _ _ _ _ _ _ _ _ _ _ _ _ _ _ _ _ _ _ hX hZ hH hE hn hS hc hs hl)

theorem G_ishl {x z : Int32} (hd : decode cc pc = .ok (.ishl, 1)) (k : mj_G y cc nL rt hh d sc (pc + 1) ls (.int (x <<< (z &&& 31)) :: st) A post) : mj_G y cc nL rt hh d sc pc ls (.int z :: .int x :: st) A post := by
  intro p l e R s m args below meth c H locs cells slots F nc ns D ad ad0 cy n0 lsC hX hZ hH hE hn hS hc hs hl
  exact lv_ishl hX.1 hX.2.2.1 hd (k _ _ _ _ _ _ _ _ _ _ _ _ _ _ _ _ _ _ _ _ _ _ _ hX hZ hH hE hn hS hc hs hl)

theorem G_ishr {x z : Int32} (hd : decode cc pc = .ok (.ishr, 1)) (k : mj_G y cc nL rt hh d sc (pc + 1) ls (.int (x >>> (z &&& 31)) :: st) A post) : mj_G y cc nL rt hh d sc pc ls (.int z :: .int x :: st) A post := by
  intro p l e R s m args below meth c H locs cells slots F nc ns D ad ad0 cy n0 lsC hX hZ hH hE hn hS hc hs hl
  exact lv_ishr hX.1 hX.2.2.1 hd (k _ _ _ _ _ _ _ _ _ _ _ _ _ _ _ _ _ _ _ _ _ _ _ hX hZ hH hE hn hS hc hs hl)

theorem G_ladd {x z : Int64} (hd : decode cc pc = .ok (.ladd, 1)) (k : mj_G y cc nL rt hh d sc (pc + 1) ls (.long (x + z) :: st) A post) : mj_G y cc nL rt hh d sc pc ls (.long z :: .long x :: st) A post := by
  intro p l e R s m args below meth c H locs cells slots F nc ns D ad ad0 cy n0 lsC hX hZ hH hE hn hS hc hs hl
  exact lv_ladd hX.1 hX.2.2.1 hd (k _ _ _ _ _ _ _ _ _ _ _ _ _ _ _ _ _ _ _ _ _ _ _ hX hZ hH hE hn hS hc hs hl)

theorem G_lsub {x z : Int64} (hd : decode cc pc = .ok (.lsub, 1)) (k : mj_G y cc nL rt hh d sc (pc + 1) ls (.long (x - z) :: st) A post) : mj_G y cc nL rt hh d sc pc ls (.long z :: .long x :: st) A post := by
  intro p l e R s m args below meth c H locs cells slots F nc ns D ad ad0 cy n0 lsC hX hZ hH hE hn hS hc hs hl
  exact lv_lsub hX.1 hX.2.2.1 hd (k _ _ _ _ _ _ _ _ _ _ _ _ _ _ _ _ _ _ _ _ _ _ _ hX hZ hH hE hn hS hc hs hl)

theorem G_land {x z : Int64} (hd : decode cc pc = .ok (.land, 1)) (k : mj_G y cc nL rt hh d sc (pc + 1) ls (.long (x &&& z) :: st) A post) : mj_G y cc nL rt hh d sc pc ls (.long z :: .long x :: st) A post := by
  intro p l e R s m args below meth c H locs cells slots F nc ns D ad ad0 cy n0 lsC hX hZ hH hE hn hS hc hs hl
  exact lv_land hX.1 hX.2.2.1 hd (k _ _ _ _ _ _ _ _ _ _ _ _ _ _ _ _ _ _ _ _ _ _ _ hX hZ hH hE hn hS hc hs hl)

theorem G_lor {x z : Int64} (hd : decode cc pc = .ok (.lor, 1)) (k : mj_G y cc nL rt hh d sc (pc + 1) ls (.long (x ||| z) :: st) A post) : mj_G y cc nL rt hh d sc pc ls (.long z :: .long x :: st) A post := by
  intro p l e R s m args below meth c H locs cells slots F nc ns D ad ad0 cy n0 lsC hX hZ hH hE hn hS hc hs hl
  exact lv_lor hX.1 hX.2.2.1 hd (k _ _ _ _ _ _ _ _ _ _ _ _ _ _ _ _ _ _ _ _ _ _ _ hX hZ hH hE hn hS hc hs hl)

theorem G_lxor {x z : Int64} (hd : decode cc pc = .ok (.lxor, 1)) (k : mj_G y cc nL rt hh d sc (pc + 1) ls (.long (x ^^^ z) :: st) A post) : mj_G y cc nL rt hh d sc pc ls (.long z :: .long x :: st) A post := by
  intro p l e R s m args below meth c H locs cells slots F nc ns D ad ad0 cy n0 lsC hX hZ hH hE hn hS hc hs hl
  exact lv_lxor hX.1 hX.2.2.1 hd (k _ _ _ _ _ _ _ _ _ _ _ _ _ _ _ _ _ _ _ _ _ _ _ hX hZ hH hE hn hS hc hs hl)

theorem G_lshl {x : Int64} {z : Int32} (hd : decode cc pc = .ok (.lshl, 1)) (k : mj_G y cc nL rt hh d sc (pc + 1) ls (.long (x <<< (z.toInt64 &&& 63)) :: st) A post) : mj_G y cc nL rt hh d sc pc ls (.int z :: .long x :: st) A post := by
  intro p l e R s m args below meth c H locs cells slots F nc ns D ad ad0 cy n0 lsC hX hZ hH hE hn hS hc hs hl
  exact lv_lshl hX.1 hX.2.2.1 hd rfl (k _ _ _ _ _ _ _ _ _ _ _ _ _ _ _ _ _ _ _ _ _ _ _ hX hZ hH hE hn hS hc hs hl)

theorem G_lshr {x : Int64} {z : Int32} (hd : decode cc pc = .ok (.lshr, 1)) (k : mj_G y cc nL rt hh d sc (pc + 1) ls (.long (x >>> (z.toInt64 &&& 63)) :: st) A post) : mj_G y cc nL rt hh d sc pc ls (.int z :: .long x :: st) A post := by
  intro p l e R s m args below meth c H locs cells slots F nc ns D ad ad0 cy n0 lsC hX hZ hH hE hn hS hc hs hl
  exact lv_lshr hX.1 hX.2.2.1 hd rfl (k _ _ _ _ _ _ _ _ _ _ _ _ _ _ _ _ _ _ _ _ _ _ _ hX hZ hH hE hn hS hc hs hl)

theorem G_lushr {x : Int64} {z : Int32} (hd : decode cc pc = .ok (.lushr, 1)) (k : mj_G y cc nL rt hh d sc (pc + 1) ls (.long ((x.toUInt64 >>> (z.toInt64.toUInt64 &&& Int64.toUInt64 63)).toInt64) :: st) A post) : mj_G y cc nL rt hh d sc pc ls (.int z :: .long x :: st) A post := by
  intro p l e R s m args below meth c H locs cells slots F nc ns D ad ad0 cy n0 lsC hX hZ hH hE hn hS hc hs hl
  exact lv_lushr hX.1 hX.2.2.1 hd rfl (k _ _ _ _ _ _ _ _ _ _ _ _ _ _ _ _ _ _ _ _ _ _ _ hX hZ hH hE hn hS hc hs hl)

theorem G_iushr {x z : Int32} (hd : decode cc pc = .ok (.iushr, 1)) (k : mj_G y cc nL rt hh d sc (pc + 1) ls (.int ((x.toUInt32 >>> (z.toUInt32 &&& Int32.toUInt32 31)).toInt32) :: st) A post) : mj_G y cc nL rt hh d sc pc ls (.int z :: .int x :: st) A post := by
  intro p l e R s m args below meth c H locs cells slots F nc ns D ad ad0 cy n0 lsC hX hZ hH hE hn hS hc hs hl
  exact lv_iushr hX.1 hX.2.2.1 hd rfl (k _ _ _ _ _ _ _ _ _ _ _ _ _ _ _ _ _ _ _ _ _ _ _ hX hZ hH hE hn hS hc hs hl)

theorem G_i2l {x : Int32} (hd : decode cc pc = .ok (.i2l, 1)) (k : mj_G y cc nL rt hh d sc (pc + 1) ls (.long x.toInt64 :: st) A post) : mj_G y cc nL rt hh d sc pc ls (.int x :: st) A post := by
  intro p l e R s m args below meth c H locs cells slots F nc ns D ad ad0 cy n0 lsC hX hZ hH hE hn hS hc hs hl
  exact lv_i2l hX.1 hX.2.2.1 hd rfl (k _ _ _ _ _ _ _ _ _ _ _ _ _ _ _ _ _ _ _ _ _ _ _ hX hZ hH hE hn hS hc hs hl)

theorem G_l2i {x : Int64} (hd : decode cc pc = .ok (.l2i, 1)) (k : mj_G y cc nL rt hh d sc (pc + 1) ls (.int x.toInt32 :: st) A post) : mj_G y cc nL rt hh d sc pc ls (.long x :: st) A post := by
  intro p l e R s m args below meth c H locs cells slots F nc ns D ad ad0 cy n0 lsC hX hZ hH hE hn hS hc hs hl
  exact lv_l2i hX.1 hX.2.2.1 hd rfl (k _ _ _ _ _ _ _ _ _ _ _ _ _ _ _ _ _ _ _ _ _ _ _ hX hZ hH hE hn hS hc hs hl)

theorem G_iconst {n : Int} {v : Int32} (hd : decode cc pc = .ok (.iconst n, 1)) (hv : Int32.ofInt n = v) (k : mj_G y cc nL rt hh d sc (pc + 1) ls (.int v :: st) A post) : mj_G y cc nL rt hh d sc pc ls st A post := by
  intro p l e R s m args below meth c H locs cells slots F nc ns D ad ad0 cy n0 lsC hX hZ hH hE hn hS hc hs hl
  exact lv_iconst hX.1 hX.2.2.1 hd hv (k _ _ _ _ _ _ _ _ _ _ _ _ _ _ _ _ _ _ _ _ _ _ _ hX hZ hH hE hn hS hc hs hl)

theorem G_bipush {n : Int} {v : Int32} (hd : decode cc pc = .ok (.bipush n, 2)) (hv : (Int8.ofInt n).toInt32 = v) (k : mj_G y cc nL rt hh d sc (pc + 2) ls (.int v :: st) A post) : mj_G y cc nL rt hh d sc pc ls st A post := by
  intro p l e R s m args below meth c H locs cells slots F nc ns D ad ad0 cy n0 lsC hX hZ hH hE hn hS hc hs hl
  exact lv_bipush hX.1 hX.2.2.1 hd hv (k _ _ _ _ _ _ _ _ _ _ _ _ _ _ _ _ _ _ _ _ _ _ _ hX hZ hH hE hn hS hc hs hl)

theorem G_sipush {n : Int} {v : Int32} (hd : decode cc pc = .ok (.sipush n, 3)) (hv : (Int16.ofInt n).toInt32 = v) (k : mj_G y cc nL rt hh d sc (pc + 3) ls (.int v :: st) A post) : mj_G y cc nL rt hh d sc pc ls st A post := by
  intro p l e R s m args below meth c H locs cells slots F nc ns D ad ad0 cy n0 lsC hX hZ hH hE hn hS hc hs hl
  exact lv_sipush hX.1 hX.2.2.1 hd hv (k _ _ _ _ _ _ _ _ _ _ _ _ _ _ _ _ _ _ _ _ _ _ _ hX hZ hH hE hn hS hc hs hl)

theorem G_lconst {n : Fin 2} {v : Int64} (hd : decode cc pc = .ok (.lconst n, 1)) (hv : Int64.ofNat (n : Nat) = v) (k : mj_G y cc nL rt hh d sc (pc + 1) ls (.long v :: st) A post) : mj_G y cc nL rt hh d sc pc ls st A post := by
  intro p l e R s m args below meth c H locs cells slots F nc ns D ad ad0 cy n0 lsC hX hZ hH hE hn hS hc hs hl
  exact lv_lconst hX.1 hX.2.2.1 hd hv (k _ _ _ _ _ _ _ _ _ _ _ _ _ _ _ _ _ _ _ _ _ _ _ hX hZ hH hE hn hS hc hs hl)

theorem G_iload (j : Nat) {i : Nat} {x : Int32} (hd : decode cc pc = .ok (.iload i, 2)) (hj : ls[j]? = some (i, .int x)) (k : mj_G y cc nL rt hh d sc (pc + 2) ls (.int x :: st) A post) : mj_G y cc nL rt hh d sc pc ls st A post := by
  intro p l e R s m args below meth c H locs cells slots F nc ns D ad ad0 cy n0 lsC hX hZ hH hE hn hS hc hs hl
  exact lv_iload hX.1 hX.2.2.1 hd (lv_at hl j (mj_ls_at hj)) (k _ _ _ _ _ _ _ _ _ _ _ _ _ _ _ _ _ _ _ _ _ _ _ hX hZ hH hE hn hS hc hs hl)

theorem G_iload_n (j : Nat) {w4 : Fin 4} {x : Int32} (hd : decode cc pc = .ok (.iload_n w4, 1)) (hj : ls[j]? = some ((w4 : Nat), .int x)) (k : mj_G y cc nL rt hh d sc (pc + 1) ls (.int x :: st) A post) : mj_G y cc nL rt hh d sc pc ls st A post := by
  intro p l e R s m args below meth c H locs cells slots F nc ns D ad ad0 cy n0 lsC hX hZ hH hE hn hS hc hs hl
  exact lv_iload_n hX.1 hX.2.2.1 hd rfl (lv_at hl j (mj_ls_at hj)) (k _ _ _ _ _ _ _ _ _ _ _ _ _ _ _ _ _ _ _ _ _ _ _ hX hZ hH hE hn hS hc hs hl)

theorem G_lload (j : Nat) {i : Nat} {x : Int64} (hd : decode cc pc = .ok (.lload i, 2)) (hj : ls[j]? = some (i, .long x)) (k : mj_G y cc nL rt hh d sc (pc + 2) ls (.long x :: st) A post) : mj_G y cc nL rt hh d sc pc ls st A post := by
  intro p l e R s m args below meth c H locs cells slots F nc ns D ad ad0 cy n0 lsC hX hZ hH hE hn hS hc hs hl
  exact lv_lload hX.1 hX.2.2.1 hd (lv_at hl j (mj_ls_at hj)) (k _ _ _ _ _ _ _ _ _ _ _ _ _ _ _ _ _ _ _ _ _ _ _ hX hZ hH hE hn hS hc hs hl)

theorem G_lload_n (j : Nat) {w4 : Fin 4} {x : Int64} (hd : decode cc pc = .ok (.lload_n w4, 1)) (hj : ls[j]? = some ((w4 : Nat), .long x)) (k : mj_G y cc nL rt hh d sc (pc + 1) ls (.long x :: st) A post) : mj_G y cc nL rt hh d sc pc ls st A post := by
  intro p l e R s m args below meth c H locs cells slots F nc ns D ad ad0 cy n0 lsC hX hZ hH hE hn hS hc hs hl
  exact lv_lload_n hX.1 hX.2.2.1 hd rfl (lv_at hl j (mj_ls_at hj)) (k _ _ _ _ _ _ _ _ _ _ _ _ _ _ _ _ _ _ _ _ _ _ _ hX hZ hH hE hn hS hc hs hl)

theorem G_aload (j : Nat) {i : Nat} {x : Nat} (hd : decode cc pc = .ok (.aload i, 2)) (hj : ls[j]? = some (i, .ref x)) (k : mj_G y cc nL rt hh d sc (pc + 2) ls (.ref x :: st) A post) : mj_G y cc nL rt hh d sc pc ls st A post := by
  intro p l e R s m args below meth c H locs cells slots F nc ns D ad ad0 cy n0 lsC hX hZ hH hE hn hS hc hs hl
  exact lv_aload hX.1 hX.2.2.1 hd (lv_at hl j (mj_ls_at hj)) (k _ _ _ _ _ _ _ _ _ _ _ _ _ _ _ _ _ _ _ _ _ _ _ hX hZ hH hE hn hS hc hs hl)

theorem G_aload_n (j : Nat) {w4 : Fin 4} {x : Nat} (hd : decode cc pc = .ok (.aload_n w4, 1)) (hj : ls[j]? = some ((w4 : Nat), .ref x)) (k : mj_G y cc nL rt hh d sc (pc + 1) ls (.ref x :: st) A post) : mj_G y cc nL rt hh d sc pc ls st A post := by
  intro p l e R s m args below meth c H locs cells slots F nc ns D ad ad0 cy n0 lsC hX hZ hH hE hn hS hc hs hl
  exact lv_aload_n hX.1 hX.2.2.1 hd rfl (lv_at hl j (mj_ls_at hj)) (k _ _ _ _ _ _ _ _ _ _ _ _ _ _ _ _ _ _ _ _ _ _ _ hX hZ hH hE hn hS hc hs hl)

theorem G_istore {i : Nat} {x : Int32} {ls' : List (Nat × Value)} (hd : decode cc pc = .ok (.istore i, 2)) (hi : i < nL) (he : (i, Value.int x) :: ls.filter (fun q => !(q.1 == i) && !(q.1 + 1 == i && q.2.category == 2)) = ls') (k : mj_G y cc nL rt hh d sc (pc + 2) ls' st A post) : mj_G y cc nL rt hh d sc pc ls (.int x :: st) A post := by
  intro p l e R s m args below meth c H locs cells slots F nc ns D ad ad0 cy n0 lsC hX hZ hH hE hn hS hc hs hl
  refine lv_istore (lv' := mj_ls ad ls') hX.1 hX.2.2.1 hd hl hi (by rw [← he, mj_ls_f (fun a b => !(a == i) && !(a + 1 == i && b == 2))]; rfl) (fun lsC hl => ?_)
  exact k _ _ _ _ _ _ _ _ _ _ _ _ _ _ _ _ _ _ _ _ _ _ _ hX hZ hH hE hn hS hc hs hl

theorem G_istore_n {w4 : Fin 4} {x : Int32} {ls' : List (Nat × Value)} (hd : decode cc pc = .ok (.istore_n w4, 1)) (hi : (w4 : Nat) < nL) (he : ((w4 : Nat), Value.int x) :: ls.filter (fun q => !(q.1 == (w4 : Nat)) && !(q.1 + 1 == (w4 : Nat) && q.2.category == 2)) = ls') (k : mj_G y cc nL rt hh d sc (pc + 1) ls' st A post) : mj_G y cc nL rt hh d sc pc ls (.int x :: st) A post := by
  intro p l e R s m args below meth c H locs cells slots F nc ns D ad ad0 cy n0 lsC hX hZ hH hE hn hS hc hs hl
  refine lv_istore_n (lv' := mj_ls ad ls') hX.1 hX.2.2.1 hd rfl hl hi (by rw [← he, mj_ls_f (fun a b => !(a == (w4 : Nat)) && !(a + 1 == (w4 : Nat) && b == 2))]; rfl) (fun lsC hl => ?_)
  exact k _ _ _ _ _ _ _ _ _ _ _ _ _ _ _ _ _ _ _ _ _ _ _ hX hZ hH hE hn hS hc hs hl

theorem G_astore {i : Nat} {x : Nat} {ls' : List (Nat × Value)} (hd : decode cc pc = .ok (.astore i, 2)) (hi : i < nL) (he : (i, Value.ref x) :: ls.filter (fun q => !(q.1 == i) && !(q.1 + 1 == i && q.2.category == 2)) = ls') (k : mj_G y cc nL rt hh d sc (pc + 2) ls' st A post) : mj_G y cc nL rt hh d sc pc ls (.ref x :: st) A post := by
  intro p l e R s m args below meth c H locs cells slots F nc ns D ad ad0 cy n0 lsC hX hZ hH hE hn hS hc hs hl
  refine lv_astore (lv' := mj_ls ad ls') hX.1 hX.2.2.1 hd hl hi (by rw [← he, mj_ls_f (fun a b => !(a == i) && !(a + 1 == i && b == 2))]; rfl) (fun lsC hl => ?_)
  exact k _ _ _ _ _ _ _ _ _ _ _ _ _ _ _ _ _ _ _ _ _ _ _ hX hZ hH hE hn hS hc hs hl

theorem G_astore_n {w4 : Fin 4} {x : Nat} {ls' : List (Nat × Value)} (hd : decode cc pc = .ok (.astore_n w4, 1)) (hi : (w4 : Nat) < nL) (he : ((w4 : Nat), Value.ref x) :: ls.filter (fun q => !(q.1 == (w4 : Nat)) && !(q.1 + 1 == (w4 : Nat) && q.2.category == 2)) = ls') (k : mj_G y cc nL rt hh d sc (pc + 1) ls' st A post) : mj_G y cc nL rt hh d sc pc ls (.ref x :: st) A post := by
  intro p l e R s m args below meth c H locs cells slots F nc ns D ad ad0 cy n0 lsC hX hZ hH hE hn hS hc hs hl
  refine lv_astore_n (lv' := mj_ls ad ls') hX.1 hX.2.2.1 hd rfl hl hi (by rw [← he, mj_ls_f (fun a b => !(a == (w4 : Nat)) && !(a + 1 == (w4 : Nat) && b == 2))]; rfl) (fun lsC hl => ?_)
  exact k _ _ _ _ _ _ _ _ _ _ _ _ _ _ _ _ _ _ _ _ _ _ _ hX hZ hH hE hn hS hc hs hl

theorem G_lstore {i : Nat} {x : Int64} {ls' : List (Nat × Value)} (hd : decode cc pc = .ok (.lstore i, 2)) (hi : i + 1 < nL) (he : (i, Value.long x) :: ls.filter (fun q => !(q.1 == i) && (!(q.1 == i + 1) && !(q.1 + 1 == i && q.2.category == 2))) = ls') (k : mj_G y cc nL rt hh d sc (pc + 2) ls' st A post) : mj_G y cc nL rt hh d sc pc ls (.long x :: st) A post := by
  intro p l e R s m args below meth c H locs cells slots F nc ns D ad ad0 cy n0 lsC hX hZ hH hE hn hS hc hs hl
  refine lv_lstore (lv' := mj_ls ad ls') hX.1 hX.2.2.1 hd hl hi (by rw [← he, mj_ls_f (fun a b => !(a == i) && (!(a == i + 1) && !(a + 1 == i && b == 2)))]; rfl) (fun lsC hl => ?_)
  exact k _ _ _ _ _ _ _ _ _ _ _ _ _ _ _ _ _ _ _ _ _ _ _ hX hZ hH hE hn hS hc hs hl

theorem G_lstore_n {w4 : Fin 4} {x : Int64} {ls' : List (Nat × Value)} (hd : decode cc pc = .ok (.lstore_n w4, 1)) (hi : (w4 : Nat) + 1 < nL) (he : ((w4 : Nat), Value.long x) :: ls.filter (fun q => !(q.1 == (w4 : Nat)) && (!(q.1 == (w4 : Nat) + 1) && !(q.1 + 1 == (w4 : Nat) && q.2.category == 2))) = ls') (k : mj_G y cc nL rt hh d sc (pc + 1) ls' st A post) : mj_G y cc nL rt hh d sc pc ls (.long x :: st) A post := by
  intro p l e R s m args below meth c H locs cells slots F nc ns D ad ad0 cy n0 lsC hX hZ hH hE hn hS hc hs hl
  refine lv_lstore_n (lv' := mj_ls ad ls') hX.1 hX.2.2.1 hd rfl hl hi (by rw [← he, mj_ls_f (fun a b => !(a == (w4 : Nat)) && (!(a == (w4 : Nat) + 1) && !(a + 1 == (w4 : Nat) && b == 2)))]; rfl) (fun lsC hl => ?_)
  exact k _ _ _ _ _ _ _ _ _ _ _ _ _ _ _ _ _ _ _ _ _ _ _ hX hZ hH hE hn hS hc hs hl

theorem G_iinc (j : Nat) {i : Nat} {n : Int} {x v : Int32} {ls' : List (Nat × Value)} (hd : decode cc pc = .ok (.iinc i n, 3)) (hj : ls[j]? = some (i, .int x)) (hv : x + Int32.ofInt n = v) (hi : i < nL) (he : (i, Value.int v) :: ls.filter (fun q => !(q.1 == i) && !(q.1 + 1 == i && q.2.category == 2)) = ls') (k : mj_G y cc nL rt hh d sc (pc + 3) ls' st A post) : mj_G y cc nL rt hh d sc pc ls st A post := by
  intro p l e R s m args below meth c H locs cells slots F nc ns D ad ad0 cy n0 lsC hX hZ hH hE hn hS hc hs hl
  refine lv_iinc (v := v) (lv' := mj_ls ad ls') hX.1 hX.2.2.1 hd hl (k := j) (mj_ls_at hj) hv hi (by rw [← he, mj_ls_f (fun a b => !(a == i) && !(a + 1 == i && b == 2))]; rfl) (fun lsC hl => ?_)
  exact k _ _ _ _ _ _ _ _ _ _ _ _ _ _ _ _ _ _ _ _ _ _ _ hX hZ hH hE hn hS hc hs hl

theorem G_sub (js : List Nat) {ls' : List (Nat × Value)} (hp : lv_pick ls js = ls') (k : mj_G y cc nL rt hh d sc pc ls' st A post) : mj_G y cc nL rt hh d sc pc ls st A post := by
  intro p l e R s m args below meth c H locs cells slots F nc ns D ad ad0 cy n0 lsC hX hZ hH hE hn hS hc hs hl
  refine k _ _ _ _ _ _ _ _ _ _ _ _ _ _ _ _ _ _ _ _ _ _ _ hX hZ hH hE hn hS hc hs (lv_sub hl js ?_)
  rw [← hp]
  unfold lv_pick mj_ls
  rw [List.map_filterMap]
  congr 1
  funext k
  simp

theorem G_ifeq (tgt : Nat) {x : Int32} {off : Int} (hd : decode cc pc = .ok (.ifCond .eq off, 3)) (ht : (pc : Int) + off = (tgt : Int)) (kt : x = 0 → mj_G y cc nL rt hh d sc tgt ls st A post) (kf : ¬ x = 0 → mj_G y cc nL rt hh d sc (pc + 3) ls st A post) : mj_G y cc nL rt hh d sc pc ls (.int x :: st) A post := by
  intro p l e R s m args below meth c H locs cells slots F nc ns D ad ad0 cy n0 lsC hX hZ hH hE hn hS hc hs hl
  exact lv_if_eq hX.1 hX.2.2.1 hd ht (fun h => kt h _ _ _ _ _ _ _ _ _ _ _ _ _ _ _ _ _ _ _ _ _ _ _ hX hZ hH hE hn hS hc hs hl) (fun h => kf h _ _ _ _ _ _ _ _ _ _ _ _ _ _ _ _ _ _ _ _ _ _ _ hX hZ hH hE hn hS hc hs hl)

theorem G_ifne (tgt : Nat) {x : Int32} {off : Int} (hd : decode cc pc = .ok (.ifCond .ne off, 3)) (ht : (pc : Int) + off = (tgt : Int)) (kt : ¬ x = 0 → mj_G y cc nL rt hh d sc tgt ls st A post) (kf : x = 0 → mj_G y cc nL rt hh d sc (pc + 3) ls st A post) : mj_G y cc nL rt hh d sc pc ls (.int x :: st) A post := by
  intro p l e R s m args below meth c H locs cells slots F nc ns D ad ad0 cy n0 lsC hX hZ hH hE hn hS hc hs hl
  exact lv_if_ne hX.1 hX.2.2.1 hd ht (fun h => kt h _ _ _ _ _ _ _ _ _ _ _ _ _ _ _ _ _ _ _ _ _ _ _ hX hZ hH hE hn hS hc hs hl) (fun h => kf h _ _ _ _ _ _ _ _ _ _ _ _ _ _ _ _ _ _ _ _ _ _ _ hX hZ hH hE hn hS hc hs hl)

theorem G_iflt (tgt : Nat) {x : Int32} {off : Int} (hd : decode cc pc = .ok (.ifCond .lt off, 3)) (ht : (pc : Int) + off = (tgt : Int)) (kt : x < 0 → mj_G y cc nL rt hh d sc tgt ls st A post) (kf : ¬ x < 0 → mj_G y cc nL rt hh d sc (pc + 3) ls st A post) : mj_G y cc nL rt hh d sc pc ls (.int x :: st) A post := by
  intro p l e R s m args below meth c H locs cells slots F nc ns D ad ad0 cy n0 lsC hX hZ hH hE hn hS hc hs hl
  exact lv_if_lt hX.1 hX.2.2.1 hd ht (fun h => kt h _ _ _ _ _ _ _ _ _ _ _ _ _ _ _ _ _ _ _ _ _ _ _ hX hZ hH hE hn hS hc hs hl) (fun h => kf h _ _ _ _ _ _ _ _ _ _ _ _ _ _ _ _ _ _ _ _ _ _ _ hX hZ hH hE hn hS hc hs hl)

theorem G_ifge (tgt : Nat) {x : Int32} {off : Int} (hd : decode cc pc = .ok (.ifCond .ge off, 3)) (ht : (pc : Int) + off = (tgt : Int)) (kt : 0 ≤ x → mj_G y cc nL rt hh d sc tgt ls st A post) (kf : ¬ 0 ≤ x → mj_G y cc nL rt hh d sc (pc + 3) ls st A post) : mj_G y cc nL rt hh d sc pc ls (.int x :: st) A post := by
  intro p l e R s m args below meth c H locs cells slots F nc ns D ad ad0 cy n0 lsC hX hZ hH hE hn hS hc hs hl
  exact lv_if_ge hX.1 hX.2.2.1 hd ht (fun h => kt h _ _ _ _ _ _ _ _ _ _ _ _ _ _ _ _ _ _ _ _ _ _ _ hX hZ hH hE hn hS hc hs hl) (fun h => kf h _ _ _ _ _ _ _ _ _ _ _ _ _ _ _ _ _ _ _ _ _ _ _ hX hZ hH hE hn hS hc hs hl)

theorem G_ifgt (tgt : Nat) {x : Int32} {off : Int} (hd : decode cc pc = .ok (.ifCond .gt off, 3)) (ht : (pc : Int) + off = (tgt : Int)) (kt : 0 < x → mj_G y cc nL rt hh d sc tgt ls st A post) (kf : ¬ 0 < x → mj_G y cc nL rt hh d sc (pc + 3) ls st A post) : mj_G y cc nL rt hh d sc pc ls (.int x :: st) A post := by
  intro p l e R s m args below meth c H locs cells slots F nc ns D ad ad0 cy n0 lsC hX hZ hH hE hn hS hc hs hl
  exact lv_if_gt hX.1 hX.2.2.1 hd ht (fun h => kt h _ _ _ _ _ _ _ _ _ _ _ _ _ _ _ _ _ _ _ _ _ _ _ hX hZ hH hE hn hS hc hs hl) (fun h => kf h _ _ _ _ _ _ _ _ _ _ _ _ _ _ _ _ _ _ _ _ _ _ _ hX hZ hH hE hn hS hc hs hl)

theorem G_ifle (tgt : Nat) {x : Int32} {off : Int} (hd : decode cc pc = .ok (.ifCond .le off, 3)) (ht : (pc : Int) + off = (tgt : Int)) (kt : x ≤ 0 → mj_G y cc nL rt hh d sc tgt ls st A post) (kf : ¬ x ≤ 0 → mj_G y cc nL rt hh d sc (pc + 3) ls st A post) : mj_G y cc nL rt hh d sc pc ls (.int x :: st) A post := by
  intro p l e R s m args below meth c H locs cells slots F nc ns D ad ad0 cy n0 lsC hX hZ hH hE hn hS hc hs hl
  exact lv_if_le hX.1 hX.2.2.1 hd ht (fun h => kt h _ _ _ _ _ _ _ _ _ _ _ _ _ _ _ _ _ _ _ _ _ _ _ hX hZ hH hE hn hS hc hs hl) (fun h => kf h _ _ _ _ _ _ _ _ _ _ _ _ _ _ _ _ _ _ _ _ _ _ _ hX hZ hH hE hn hS hc hs hl)

theorem G_iceq (tgt : Nat) {x z : Int32} {off : Int} (hd : decode cc pc = .ok (.if_icmp .eq off, 3)) (ht : (pc : Int) + off = (tgt : Int)) (kt : x = z → mj_G y cc nL rt hh d sc tgt ls st A post) (kf : ¬ x = z → mj_G y cc nL rt hh d sc (pc + 3) ls st A post) : mj_G y cc nL rt hh d sc pc ls (.int z :: .int x :: st) A post := by
  intro p l e R s m args below meth c H locs cells slots F nc ns D ad ad0 cy n0 lsC hX hZ hH hE hn hS hc hs hl
  exact lv_icmp_eq hX.1 hX.2.2.1 hd ht (fun h => kt h _ _ _ _ _ _ _ _ _ _ _ _ _ _ _ _ _ _ _ _ _ _ _ hX hZ hH hE hn hS hc hs hl) (fun h => kf h _ _ _ _ _ _ _ _ _ _ _ _ _ _ _ _ _ _ _ _ _ _ _ hX hZ hH hE hn hS hc hs hl)

theorem G_icne (tgt : Nat) {x z : Int32} {off : Int} (hd : decode cc pc = .ok (.if_icmp .ne off, 3)) (ht : (pc : Int) + off = (tgt : Int)) (kt : ¬ x = z → mj_G y cc nL rt hh d sc tgt ls st A post) (kf : x = z → mj_G y cc nL rt hh d sc (pc + 3) ls st A post) : mj_G y cc nL rt hh d sc pc ls (.int z :: .int x :: st) A post := by
  intro p l e R s m args below meth c H locs cells slots F nc ns D ad ad0 cy n0 lsC hX hZ hH hE hn hS hc hs hl
  exact lv_icmp_ne hX.1 hX.2.2.1 hd ht (fun h => kt h _ _ _ _ _ _ _ _ _ _ _ _ _ _ _ _ _ _ _ _ _ _ _ hX hZ hH hE hn hS hc hs hl) (fun h => kf h _ _ _ _ _ _ _ _ _ _ _ _ _ _ _ _ _ _ _ _ _ _ _ hX hZ hH hE hn hS hc hs hl)

theorem G_iclt (tgt : Nat) {x z : Int32} {off : Int} (hd : decode cc pc = .ok (.if_icmp .lt off, 3)) (ht : (pc : Int) + off = (tgt : Int)) (kt : x < z → mj_G y cc nL rt hh d sc tgt ls st A post) (kf : ¬ x < z → mj_G y cc nL rt hh d sc (pc + 3) ls st A post) : mj_G y cc nL rt hh d sc pc ls (.int z :: .int x :: st) A post := by
  intro p l e R s m args below meth c H locs cells slots F nc ns D ad ad0 cy n0 lsC hX hZ hH hE hn hS hc hs hl
  exact lv_icmp_lt hX.1 hX.2.2.1 hd ht (fun h => kt h _ _ _ _ _ _ _ _ _ _ _ _ _ _ _ _ _ _ _ _ _ _ _ hX hZ hH hE hn hS hc hs hl) (fun h => kf h _ _ _ _ _ _ _ _ _ _ _ _ _ _ _ _ _ _ _ _ _ _ _ hX hZ hH hE hn hS hc hs hl)

theorem G_icge (tgt : Nat) {x z : Int32} {off : Int} (hd : decode cc pc = .ok (.if_icmp .ge off, 3)) (ht : (pc : Int) + off = (tgt : Int)) (kt : z ≤ x → mj_G y cc nL rt hh d sc tgt ls st A post) (kf : ¬ z ≤ x → mj_G y cc nL rt hh d sc (pc + 3) ls st A post) : mj_G y cc nL rt hh d sc pc ls (.int z :: .int x :: st) A post := by
  intro p l e R s m args below meth c H locs cells slots F nc ns D ad ad0 cy n0 lsC hX hZ hH hE hn hS hc hs hl
  exact lv_icmp_ge hX.1 hX.2.2.1 hd ht (fun h => kt h _ _ _ _ _ _ _ _ _ _ _ _ _ _ _ _ _ _ _ _ _ _ _ hX hZ hH hE hn hS hc hs hl) (fun h => kf h _ _ _ _ _ _ _ _ _ _ _ _ _ _ _ _ _ _ _ _ _ _ _ hX hZ hH hE hn hS hc hs hl)

theorem G_icgt (tgt : Nat) {x z : Int32} {off : Int} (hd : decode cc pc = .ok (.if_icmp .gt off, 3)) (ht : (pc : Int) + off = (tgt : Int)) (kt : z < x → mj_G y cc nL rt hh d sc tgt ls st A post) (kf : ¬ z < x → mj_G y cc nL rt hh d sc (pc + 3) ls st A post) : mj_G y cc nL rt hh d sc pc ls (.int z :: .int x :: st) A post := by
  intro p l e R s m args below meth c H locs cells slots F nc ns D ad ad0 cy n0 lsC hX hZ hH hE hn hS hc hs hl
  exact lv_icmp_gt hX.1 hX.2.2.1 hd ht (fun h => kt h _ _ _ _ _ _ _ _ _ _ _ _ _ _ _ _ _ _ _ _ _ _ _ hX hZ hH hE hn hS hc hs hl) (fun h => kf h _ _ _ _ _ _ _ _ _ _ _ _ _ _ _ _ _ _ _ _ _ _ _ hX hZ hH hE hn hS hc hs hl)

theorem G_icle (tgt : Nat) {x z : Int32} {off : Int} (hd : decode cc pc = .ok (.if_icmp .le off, 3)) (ht : (pc : Int) + off = (tgt : Int)) (kt : x ≤ z → mj_G y cc nL rt hh d sc tgt ls st A post) (kf : ¬ x ≤ z → mj_G y cc nL rt hh d sc (pc + 3) ls st A post) : mj_G y cc nL rt hh d sc pc ls (.int z :: .int x :: st) A post := by
  intro p l e R s m args below meth c H locs cells slots F nc ns D ad ad0 cy n0 lsC hX hZ hH hE hn hS hc hs hl
  exact lv_icmp_le hX.1 hX.2.2.1 hd ht (fun h => kt h _ _ _ _ _ _ _ _ _ _ _ _ _ _ _ _ _ _ _ _ _ _ _ hX hZ hH hE hn hS hc hs hl) (fun h => kf h _ _ _ _ _ _ _ _ _ _ _ _ _ _ _ _ _ _ _ _ _ _ _ hX hZ hH hE hn hS hc hs hl)

theorem G_goto (tgt : Nat) {off : Int} (hd : decode cc pc = .ok (.goto off, 3)) (ht : (pc : Int) + off = (tgt : Int)) (k : mj_G y cc nL rt hh d sc tgt ls st A post) : mj_G y cc nL rt hh d sc pc ls st A post := by
  intro p l e R s m args below meth c H locs cells slots F nc ns D ad ad0 cy n0 lsC hX hZ hH hE hn hS hc hs hl
  exact lv_goto hX.1 hX.2.2.1 hd ht (k _ _ _ _ _ _ _ _ _ _ _ _ _ _ _ _ _ _ _ _ _ _ _ hX hZ hH hE hn hS hc hs hl)

theorem G_swIn (tgt : Nat) {dflt lo hi : Int} {offs : Array Int} {len : Nat} {x : Int32} {off : Int} (hd : decode cc pc = .ok (.tableswitch dflt lo hi offs, len)) (h1 : ¬ x.toInt < lo) (h2 : ¬ hi < x.toInt) (ho : offs[(x.toInt - lo).toNat]? = some off) (ht : (pc : Int) + off = (tgt : Int)) (k : mj_G y cc nL rt hh d sc tgt ls st A post) : mj_G y cc nL rt hh d sc pc ls (.int x :: st) A post := by
  intro p l e R s m args below meth c H locs cells slots F nc ns D ad ad0 cy n0 lsC hX hZ hH hE hn hS hc hs hl
  exact lv_tableIn hX.1 hX.2.2.1 hd h1 h2 ho ht (k _ _ _ _ _ _ _ _ _ _ _ _ _ _ _ _ _ _ _ _ _ _ _ hX hZ hH hE hn hS hc hs hl)

theorem G_swOut (tgt : Nat) {dflt lo hi : Int} {offs : Array Int} {len : Nat} {x : Int32} (hd : decode cc pc = .ok (.tableswitch dflt lo hi offs, len)) (h : x.toInt < lo ∨ hi < x.toInt) (ht : (pc : Int) + dflt = (tgt : Int)) (k : mj_G y cc nL rt hh d sc tgt ls st A post) : mj_G y cc nL rt hh d sc pc ls (.int x :: st) A post := by
  intro p l e R s m args below meth c H locs cells slots F nc ns D ad ad0 cy n0 lsC hX hZ hH hE hn hS hc hs hl
  exact lv_tableOut hX.1 hX.2.2.1 hd h ht (k _ _ _ _ _ _ _ _ _ _ _ _ _ _ _ _ _ _ _ _ _ _ _ hX hZ hH hE hn hS hc hs hl)

theorem G_dup {v : Value} (hd : decode cc pc = .ok (.dup, 1)) (hv : v.category = 1) (k : mj_G y cc nL rt hh d sc (pc + 1) ls (v :: v :: st) A post) : mj_G y cc nL rt hh d sc pc ls (v :: st) A post := by
  intro p l e R s m args below meth c H locs cells slots F nc ns D ad ad0 cy n0 lsC hX hZ hH hE hn hS hc hs hl
  exact lv_dup hX.1 hX.2.2.1 hd (by rw [mj_cat]; exact hv) (k _ _ _ _ _ _ _ _ _ _ _ _ _ _ _ _ _ _ _ _ _ _ _ hX hZ hH hE hn hS hc hs hl)

theorem G_pop {v : Value} (hd : decode cc pc = .ok (.pop, 1)) (hv : v.category = 1) (k : mj_G y cc nL rt hh d sc (pc + 1) ls st A post) : mj_G y cc nL rt hh d sc pc ls (v :: st) A post := by
  intro p l e R s m args below meth c H locs cells slots F nc ns D ad ad0 cy n0 lsC hX hZ hH hE hn hS hc hs hl
  exact lv_pop hX.1 hX.2.2.1 hd (by rw [mj_cat]; exact hv) (k _ _ _ _ _ _ _ _ _ _ _ _ _ _ _ _ _ _ _ _ _ _ _ hX hZ hH hE hn hS hc hs hl)

end GR
