/-! an array of arrays -/
def ma_f (h i : Nat) : Nat → Value := fun j => if j < i then .ref (h + 1 + j) else .null
theorem ma_f0 (h : Nat) : ma_f h 0 = fun _ => .null := funext fun j => if_neg (Nat.not_lt_zero j)
theorem ma_fs (h i : Nat) : updV (ma_f h i) i (.ref (h + 1 + i)) = ma_f h (i + 1) := funext fun j => by
  unfold updV ma_f
  by_cases e : j = i
  · rw [if_pos e, if_pos (by omega), e]
  · rw [if_neg e]
    by_cases e2 : j < i
    · rw [if_pos e2, if_pos (by omega)]
    · rw [if_neg e2, if_neg (by omega)]
def ma_T (T : State) (cA cI : ClassId) (N M : Nat) : Nat → State
  | 0 => T.pushCell (arrV cA N (ma_f T.heap.size 0))
  | i + 1 => ((ma_T T cA cI N M i).pushCell (arrV cI M (fun _ => .int 0))).setCell T.heap.size (arrV cA N (ma_f T.heap.size (i + 1)))
theorem ma_facts {T : State} {cA cI : ClassId} {N M : Nat} : ∀ i, (ma_T T cA cI N M i).vm = T.vm ∧ (ma_T T cA cI N M i).heap.size = T.heap.size + 1 + i ∧ (ma_T T cA cI N M i).heap[T.heap.size]? = some (arrV cA N (ma_f T.heap.size i)) ∧ (∀ a, a < T.heap.size → (ma_T T cA cI N M i).heap[a]? = T.heap[a]?) ∧ ∀ j, j < i → (ma_T T cA cI N M i).heap[T.heap.size + 1 + j]? = some (arrV cI M (fun _ => .int 0)) := by
  intro i
  induction i with
  | zero =>
    refine ⟨rfl, by simp [ma_T], by simp [ma_T], fun a ha => ?_, fun j hj => absurd hj (Nat.not_lt_zero j)⟩
    show (T.pushCell _).heap[a]? = _
    rw [State.heap_pushCell, Array.getElem?_push, if_neg (Nat.ne_of_lt ha)]
  | succ i ih =>
    obtain ⟨h1, h2, h3, h4, h5⟩ := ih
    have key : ∀ a, (ma_T T cA cI N M (i + 1)).heap[a]? = if a = T.heap.size then some (arrV cA N (ma_f T.heap.size (i + 1))) else if a = T.heap.size + 1 + i then some (arrV cI M (fun _ => .int 0)) else (ma_T T cA cI N M i).heap[a]? := fun a => by
      show (((ma_T T cA cI N M i).heap.push (arrV cI M (fun _ => .int 0))).setIfInBounds T.heap.size (arrV cA N (ma_f T.heap.size (i + 1))))[a]? = _
      rw [Array.getElem?_setIfInBounds, Array.size_push, h2]
      by_cases e : a = T.heap.size
      · rw [if_pos e.symm, if_pos (by omega), if_pos e]
      · rw [if_neg (fun z => e z.symm), if_neg e, Array.getElem?_push, h2]
    refine ⟨h1, ?_, ?_, fun a ha => ?_, fun j hj => ?_⟩
    · show (((ma_T T cA cI N M i).heap.push (arrV cI M (fun _ => .int 0))).setIfInBounds T.heap.size _).size = _
      rw [Array.size_setIfInBounds, Array.size_push, h2]; omega
    · rw [key, if_pos rfl]
    · rw [key, if_neg (by omega), if_neg (by omega)]; exact h4 a ha
    · rw [key, if_neg (by omega)]
      by_cases e : j = i
      · rw [if_pos (by omega)]
      · rw [if_neg (by omega)]; exact h5 j (by omega)
section MA
variable {p : Program} {l : Launch} {e : Env} {R : Room} {s : State} {m : MethodId} {args : Array Value} {below : List Frame} {meth : Method} {c : Code} {T : State} {locs : List Loc} {cells slots : Nat}
theorem ma_stand (X : Stand p l e R s m args below meth c T locs cells slots) (hle : s.heap.size ≤ T.heap.size) (cA cI : ClassId) (N M : Nat) : ∀ i, Stand p l e R s m args below meth c (ma_T T cA cI N M i) locs (cells + 1 + i) (slots + N + i * M) := by
  intro i
  induction i with
  | zero =>
    have h := X.pushed (arrV cA N (ma_f T.heap.size 0))
    rw [arrV_size] at h
    rw [Nat.zero_mul]; exact h
  | succ i ih =>
    obtain ⟨h1, h2, h3, h4, h5⟩ := ma_facts (T := T) (cA := cA) (cI := cI) (N := N) (M := M) i
    have h := ih.pushed (arrV cI M (fun _ => .int 0))
    rw [arrV_size] at h
    have hc : ((ma_T T cA cI N M i).pushCell (arrV cI M (fun _ => .int 0))).heap[T.heap.size]? = some (arrV cA N (ma_f T.heap.size i)) := by
      rw [State.heap_pushCell, Array.getElem?_push, if_neg (by omega)]; exact h3
    have h6 := h.stored hc i (.ref (T.heap.size + 1 + i))
    rw [arrV_store, ma_fs] at h6
    have h7 := h6.forget (fun y hy => by rw [List.mem_singleton.mp hy]; exact hle)
    rw [show slots + N + (i + 1) * M = slots + N + i * M + M by rw [Nat.succ_mul]; omega]
    exact h7
end MA
section MW
variable {E : CtlPost} {e : Env} {d : Bool} {acts : List Action} {σ : State}
theorem ma_new {c u : ClassId} {k : Class} {ty : FieldType} {N : Nat} {x : Value} (hk : σ.vm.classes[c]? = some k) (hkind : k.kind = .array u ty) (h1 : N ≤ e.platform.arrayLengthLimit) (h2 : N * componentBytes ty ≤ e.platform.maxHeapBytes) (hf : fits ty x = true) (hd : x.isDefault = true) (h3 : σ.heap.size + 1 ≤ e.platform.maxCells) (h4 : σ.slotsUsed + N ≤ e.platform.maxSlots)
    {Q : Addr → Pre} (q : Q σ.heap.size d acts (σ.pushCell (arrV c N (fun _ => x)))) : wp (Jvm.newArray c N x) Q E e d acts σ := by
  rw [← arrV_new] at q
  have e1 : allocActs (Array.replicate N x) σ.heap.size acts = acts := by
    unfold allocActs
    refine if_pos ?_
    rw [Array.all_replicate]
    split
    · rfl
    · exact hd
  have e2 : ∀ i v, (Array.replicate N x)[i]? = some v → σ.fitsSlot c .none i v = true := fun i v hv => by
    rw [Array.getElem?_replicate] at hv
    split at hv
    · cases hv
      simp [State.fitsSlot, State.slotType?, hk, hkind, hf]
    · cases hv
  have g1 : ¬ N > e.platform.arrayLengthLimit := by omega
  have g2 : ¬ N * componentBytes ty > e.platform.maxHeapBytes := by omega
  simp only [Jvm.newArray, Jvm.arrayFits, wp_bind', W.ask, W.ite, W.theClass, W.alloc, W.stop, wp_pure', hk, hkind, g1, g2, if_false, Option.some.injEq, exists_eq_left', Array.size_replicate, e1]
  rw [if_neg (by omega)]
  exact ⟨by omega, h4, e2, q⟩
theorem ma_in {c u : ClassId} {kc : Class} {k : Int32} {M : Nat} (hk : σ.vm.classes[c]? = some kc) (hkind : kc.kind = .array u .int) (h0 : ¬ k < 0) (hM : k.toNatClampNeg = M) (h1 : M ≤ e.platform.arrayLengthLimit) (h2 : M * 4 ≤ e.platform.maxHeapBytes) (h3 : σ.heap.size + 1 ≤ e.platform.maxCells) (h4 : σ.slotsUsed + M ≤ e.platform.maxSlots)
    {Q : Addr → Pre} (q : Q σ.heap.size d acts (σ.pushCell (arrV c M (fun _ => .int 0)))) : wp (multianewarray.make c [k]) Q E e d acts σ := by
  subst hM
  rw [multianewarray.make]
  simp only [wp_bind', W.ite, h0, if_false, wp_pure', W.theClass, hk, hkind, Option.some.injEq, exists_eq_left']
  exact ma_new hk hkind h1 h2 rfl rfl h3 h4 q
end MW
section ML
variable {p : Program} {l : Launch} {e : Env} {R : Room} {s : State} {m : MethodId} {args : Array Value} {below : List Frame} {meth : Method} {c : Code} {T : State} {locs : List Loc} {cells slots : Nat}
theorem ma_lim (X : Stand p l e R s m args below meth c T locs cells slots) {N : Nat} (h : N ≤ 1000) : N ≤ e.platform.arrayLengthLimit ∧ N * 4 ≤ e.platform.maxHeapBytes := by
  rw [Launch.admits_arrayLengthLimit X.admits, Launch.admits_maxHeapBytes X.admits]
  omega
theorem ma_out (X : Stand p l e R s m args below meth c T locs cells slots) (hle : s.heap.size ≤ T.heap.size) {E : CtlPost} {d : Bool} {acts : List Action} {cA cI u : ClassId} {kA kI : Class} {n k : Int32} {N M : Nat} (hkA : T.vm.classes[cA]? = some kA) (hA : kA.kind = .array cI (.array .int)) (hkI : T.vm.classes[cI]? = some kI) (hI : kI.kind = .array u .int)
    (hn : ¬ n < 0) (hk : ¬ k < 0) (hN : n.toNatClampNeg = N) (hM : k.toNatClampNeg = M) (hN2 : N ≤ 1000) (hM2 : M ≤ 1000) (hc : cells + 1 + N ≤ R.cells) (hs : slots + N + N * M ≤ R.slots) {f : JFrame} {Q : Addr → Pre} (hq : ∀ d' acts', Q T.heap.size d' acts' ((ma_T T cA cI N M N).setTop f)) : wp (multianewarray.make cA [n, k]) Q E e d acts (T.setTop f) := by
  obtain ⟨l1, l2⟩ := ma_lim X hN2
  obtain ⟨l3, l4⟩ := ma_lim X hM2
  have hM0 : N * M ≤ 1000 * 1000 := Nat.mul_le_mul hN2 hM2
  obtain ⟨r1, r2⟩ := X.roomAbove (a := 1) (b := N) (by omega) (by omega)
  rw [multianewarray.make]
  simp only [wp_bind', W.ite, hn, if_false, wp_pure', W.theClass, State.vm_setTop, hkA, hA, Option.some.injEq, exists_eq_left']
  rw [hN]
  refine ma_new (σ := T.setTop f) hkA hA l1 l2 rfl rfl r1 r2 ?_
  have neg0 : [k].find? (fun z => decide (z < 0)) = none := List.find?_eq_none.mpr (fun z hz => by
    rw [List.mem_singleton.mp hz]
    exact fun h => hk (of_decide_eq_true h))
  simp only [neg0, ite_self, wp_bind', Std.Legacy.Range.forIn_eq_forIn_range']
  have steps : ({ start := 0, stop := N, step := 1, step_pos := Nat.one_pos } : Std.Legacy.Range).size = N := by
    unfold Std.Legacy.Range.size
    show (N - 0 + 1 - 1) / 1 = N
    omega
  rw [steps]
  refine wp_forIn_inv (fun todo σ => ∃ i, i ≤ N ∧ todo = List.range' i (N - i) ∧ σ = (ma_T T cA cI N M i).setTop f) _ _ ⟨0, Nat.zero_le _, by rw [Nat.sub_zero], ?_⟩ ?_ ?_
  · show (T.setTop f).pushCell (arrV cA N (fun _ => .null)) = (T.pushCell (arrV cA N (ma_f T.heap.size 0))).setTop f
    rw [ma_f0]; rfl
  · rintro x todo σ d' acts' Q' ⟨i, hi, ht, rfl⟩ hnext
    obtain ⟨q, hq'⟩ : ∃ q, N - i = q + 1 := by
      cases hz : N - i with
      | zero => rw [hz] at ht; cases ht
      | succ q => exact ⟨q, rfl⟩
    rw [hq', List.range'_succ] at ht
    obtain ⟨rfl, rfl⟩ := List.cons.inj ht
    obtain ⟨f1, f2, f3, f4, f5⟩ := ma_facts (T := T) (cA := cA) (cI := cI) (N := N) (M := M) x
    have XS := ma_stand X hle cA cI N M x
    have hxM : (x + 1) * M ≤ N * M := Nat.mul_le_mul_right M (by omega)
    rw [Nat.succ_mul] at hxM
    obtain ⟨g1, g2⟩ := XS.roomAbove (a := 1) (b := M) (by omega) (by omega)
    simp only [wp_bind']
    refine ma_in (σ := (ma_T T cA cI N M x).setTop f) (by rw [State.vm_setTop, f1]; exact hkI) hI hk hM l3 l4 g1 g2 ?_
    rw [wp_bind', W.writeLoc]
    refine ⟨arrV cA N (ma_f T.heap.size x), ?_, ?_, ?_, ?_, ?_⟩
    · show ((ma_T T cA cI N M x).heap.push _)[T.heap.size]? = _
      rw [Array.getElem?_push, if_neg (by omega)]; exact f3
    · intro h; cases h
    · rw [arrV_size]; omega
    · simp [State.fitsSlot, State.slotType?, arrV, f1, hkA, hA]; rfl
    · rw [wp_pure']
      refine hnext _ _ _ ⟨x + 1, by omega, by rw [show N - (x + 1) = q by omega], ?_⟩
      rw [arrV_store]
      show (((ma_T T cA cI N M x).pushCell (arrV cI M (fun _ => .int 0))).setCell T.heap.size (arrV cA N (updV (ma_f T.heap.size x) x (.ref (ma_T T cA cI N M x).heap.size)))).setTop f = _
      rw [f2, ma_fs]; rfl
  · rintro σ d' acts' ⟨i, hi, ht, rfl⟩
    have : N - i = 0 := by
      cases hz : N - i with
      | zero => rfl
      | succ q => rw [hz, List.range'_succ] at ht; cases ht
    obtain rfl : i = N := by omega
    simp only [wp_pure']
    exact hq _ _
theorem ma_law (X : Stand p l e R s m args below meth c T locs cells slots) (hle : s.heap.size ≤ T.heap.size) (hexec : p.tables.exec = Jvm.exec) {own : String} {index : Nat} (hown : s.vm.findClass own = some m.cls) (hcl : (Cond.classLink own index "[[I").before args s = true) (hov : (Cond.arrayOver (.array .int)).before args s = true) (har : (Cond.arrayClass .int).before args s = true)
    {g : JFrame} (hg : g.method = m) (hdg : decode c.code g.pc = .ok (.multianewarray index 2, 4)) {n k : Int32} {N M : Nat} {rest : List Value} (hstack : g.stack = .int k :: .int n :: rest) (hn : ¬ n < 0) (hk : ¬ k < 0) (hN : n.toNatClampNeg = N) (hM : k.toNatClampNeg = M) (hN2 : N ≤ 1000) (hM2 : M ≤ 1000) (hc : cells + 1 + N ≤ R.cells) (hs : slots + N + N * M ≤ R.slots) :
    ∃ (T' : State) (cA cI : ClassId), (ArrOfT s cA (.array .int) ∧ va_RA s cA (.array .int)) ∧ (ArrOfT s cI .int ∧ va_RA s cI .int) ∧ Stand p l e R s m args below meth c T' locs (cells + 1 + N) (slots + N + N * M) ∧ T'.heap.size = T.heap.size + 1 + N ∧ T'.heap[T.heap.size]? = some (arrV cA N (ma_f T.heap.size N)) ∧ (∀ a, a < T.heap.size → T'.heap[a]? = T.heap[a]?) ∧ (∀ j, j < N → T'.heap[T.heap.size + 1 + j]? = some (arrV cI M (fun _ => .int 0))) ∧
      ∀ target, Steps p.tables e below (T'.setTop { g with pc := g.pc + 4, stack := .ref T.heap.size :: rest }) target → Steps p.tables e below (T.setTop g) target := by
  subst hg
  have hpl : e.platform.magicAccessors = ({} : Platform).magicAccessors := by rw [X.admits.platform]
  obtain ⟨comp, cA, kA, o1, o2, o3, ⟨u0, o4⟩, o5⟩ := ov_val.mp hov
  obtain ⟨cI, kI, u, a1, a2, a3⟩ := Cond.arrayClass_spec har
  have hcI : comp = cI := Option.some.inj (o1.symm.trans a1)
  subst hcI
  have hu0 : u0 = comp := by
    obtain ⟨hlt, hq, -⟩ := Array.findIdx?_eq_some_iff_getElem.mp o2
    have e3 : s.vm.classes[cA] = kA := by
      rw [Array.getElem?_eq_getElem hlt] at o3; exact Option.some.inj o3
    rw [e3, o4] at hq
    exact beq_iff_eq.mp hq
  subst hu0
  obtain ⟨cc, hfcc, hlk⟩ := Cond.classLink_spec hown hcl e.platform hpl
  have hcc : cc = cA := Option.some.inj (hfcc.symm.trans o5)
  subst hcc
  obtain ⟨v1, v2, v3⟩ := State.classEntry (e := e) X.warmed hlk
  generalize T.vm.noted g.method.cls index (.cls cc) = vm₁ at v1 v2 v3
  have X₁ := X.noted v2
  have hal : s.vm.Alike vm₁ := v2.alike
  obtain ⟨kA₁, hkA₁, heA⟩ := hal.2.2 _ _ o3
  obtain ⟨kI₁, hkI₁, heI⟩ := hal.2.2 _ _ a2
  obtain ⟨f1, f2, f3, f4, f5⟩ := ma_facts (T := T.setVm vm₁) (cA := cc) (cI := u0) (N := N) (M := M) N
  refine ⟨ma_T (T.setVm vm₁) cc u0 N M N, cc, u0, ⟨fun n z => ⟨fun k h => (by cases h), kA, o3, u0, o4⟩, o5⟩, ⟨fun n z => ⟨fun k h => (by cases h), kI, a2, u, a3⟩, a1⟩, ma_stand X₁ hle cc u0 N M N, f2, f3, f4, f5, fun target hrest => ?_⟩
  refine Steps.instr (c := c) (by simpa using X.here) ?_
  rw [hdg]
  show wpRun (p.tables.exec (.multianewarray index 2)) _ _ e (T.setTop g)
  rw [hexec]
  show wp (multianewarray.sem index 2) _ _ e false [] (T.setTop g)
  simp only [multianewarray.sem, wp_bind']
  rw [W.resolveClassAt_transfer (s := T.setTop g) (State.method?_setTop g X.here.top) v1 v3]
  show wp (Jvm.resolveClassAt index) _ _ e false [] ((T.setVm vm₁).setTop g)
  rw [W.resolveClassAt_ready (State.method?_setTop g X₁.here.top) v3]
  rw [wp_bind', show (2 : Nat) = [Value.int n, Value.int k].length from rfl, popN_top X₁.here.top (by rw [hstack]; rfl)]
  simp only [List.mapM_cons, List.mapM_nil, wp_bind', wp_pure']
  refine ma_out X₁ hle (kA := kA₁) (kI := kI₁) (u := u) hkA₁ (by rw [heA]; exact o4) hkI₁ (by rw [heI]; exact a3) hn hk hN hM hN2 hM2 hc hs (fun d' acts' => ?_)
  simp only [wp_bind', W.mark, W.pushRef]
  refine ⟨{ g with stack := rest }, State.topJava?_setTop' _ (by
    have := (ma_stand X₁ hle cc u0 N M N).here.top
    exact this), ?_⟩
  intro acts2
  rw [State.setTop_setTop, afterInstr_ok]
  exact hrest
end ML
