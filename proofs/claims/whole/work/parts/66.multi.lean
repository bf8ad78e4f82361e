/-! an array of arrays -/
def ma_f (h i : Nat) : Nat → Value := fun j => if j < i then .ref (h + 1 + j) else .null
theorem ma_f0 (h : Nat) : ma_f h 0 = fun _ => .null := funext fun j => if_neg (Nat.not_lt_zero j)
theorem ma_fs (h i : Nat) : updV (ma_f h i) i (.ref (h + 1 + i)) = ma_f h (i + 1) := funext fun j => by
  unfold updV ma_f
  by_cases e : j = i
  · rw [if_pos e, if_pos (by omega), e]
  · rw [if_neg e]
    by_cases e2 : j < i
    · rw [if_pos e2, if_pos (by omega)]
    · rw [if_neg e2, if_neg (by omega)]
def ma_T (T : State) (cA cI : ClassId) (N M : Nat) : Nat → State
  | 0 => T.pushCell (arrV cA N (ma_f T.heap.size 0))
  | i + 1 => ((ma_T T cA cI N M i).pushCell (arrV cI M (fun _ => .int 0))).setCell T.heap.size (arrV cA N (ma_f T.heap.size (i + 1)))
theorem ma_facts {T : State} {cA cI : ClassId} {N M : Nat} : ∀ i, (ma_T T cA cI N M i).vm = T.vm ∧ (ma_T T cA cI N M i).heap.size = T.heap.size + 1 + i ∧ (ma_T T cA cI N M i).heap[T.heap.size]? = some (arrV cA N (ma_f T.heap.size i)) ∧ (∀ a, a < T.heap.size → (ma_T T cA cI N M i).heap[a]? = T.heap[a]?) ∧ ∀ j, j < i → (ma_T T cA cI N M i).heap[T.heap.size + 1 + j]? = some (arrV cI M (fun _ => .int 0)) := by
  intro i
  induction i with
  | zero =>
    refine ⟨rfl, by simp [ma_T], by simp [ma_T], fun a ha => ?_, fun j hj => absurd hj (Nat.not_lt_zero j)⟩
    show (T.pushCell _).heap[a]? = _
    rw [State.heap_pushCell, Array.getElem?_push, if_neg (Nat.ne_of_lt ha)]
  | succ i ih =>
    obtain ⟨h1, h2, h3, h4, h5⟩ := ih
    have key : ∀ a, (ma_T T cA cI N M (i + 1)).heap[a]? = if a = T.heap.size then some (arrV cA N (ma_f T.heap.size (i + 1))) else if a = T.heap.size + 1 + i then some (arrV cI M (fun _ => .int 0)) else (ma_T T cA cI N M i).heap[a]? := fun a => by
      show (((ma_T T cA cI N M i).heap.push (arrV cI M (fun _ => .int 0))).setIfInBounds T.heap.size (arrV cA N (ma_f T.heap.size (i + 1))))[a]? = _
      rw [Array.getElem?_setIfInBounds, Array.size_push, h2]
      by_cases e : a = T.heap.size
      · rw [if_pos e.symm, if_pos (by omega), if_pos e]
      · rw [if_neg (fun z => e z.symm), if_neg e, Array.getElem?_push, h2]
    refine ⟨h1, ?_, ?_, fun a ha => ?_, fun j hj => ?_⟩
    · show (((ma_T T cA cI N M i).heap.push (arrV cI M (fun _ => .int 0))).setIfInBounds T.heap.size _).size = _
      rw [Array.size_setIfInBounds, Array.size_push, h2]; omega
    · rw [key, if_pos rfl]
    · rw [key, if_neg (by omega), if_neg (by omega)]; exact h4 a ha
    · rw [key, if_neg (by omega)]
      by_cases e : j = i
      · rw [if_pos (by omega)]
      · rw [if_neg (by omega)]; exact h5 j (by omega)
section MA
variable {p : Program} {l : Launch} {e : Env} {R : Room} {s : State} {m : MethodId} {args : Array Value} {below : List Frame} {meth : Method} {c : Code} {T : State} {locs : List Loc} {cells slots : Nat}
theorem ma_stand (X : Stand p l e R s m args below meth c T locs cells slots) (hle : s.heap.size ≤ T.heap.size) (cA cI : ClassId) (N M : Nat) : ∀ i, Stand p l e R s m args below meth c (ma_T T cA cI N M i) locs (cells + 1 + i) (slots + N + i * M) := by
  intro i
  induction i with
  | zero =>
    have h := X.pushed (arrV cA N (ma_f T.heap.size 0))
    rw [arrV_size] at h
    rw [Nat.zero_mul]; exact h
  | succ i ih =>
    obtain ⟨h1, h2, h3, h4, h5⟩ := ma_facts (T := T) (cA := cA) (cI := cI) (N := N) (M := M) i
    have h := ih.pushed (arrV cI M (fun _ => .int 0))
    rw [arrV_size] at h
    have hc : ((ma_T T cA cI N M i).pushCell (arrV cI M (fun _ => .int 0))).heap[T.heap.size]? = some (arrV cA N (ma_f T.heap.size i)) := by
      rw [State.heap_pushCell, Array.getElem?_push, if_neg (by omega)]; exact h3
    have h6 := h.stored hc i (.ref (T.heap.size + 1 + i))
    rw [arrV_store, ma_fs] at h6
    have h7 := h6.forget (fun y hy => by rw [List.mem_singleton.mp hy]; exact hle)
    rw [show slots + N + (i + 1) * M = slots + N + i * M + M by rw [Nat.succ_mul]; omega]
    exact h7
end MA
section MW
variable {E : CtlPost} {e : Env} {d : Bool} {acts : List Action} {σ : State}
theorem ma_new {c u : ClassId} {k : Class} {ty : FieldType} {N : Nat} {x : Value} (hk : σ.vm.classes[c]? = some k) (hkind : k.kind = .array u ty) (h1 : N ≤ e.platform.arrayLengthLimit) (h2 : N * componentBytes ty ≤ e.platform.maxHeapBytes) (hf : fits ty x = true) (hd : x.isDefault = true) (h3 : σ.heap.size + 1 ≤ e.platform.maxCells) (h4 : σ.slotsUsed + N ≤ e.platform.maxSlots)
    {Q : Addr → Pre} (q : Q σ.heap.size d acts (σ.pushCell (arrV c N (fun _ => x)))) : wp (Jvm.newArray c N x) Q E e d acts σ := by
  rw [← arrV_new] at q
  have e1 : allocActs (Array.replicate N x) σ.heap.size acts = acts := by
    unfold allocActs
    refine if_pos ?_
    rw [Array.all_replicate]
    split
    · rfl
    · exact hd
  have e2 : ∀ i v, (Array.replicate N x)[i]? = some v → σ.fitsSlot c .none i v = true := fun i v hv => by
    rw [Array.getElem?_replicate] at hv
    split at hv
    · cases hv
      simp [State.fitsSlot, State.slotType?, hk, hkind, hf]
    · cases hv
  have g1 : ¬ N > e.platform.arrayLengthLimit := by omega
  have g2 : ¬ N * componentBytes ty > e.platform.maxHeapBytes := by omega
  simp only [Jvm.newArray, Jvm.arrayFits, wp_bind', W.ask, W.ite, W.theClass, W.alloc, W.stop, wp_pure', hk, hkind, g1, g2, if_false, Option.some.injEq, exists_eq_left', Array.size_replicate, e1]
  rw [if_neg (by omega)]
  exact ⟨by omega, h4, e2, q⟩
theorem ma_in {c u : ClassId} {kc : Class} {k : Int32} {M : Nat} (hk : σ.vm.classes[c]? = some kc) (hkind : kc.kind = .array u .int) (h0 : ¬ k < 0) (hM : k.toNatClampNeg = M) (h1 : M ≤ e.platform.arrayLengthLimit) (h2 : M * 4 ≤ e.platform.maxHeapBytes) (h3 : σ.heap.size + 1 ≤ e.platform.maxCells) (h4 : σ.slotsUsed + M ≤ e.platform.maxSlots)
    {Q : Addr → Pre} (q : Q σ.heap.size d acts (σ.pushCell (arrV c M (fun _ => .int 0)))) : wp (multianewarray.make c [k]) Q E e d acts σ := by
  subst hM
  rw [multianewarray.make]
  simp only [wp_bind', W.ite, h0, if_false, wp_pure', W.theClass, hk, hkind, Option.some.injEq, exists_eq_left']
  exact ma_new hk hkind h1 h2 rfl rfl h3 h4 q
end MW
