/-! the rules of calls -/
section GC3
variable {p : Program} {l : Launch} {e : Env} {R : Room} {s : State} {m : MethodId} {args : Array Value} {below : List Frame} {meth : Method} {c : Code} {locs : List Loc} {cells slots : Nat} {F : Nat → Prop} {nc ns : Nat} {D : va_G} {ad ad0 : Nat → Nat} {cy : Nat → ClassId} {n0 : Nat} {lsC : Array Slot}
variable {y : MethodName} {cc : ByteArray} {nL : Nat} {rt : Option FieldType} {hh : List (Nat × Nat × Nat × Nat)} {d : Nat} {sc : Option (Nat × (Nat → Int32))} {pc : Nat} {ls : List (Nat × Value)} {st : List Value} {A : mj_H} {post : mj_O → mj_H → Prop}
variable {y' : MethodName} {cc' : ByteArray} {nL' : Nat} {rt' : Option FieldType} {hh' : List (Nat × Nat × Nat × Nat)} {As : List Value} {post' : mj_O → mj_H → Prop}
/-- no handler stands over pc -/
def mj_nh (hh : List (Nat × Nat × Nat × Nat)) (pc : Nat) : Bool := hh.all (fun h => !(decide (h.1 ≤ pc) && decide (pc < h.2.1)))
theorem mj_nh_out {hh : List (Nat × Nat × Nat × Nat)} {pc : Nat} {c : Code} (h : mj_nh hh pc = true) (ht : c.exceptionTable.toList.map (fun h => (h.startPc, h.endPc, h.handlerPc, h.catchType)) = hh) : ∀ x ∈ c.exceptionTable.toList, covers x pc = false := by
  intro x hx
  have h1 := List.all_eq_true.mp h (x.startPc, x.endPc, x.handlerPc, x.catchType) (by rw [← ht]; exact List.mem_map.mpr ⟨x, hx, rfl⟩)
  simp only [Bool.not_eq_true'] at h1
  exact h1
/-- what stands behind a call whose callee makes no cell that is kept -/
theorem mj_after {S0 : State} (hX : mj_X y cc nL rt hh d p e R s m args meth c F nc ns) (hZ : mj_Z sc ad F s) (hE : mj_Ext ad ad0 n0 A.1.length) (hn : n0 ≤ A.1.length) (hl : lv_has lsC nL (mj_ls ad ls))
    (hlen : ∀ out A', post' out A' → A'.1.length = A.1.length)
    (h : mj_Af p l e R s m args below meth c F D nc ns ad A.1.length post' S0 (F0 m pc lsC (st.map (mj_v ad))) 3)
    (kr : ∀ v A', post' (.inl v) A' → mj_G y cc nL rt hh d sc (pc + 3) ls (v.toList ++ st) A' post)
    (kt : ∀ C A', post' (.inr C) A' → mj_nh hh pc = true ∧ post (.inr C) A') : ∃ t, Steps p.tables e below S0 t ∧ mj_end below s F D ad0 n0 nc ns post t := by
  obtain ⟨o, U, L, k, n, out, A', ad', cy', X', q1, q2, q3, q4, q5, q6, q7, q8, q9, q10⟩ := h
  have hl' := hlen out A' q1
  have he : ad' = ad := funext fun j => q4 j (by rw [hl']; exact Nat.lt_or_ge j _)
  subst he
  have hE' : mj_Ext ad' ad0 n0 A'.1.length := by rw [hl']; exact hE
  have hn' : n0 ≤ A'.1.length := by rw [hl']; exact hn
  rcases out with v | C
  · have ho : o = .returned (v.map (mj_v ad')) := q2
    have hst := q9 _ ho
    obtain ⟨t, a1, b1⟩ := kr v A' q1 p l e R s m args below meth c U.heap L k n F nc ns D ad' ad0 cy' n0 lsC hX hZ q3 hE' hn' q6 q7 q8 hl U rfl X'
    refine ⟨t, hst.trans ?_, b1⟩
    have e1 : ({ F0 m pc lsC (st.map (mj_v ad')) with pc := pc + 3, stack := (v.map (mj_v ad')).toList ++ st.map (mj_v ad') } : JFrame) = F0 m (pc + 3) lsC ((v.toList ++ st).map (mj_v ad')) := by
      cases v <;> rfl
    rw [← e1] at a1
    exact a1
  · obtain ⟨x, cell, r1, r2, r3, r4⟩ := q2
    have hst := q10 x r1
    obtain ⟨k1, k2⟩ := kt C A' q1
    obtain ⟨w1, w2, w3, w4, w5⟩ := X'.leaveThrown x (g := F0 m pc lsC (st.map (mj_v ad'))) rfl rfl rfl (mj_nh_out k1 hX.2.2.2.2.2.2.2.2.2.1) (hlocks := hX.2.2.2.2.2.1)
    exact ⟨_, hst.trans w1, .threw x, w2, w3, .inr C, A', ad', cy', k, n, L, k2, ⟨x, cell, rfl, r2, r3, r4⟩, q3, hE', hn', q6, q7, q8, w4, w5⟩
def mj_cv (own : String) (index : Nat) (y' : MethodName) (ci : Nat) : Prop := (Cond.methodLink own index y' ∈ tw_tbl ∨ ∃ host, Cond.methodLinkNest own index y' host ∈ tw_tbl) ∧ Cond.instanceMethod y' ∈ tw_tbl ∧ Cond.selects y'.cls y' y' ∈ tw_tbl ∧ Cond.initialized y'.cls ∈ tw_tbl ∧ (∃ (T : u_T) (N : Nat), mj_cl[ci]? = some (y'.cls, T, N)) ∧ (y'.cls ≠ "java/lang/invoke/MethodHandle" ∧ y'.cls ≠ "java/lang/invoke/VarHandle") ∧ plainName y'.cls = true
theorem G_callv {index ci b : Nat} {fs : List Value} (hd : decode cc pc = .ok (.invokevirtual index, 3)) (hcv : mj_cv y.cls index y' ci) (hcw : mj_cw y' cc' nL' rt' hh') (hb : A.1[b]? = some (.inr (ci, fs))) (hn1 : (parseMethodDescriptor y'.desc).map (fun d => d.parameters.length) = some As.length) (hsl : (lg_sl (.ref b :: As)).length ≤ nL') (hw : (st.map fun v => v.category).sum + (nL' + 11) ≤ 41)
    (hG : mj_G y' cc' nL' rt' hh' d none 0 (lv_args 0 (.ref b :: As)) [] A post') (hlen : ∀ out A', post' out A' → A'.1.length = A.1.length)
    (kr : ∀ v A', post' (.inl v) A' → mj_G y cc nL rt hh (d + 1) sc (pc + 3) ls (v.toList ++ st) A' post) (kt : ∀ C A', post' (.inr C) A' → mj_nh hh pc = true ∧ post (.inr C) A') :
    mj_G y cc nL rt hh (d + 1) sc pc ls (As.reverse ++ .ref b :: st) A post := by
  intro p l e R s m args below meth c H locs cells slots F nc ns D ad ad0 cy n0 lsC hX hZ hH hE hn hS hc hs hl
  obtain ⟨w1, w2, w3, w4, ⟨T0, N0, w5⟩, w6, w7⟩ := hcv
  have hts := hX.2.2.2.2.2.2.2.2.1
  obtain ⟨cellB, hcB, hoB, hclB⟩ := va_recv hH.2.2.1 hH.1 (ci := ci) (q0 := b) w5 (mj_W_get hb)
  intro T hT X
  obtain ⟨mk, methM, hnamed, hmethM, hstM, habM⟩ := Cond.instanceMethod_spec (hts _ w2)
  obtain ⟨methM', cM, hmethM', -, -, -, -, -, -, hsigM⟩ := mj_cw_spec hcw hts hnamed
  cases hmethM.symm.trans hmethM'
  obtain ⟨c2, r2, m2, q1, q2, q3, q4, kP, hkP, hkPi⟩ := Cond.selects_spec (hts _ w3)
  cases hclB.symm.trans q1
  cases (State.methodFound?_of_named hnamed w6).symm.trans q2
  cases hnamed.symm.trans q3
  have hselP : selectMethod e.platform s.vm cellB.cls mk = .method mk := by rw [Launch.admits_selectMethod X.admits]; exact q4
  have hlenA : (As.map (mj_v ad)).length = methM.sig.parameters.length := by
    rw [hsigM] at hn1
    rw [List.length_map]
    exact (Option.some.inj hn1).symm
  have hstk : (F0 m pc lsC ((As.reverse ++ .ref b :: st).map (mj_v ad))).stack = (As.map (mj_v ad)).reverse ++ .ref (ad b) :: st.map (mj_v ad) := by
    show (As.reverse ++ .ref b :: st).map (mj_v ad) = _
    rw [List.map_append, List.map_reverse]; rfl
  have hstep : ∃ (vm₁ : Vm), Stand p l e R s m args below meth c (T.setVm vm₁) locs cells slots ∧ ∀ target, (∀ acts, Steps p.tables e below (doInvoke e ((T.setVm vm₁).setTop (F0 m pc lsC (st.map (mj_v ad)))) acts mk (((.ref b :: As).map (mj_v ad)).toArray)).1 target) → Steps p.tables e below (T.setTop (F0 m pc lsC ((As.reverse ++ .ref b :: st).map (mj_v ad)))) target := by
    rcases w1 with w1 | ⟨host, w1⟩
    · obtain ⟨vm₁, X₁, hstep₁⟩ := X.invokevirtual hX.1 hX.2.2.2.2.2.2.2.1 (hts _ w1) hnamed hmethM hstM hkP hkPi w6 (a := ad b) (cell := cellB) (by rw [hT]; exact hcB)
        (fun z h => by rw [h] at hoB; cases hoB) hselP hmethM habM hkP hkPi (g := F0 m pc lsC ((As.reverse ++ .ref b :: st).map (mj_v ad))) rfl (argsL := As.map (mj_v ad)) (rest := st.map (mj_v ad)) hlenA hstk (by rw [hX.2.2.1]; exact hd)
      exact ⟨vm₁, X₁, hstep₁⟩
    · obtain ⟨vm₁, X₁, hstep₁⟩ := X.invokevirtualNest hX.1 hX.2.2.2.2.2.2.2.1 (hts _ w1) hnamed hmethM hstM hkP hkPi w6 (a := ad b) (cell := cellB) (by rw [hT]; exact hcB)
        (fun z h => by rw [h] at hoB; cases hoB) hselP hmethM habM hkP hkPi (g := F0 m pc lsC ((As.reverse ++ .ref b :: st).map (mj_v ad))) rfl (argsL := As.map (mj_v ad)) (rest := st.map (mj_v ad)) hlenA hstk (by rw [hX.2.2.1]; exact hd)
      exact ⟨vm₁, X₁, hstep₁⟩
  obtain ⟨vm₁, X₁, hstep₁⟩ := hstep
  have hAf := mj_inv (T := T.setVm vm₁) (As := .ref b :: As) X₁ hX (by show mj_Hp D F ad cy A.1 s T.heap; rw [hT]; exact hH) (by show va_S F s.heap T.heap locs; rw [hT]; exact hS) hc hs hcw w4 w7 hsl hG (g := F0 m pc lsC (st.map (mj_v ad))) rfl (by rw [hX.2.2.2.1]; exact hl.1) (by rw [hX.2.2.1]; exact hd)
    (by show 2 * 0 + ((st.map (mj_v ad)).map fun v => v.category).sum + (nL' + 11) ≤ 41; rw [List.map_map]; have : ((fun v : Value => v.category) ∘ mj_v ad) = fun v => v.category := funext (mj_cat ad); rw [this]; omega) (X₁.named hnamed)
  obtain ⟨t, a1, b1⟩ := mj_after (ls := ls) (sc := sc) hX hZ hE hn hl hlen hAf kr kt
  exact ⟨t, hstep₁ t (fun acts => by rw [doInvoke_state]; exact a1), b1⟩
def mj_cs (own : String) (index : Nat) (y' : MethodName) : Prop := Cond.methodLink own index y' ∈ tw_tbl ∧ Cond.static y' ∈ tw_tbl ∧ Cond.initialized y'.cls ∈ tw_tbl ∧ (y'.cls ≠ "java/lang/invoke/MethodHandle" ∧ y'.cls ≠ "java/lang/invoke/VarHandle") ∧ plainName y'.cls = true
theorem G_calls {index : Nat} (hd : decode cc pc = .ok (.invokestatic index, 3)) (hcs : mj_cs y.cls index y') (hcw : mj_cw y' cc' nL' rt' hh') (hn1 : (parseMethodDescriptor y'.desc).map (fun d => d.parameters.length) = some As.length) (hsl : (lg_sl As).length ≤ nL') (hw : (st.map fun v => v.category).sum + (nL' + 11) ≤ 41)
    (hG : mj_G y' cc' nL' rt' hh' d none 0 (lv_args 0 As) [] A post') (hlen : ∀ out A', post' out A' → A'.1.length = A.1.length)
    (kr : ∀ v A', post' (.inl v) A' → mj_G y cc nL rt hh (d + 1) sc (pc + 3) ls (v.toList ++ st) A' post) (kt : ∀ C A', post' (.inr C) A' → mj_nh hh pc = true ∧ post (.inr C) A') :
    mj_G y cc nL rt hh (d + 1) sc pc ls (As.reverse ++ st) A post := by
  intro p l e R s m args below meth c H locs cells slots F nc ns D ad ad0 cy n0 lsC hX hZ hH hE hn hS hc hs hl
  obtain ⟨w1, w2, w4, w6, w7⟩ := hcs
  have hts := hX.2.2.2.2.2.2.2.2.1
  intro T hT X
  have hnm : ∃ mk, s.methodNamed? y' = some mk := by
    rcases hcw with ⟨h, -⟩ | h
    · exact Cond.code_named (hts _ h)
    · obtain ⟨m9, meth9, c9, hn9, -⟩ := Cond.codeWith_spec (hts _ h)
      exact ⟨m9, hn9⟩
  obtain ⟨mk, hnamed⟩ := hnm
  obtain ⟨methM, cM, hmethM, -, -, -, -, -, -, hsigM⟩ := mj_cw_spec hcw hts hnamed
  have hstatic : methM.isStatic = true := Cond.static_spec hnamed hmethM (hts _ w2)
  obtain ⟨kP, hkP, -⟩ := className_of_methodNamed hnamed
  have hinitP : kP.init = .initialized := Cond.initialized_spec (findClass_of_methodNamed hnamed) hkP (hts _ w4)
  have hlenA : (As.map (mj_v ad)).length = methM.sig.parameters.length := by
    rw [hsigM] at hn1
    rw [List.length_map]
    exact (Option.some.inj hn1).symm
  have hstk : (F0 m pc lsC ((As.reverse ++ st).map (mj_v ad))).stack = (As.map (mj_v ad)).reverse ++ st.map (mj_v ad) := by
    show (As.reverse ++ st).map (mj_v ad) = _
    rw [List.map_append, List.map_reverse]
  obtain ⟨vm₁, X₁, hstep₁⟩ := X.invokestatic hX.1 hX.2.2.2.2.2.2.2.1 (hts _ w1) hnamed hmethM hstatic hkP hinitP w6 (g := F0 m pc lsC ((As.reverse ++ st).map (mj_v ad))) rfl (argsL := As.map (mj_v ad)) (rest := st.map (mj_v ad)) hlenA hstk (by rw [hX.2.2.1]; exact hd)
  have hAf := mj_inv (T := T.setVm vm₁) (As := As) X₁ hX (by show mj_Hp D F ad cy A.1 s T.heap; rw [hT]; exact hH) (by show va_S F s.heap T.heap locs; rw [hT]; exact hS) hc hs hcw w4 w7 hsl hG (g := F0 m pc lsC (st.map (mj_v ad))) rfl (by rw [hX.2.2.2.1]; exact hl.1) (by rw [hX.2.2.1]; exact hd)
    (by show 2 * 0 + ((st.map (mj_v ad)).map fun v => v.category).sum + (nL' + 11) ≤ 41; rw [List.map_map]; have : ((fun v : Value => v.category) ∘ mj_v ad) = fun v => v.category := funext (mj_cat ad); rw [this]; omega) (X₁.named hnamed)
  obtain ⟨t, a1, b1⟩ := mj_after (ls := ls) (sc := sc) hX hZ hE hn hl hlen hAf kr kt
  exact ⟨t, hstep₁ t (fun acts => by rw [doInvoke_state]; exact a1), b1⟩
/-- a reference that a caller keeps over a call that makes cells -/
def mj_bd (n : Nat) (v : Value) : Bool := match v with
  | .ref j => decide (j < n) || decide (j = 1000000)
  | _ => true
theorem mj_bd_ext {ad ad' : Nat → Nat} {n n1 : Nat} {v : Value} (h : mj_bd n v = true) (he : mj_Ext ad' ad n n1) (h1 : n1 ≤ 1000000) : mj_v ad' v = mj_v ad v := by
  cases v with
  | ref j =>
    show Value.ref (ad' j) = Value.ref (ad j)
    have : j < n ∨ n1 ≤ j := by
      simp only [mj_bd, Bool.or_eq_true, decide_eq_true_eq] at h
      rcases h with h | h
      · exact Or.inl h
      · exact Or.inr (by rw [h]; exact h1)
    rw [he j this]
  | _ => rfl
/-- behind a constructor that makes cells and returns -/
theorem mj_afterN {S0 : State} (hX : mj_X y cc nL rt hh d p e R s m args meth c F nc ns) (hZ : mj_Z sc ad F s) (hE : mj_Ext ad ad0 n0 A.1.length) (hn : n0 ≤ A.1.length) (hl : lv_has lsC nL (mj_ls ad ls))
    (hlen : ∀ out A', post' out A' → A'.1.length ≤ 1000000 ∧ ∃ v, out = .inl v) (hbl : ls.all (fun q => mj_bd A.1.length q.2) = true) (hbs : st.all (mj_bd A.1.length) = true)
    (h : mj_Af p l e R s m args below meth c F D nc ns ad A.1.length post' S0 (F0 m pc lsC (st.map (mj_v ad))) 3)
    (kr : ∀ v A', post' (.inl v) A' → mj_G y cc nL rt hh d sc (pc + 3) ls (v.toList ++ st) A' post) : ∃ t, Steps p.tables e below S0 t ∧ mj_end below s F D ad0 n0 nc ns post t := by
  obtain ⟨o, U, L, k, n, out, A', ad', cy', X', q1, q2, q3, q4, q5, q6, q7, q8, q9, q10⟩ := h
  obtain ⟨hmil, v, rfl⟩ := hlen out A' q1
  have hE' : mj_Ext ad' ad0 n0 A'.1.length := by
    intro j hj
    have : j < A.1.length ∨ A'.1.length ≤ j := by omega
    rw [q4 j this]
    exact hE j (by omega)
  have hn' : n0 ≤ A'.1.length := Nat.le_trans hn q5
  have hes : st.map (mj_v ad') = st.map (mj_v ad) := List.map_congr_left (fun v hv => mj_bd_ext (List.all_eq_true.mp hbs v hv) q4 hmil)
  have hel : mj_ls ad' ls = mj_ls ad ls := by
    unfold mj_ls
    exact List.map_congr_left (fun q hq => by rw [mj_bd_ext (List.all_eq_true.mp hbl q hq) q4 hmil])
  have hZ' : mj_Z sc ad' F s := by
    cases sc with
    | none => trivial
    | some q =>
      have e9 : ad' 1000000 = ad 1000000 := q4 1000000 (Or.inr hmil)
      show va_X (ad' 1000000) q.1 q.2 s s.heap ∧ ad' 1000000 < s.heap.size ∧ ¬ F (ad' 1000000)
      rw [e9]; exact hZ
  have ho : o = .returned (v.map (mj_v ad')) := q2
  have hst := q9 _ ho
  obtain ⟨t, a1, b1⟩ := kr v A' q1 p l e R s m args below meth c U.heap L k n F nc ns D ad' ad0 cy' n0 lsC hX hZ' q3 hE' hn' q6 q7 q8 (by rw [hel]; exact hl) U rfl X'
  refine ⟨t, hst.trans ?_, b1⟩
  have e1 : ({ F0 m pc lsC (st.map (mj_v ad)) with pc := pc + 3, stack := (v.map (mj_v ad')).toList ++ st.map (mj_v ad) } : JFrame) = F0 m (pc + 3) lsC ((v.toList ++ st).map (mj_v ad')) := by
    rw [← hes]
    cases v <;> rfl
  rw [← e1] at a1
  exact a1
def mj_ci (own : String) (index : Nat) (y' : MethodName) : Prop := (Cond.methodLink own index y' ∈ tw_tbl ∨ ∃ host, Cond.methodLinkNest own index y' host ∈ tw_tbl) ∧ Cond.instanceMethod y' ∈ tw_tbl ∧ Cond.initialized y'.cls ∈ tw_tbl ∧ (y'.cls ≠ "java/lang/invoke/MethodHandle" ∧ y'.cls ≠ "java/lang/invoke/VarHandle") ∧ plainName y'.cls = true ∧ y'.name = "<init>"
theorem G_calli {index b : Nat} (hd : decode cc pc = .ok (.invokespecial index, 3)) (hci : mj_ci y.cls index y') (hcw : Cond.code y' cc' nL' none ∈ tw_tbl) (hn1 : (parseMethodDescriptor y'.desc).map (fun d => d.parameters.length) = some As.length) (hsl : (lg_sl (.ref b :: As)).length ≤ nL') (hw : (st.map fun v => v.category).sum + (nL' + 11) ≤ 41)
    (hG : mj_G y' cc' nL' none [] d none 0 (lv_args 0 (.ref b :: As)) [] A post') (hlen : ∀ out A', post' out A' → A'.1.length ≤ 1000000 ∧ ∃ v, out = .inl v) (hbl : ls.all (fun q => mj_bd A.1.length q.2) = true) (hbs : st.all (mj_bd A.1.length) = true)
    (kr : ∀ v A', post' (.inl v) A' → mj_G y cc nL rt hh (d + 1) sc (pc + 3) ls (v.toList ++ st) A' post) :
    mj_G y cc nL rt hh (d + 1) sc pc ls (As.reverse ++ .ref b :: st) A post := by
  intro p l e R s m args below meth c H locs cells slots F nc ns D ad ad0 cy n0 lsC hX hZ hH hE hn hS hc hs hl
  obtain ⟨w1, w2, w4, w6, w7, w8⟩ := hci
  have hts := hX.2.2.2.2.2.2.2.2.1
  intro T hT X
  have hpl : e.platform.magicAccessors = ({} : Platform).magicAccessors := by rw [X.admits.platform]
  have hlenA : ∀ sig, parseMethodDescriptor y'.desc = some sig → (As.map (mj_v ad)).length = sig.parameters.length := by
    intro sig h
    rw [h] at hn1
    rw [List.length_map]
    exact (Option.some.inj hn1).symm
  have hstk : (F0 m pc lsC ((As.reverse ++ .ref b :: st).map (mj_v ad))).stack = (As.map (mj_v ad)).reverse ++ .ref (ad b) :: st.map (mj_v ad) := by
    show (As.reverse ++ .ref b :: st).map (mj_v ad) = _
    rw [List.map_append, List.map_reverse]; rfl
  have hstep : ∃ (mk : MethodId) (vm₁ : Vm), s.methodNamed? y' = some mk ∧ s.WarmedH vm₁ ∧ ∀ target, (∀ acts, Steps p.tables e below (doInvoke e ((T.setVm vm₁).setTop (F0 m pc lsC (st.map (mj_v ad)))) acts mk (((.ref b :: As).map (mj_v ad)).toArray)).1 target) → Steps p.tables e below (T.setTop (F0 m pc lsC ((As.reverse ++ .ref b :: st).map (mj_v ad)))) target := by
    rcases w1 with w1 | ⟨host, w1⟩
    · obtain ⟨mk, methM, cM, kP, vm₁, hnamed, hmethM, hcodeM, -, hlocalsM, -, hkP, -, hW₁, hstep₁⟩ := Steps.initColdArgs (e := e) X.here hX.1 X.warmed hpl hX.2.2.2.2.2.2.2.1 w8 w6 (hts _ w1) (hts _ w2) (hts _ hcw) (f := F0 m pc lsC ((As.reverse ++ .ref b :: st).map (mj_v ad))) rfl hlenA hstk (by rw [hX.2.2.1]; exact hd)
      exact ⟨mk, vm₁, hnamed, hW₁, hstep₁⟩
    · obtain ⟨mk, methM, cM, kP, vm₁, hnamed, hmethM, hcodeM, -, hlocalsM, -, hkP, -, hW₁, hstep₁⟩ := Steps.initColdArgsNest (e := e) X.here hX.1 X.warmed hpl hX.2.2.2.2.2.2.2.1 w8 w6 (hts _ w1) (hts _ w2) (hts _ hcw) (f := F0 m pc lsC ((As.reverse ++ .ref b :: st).map (mj_v ad))) rfl hlenA hstk (by rw [hX.2.2.1]; exact hd)
      exact ⟨mk, vm₁, hnamed, hW₁, hstep₁⟩
  obtain ⟨mk, vm₁, hnamed, hW₁, hstep₁⟩ := hstep
  have X₁ := X.noted hW₁
  have hAf := mj_inv (T := T.setVm vm₁) (As := .ref b :: As) X₁ hX (by show mj_Hp D F ad cy A.1 s T.heap; rw [hT]; exact hH) (by show va_S F s.heap T.heap locs; rw [hT]; exact hS) hc hs (Or.inl ⟨hcw, rfl⟩) w4 w7 hsl hG (g := F0 m pc lsC (st.map (mj_v ad))) rfl (by rw [hX.2.2.2.1]; exact hl.1) (by rw [hX.2.2.1]; exact hd)
    (by show 2 * 0 + ((st.map (mj_v ad)).map fun v => v.category).sum + (nL' + 11) ≤ 41; rw [List.map_map]; have : ((fun v : Value => v.category) ∘ mj_v ad) = fun v => v.category := funext (mj_cat ad); rw [this]; omega) (X₁.named hnamed)
  obtain ⟨t, a1, b1⟩ := mj_afterN (ls := ls) (sc := sc) hX hZ hE hn hl hlen hbl hbs hAf kr
  exact ⟨t, hstep₁ t (fun acts => by rw [doInvoke_state]; exact a1), b1⟩
theorem G_obj {index b : Nat} (hd : decode cc pc = .ok (.invokespecial index, 3)) (hlk : Cond.methodLink y.cls index Lib.objectInit ∈ tw_tbl) (hw : (st.map fun v => v.category).sum + 12 ≤ 41) (k : mj_G y cc nL rt hh (d + 1) sc (pc + 3) ls st A post) : mj_G y cc nL rt hh (d + 1) sc pc ls (.ref b :: st) A post := by
  intro p l e R s m args below meth c H locs cells slots F nc ns D ad ad0 cy n0 lsC hX hZ hH hE hn hS hc hs hl
  have hts := hX.2.2.2.2.2.2.2.2.1
  have hroom := hX.2.2.2.2.2.2.2.2.2.2.1
  refine W.objInit (a := ad b) (rest := st.map (mj_v ad)) hX.1 hX.2.2.1 hX.2.2.2.2.2.2.2.1 (hts _ hlk) (hts (.instanceMethod Lib.objectInit) (by decide +kernel)) (hts (.code Lib.objectInit ⟨#[0xb1]⟩ 1 none) (by decide +kernel)) rfl (by rw [hX.2.2.2.1]; exact hl.1) rfl hd (by rw [hroom.1]; omega) ?_ ?_
  · show 2 * 0 + ((st.map (mj_v ad)).map fun v => v.category).sum + 12 ≤ R.locals
    rw [List.map_map]
    have : ((fun v : Value => v.category) ∘ mj_v ad) = fun v => v.category := funext (mj_cat ad)
    rw [this]
    have := hroom.2.1
    omega
  · exact k _ _ _ _ _ _ _ _ _ _ _ _ _ _ _ _ _ _ _ _ _ _ _ hX hZ hH hE hn hS hc hs hl
end GC3
