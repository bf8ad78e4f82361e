/-! a thrown exception is caught by the caller -/
section GK
theorem mj_go {Q : Handler → Pre} {E : CtlPost} {e : Env} {d : Bool} {acts : List Action} {s : State} {f : JFrame} {a : Addr} {x : ExceptionTableEntry} {t : List ExceptionTableEntry} {c : ClassId} {cell : Cell} (hx : covers x f.pc = true) (h0 : x.catchType ≠ 0)
    (hl : s.vm.ClassLinks e.platform f.method.cls x.catchType c) (hcell : s.heap[a]? = some cell) (hobj : ∀ k, cell.vm ≠ .statics k) (hk : ∃ k, s.vm.classes[cell.cls]? = some k) (hc : ∃ k, s.vm.classes[c]? = some k) :
    wp (findHandler.go f a (x :: t)) Q E e d acts s ↔ if s.vm.assignable cell.cls c = true then Q (.found x.handlerPc) d acts (s.setVm (s.vm.noted f.method.cls x.catchType (.cls c))) else wp (findHandler.go f a t) Q E e d acts (s.setVm (s.vm.noted f.method.cls x.catchType (.cls c))) := by
  simp only [covers] at hx
  obtain ⟨ha, ht⟩ := (resolveClass_links e.toSetting hl).op (op := VmOp.resolveClass f.method.cls x.catchType) rfl
  have hal : s.vm.Alike (s.vm.noted f.method.cls x.catchType (.cls c)) := (Vm.Alike.refl s.vm).noted _ _ _
  obtain ⟨k1, hk1⟩ := hk
  obtain ⟨k2, hk2⟩ := hc
  obtain ⟨k1', hk1', -⟩ := hal.2.2 _ _ hk1
  obtain ⟨k2', hk2', -⟩ := hal.2.2 _ _ hk2
  have hfit' : (s.vm.noted f.method.cls x.catchType (.cls c)).assignable cell.cls c = s.vm.assignable cell.cls c := hal.assignable ..
  cases hfit : s.vm.assignable cell.cls c <;>
    simp [findHandler.go, hx, h0, ha, ht, hcell, hobj, hk1', hk2', hfit', hfit, VmOp.dirties, VmOp.acts]
/-- where the handlers' list finds an exception of the kind C: at tgt; those ahead of it are for the other kind -/
def mj_hc (own : String) (hh : List (Nat × Nat × Nat × Nat)) (pc C tgt : Nat) : Prop := ∃ (pre : List (Nat × Nat × Nat × Nat)) (s0 e0 ct : Nat) (rest : List (Nat × Nat × Nat × Nat)), hh = pre ++ (s0, e0, tgt, ct) :: rest ∧ (s0 ≤ pc ∧ pc < e0) ∧ ct ≠ 0 ∧ Cond.classLink own ct (mj_ex C) ∈ tw_tbl ∧ Cond.castable (mj_ex C) (mj_ex C) ∈ tw_tbl ∧
  ∀ q ∈ pre, (q.1 ≤ pc ∧ pc < q.2.1) ∧ q.2.2.2 ≠ 0 ∧ C = 1 ∧ Cond.classLink own q.2.2.2 (mj_ex 0) ∈ tw_tbl
theorem mj_search {e : Env} {s : State} {f : JFrame} {a : Addr} {args : Array Value} {own : String} {cell : Cell} (hpl : e.platform.magicAccessors = ({} : Platform).magicAccessors) (hown : s.vm.findClass own = some f.method.cls) (hobj : cell.vm.isStatics = false) {x : ExceptionTableEntry} {rest : List ExceptionTableEntry} {nm : String} {cT : ClassId} (hx : covers x f.pc = true) (h0 : x.catchType ≠ 0)
    (hlink : (Cond.classLink own x.catchType nm).before args s = true) (hcT : s.vm.findClass nm = some cT) (hfit : s.vm.assignable cell.cls cT = true) :
    ∀ (pre : List ExceptionTableEntry) (U : State), s.WarmedH U.vm → U.heap[a]? = some cell → (∀ z ∈ pre, covers z f.pc = true ∧ z.catchType ≠ 0 ∧ ∃ (n9 : String) (c9 : ClassId), (Cond.classLink own z.catchType n9).before args s = true ∧ s.vm.findClass n9 = some c9 ∧ s.vm.assignable cell.cls c9 = false) →
      ∃ vm', s.WarmedH vm' ∧ ∀ (Q : Handler → Pre) (E : CtlPost) (d : Bool) (acts : List Action), wp (findHandler.go f a (pre ++ x :: rest)) Q E e d acts U ↔ Q (.found x.handlerPc) d acts (U.setVm vm') := by
  have one : ∀ (z : ExceptionTableEntry) (n9 : String) (c9 : ClassId) (U : State), s.WarmedH U.vm → (Cond.classLink own z.catchType n9).before args s = true → s.vm.findClass n9 = some c9 → U.vm.ClassLinks e.platform f.method.cls z.catchType c9 ∧ s.WarmedH (U.vm.noted f.method.cls z.catchType (.cls c9)) ∧ ∃ k, U.vm.classes[c9]? = some k := by
    intro z n9 c9 U hW hl hf
    obtain ⟨c', hc', hcl⟩ := Cond.classLink_spec hown hl e.platform hpl
    cases hf.symm.trans hc'
    obtain ⟨dk, _, _, kt, hd, _, _, _, _, hkt, _, hopen⟩ := hcl.here
    obtain ⟨kt', hkt', -⟩ := hW.alike.2.2 _ _ hkt
    exact ⟨hW.classLinks hcl, hW.noted hd hopen (State.rightAt_cls hcl), kt', hkt'⟩
  obtain ⟨hkT0⟩ : ∃ k, s.vm.classes[cT]? = some k := Vm.classAt_of_findClass hcT
  have hcellK : ∃ k, s.vm.classes[cell.cls]? = some k := Vm.classAt_of_assignable hfit (Vm.classAt_of_findClass hcT)
  intro pre
  induction pre with
  | nil =>
    intro U hW hcell _
    obtain ⟨h1, h2, h3⟩ := one x nm cT U hW hlink hcT
    have hk : ∃ k, U.vm.classes[cell.cls]? = some k := by
      obtain ⟨k, hk⟩ := hcellK
      obtain ⟨k', hk', -⟩ := hW.alike.2.2 _ _ hk
      exact ⟨k', hk'⟩
    refine ⟨_, h2, fun Q E d acts => ?_⟩
    have hfU : U.vm.assignable cell.cls cT = true := by rw [hW.alike.assignable]; exact hfit
    rw [List.nil_append, mj_go hx h0 h1 hcell (VmData.ne_statics_of hobj) hk h3, if_pos hfU]
  | cons z zs ih =>
    intro U hW hcell hz
    obtain ⟨z1, z2, n9, c9, z3, z4, z5⟩ := hz z List.mem_cons_self
    obtain ⟨h1, h2, h3⟩ := one z n9 c9 U hW z3 z4
    have hk : ∃ k, U.vm.classes[cell.cls]? = some k := by
      obtain ⟨k, hk⟩ := hcellK
      obtain ⟨k', hk', -⟩ := hW.alike.2.2 _ _ hk
      exact ⟨k', hk'⟩
    obtain ⟨vm', g1, g2⟩ := ih (U.setVm (U.vm.noted f.method.cls z.catchType (.cls c9))) h2 hcell (fun w hw => hz w (List.mem_cons_of_mem _ hw))
    refine ⟨vm', g1, fun Q E d acts => ?_⟩
    have hfU : ¬ U.vm.assignable cell.cls c9 = true := by rw [hW.alike.assignable, z5]; decide
    rw [List.cons_append, mj_go z1 z2 h1 hcell (VmData.ne_statics_of hobj) hk h3, if_neg hfU]
    exact g2 Q E d acts
theorem mj_stepCatch {tb : Tables} {e : Env} {s target : State} {g : JFrame} {c : Code} {below : List Frame} {a : Addr} (h : At s g.method c below) {pc : Nat} {vm' : Vm}
    (hfind : ∀ (Q : Handler → Pre) (E : CtlPost) (d : Bool) (acts : List Action), wp (findHandler g a) Q E e d acts ((s.setTop g).pushFrame (.throwing a)) ↔ Q (.found pc) d acts (((s.setTop g).pushFrame (.throwing a)).setVm vm')) (hrest : Steps tb e below ((s.setVm vm').setTop { g with pc := pc, stack := [.ref a] }) target) :
    Steps tb e below ((s.setTop g).pushFrame (.throwing a)) target := by
  obtain ⟨hgo, hw⟩ := h.throwing a
  refine Steps.head hgo hw ?_
  obtain ⟨g₀, hg⟩ := Option.isSome_iff_exists.mp h.top
  obtain ⟨r, hr⟩ := State.topJava?_eq_some.mp hg
  have his : ∀ (w : State), (∀ (Q : Handler → Pre) (E : CtlPost) (d : Bool) (acts : List Action), wp (findHandler g a) Q E e d acts w ↔ Q (.found pc) d acts (w.setVm vm')) → ∀ r9 : List Frame, (stepThrowing e w a (.java g :: r9)).Is ((w.setVm vm').setFrames (.java { g with pc := pc, stack := [.ref a] } :: r9)) [] := by
    intro w hf r9
    simp only [stepThrowing, searchFrame, vmDo]
    generalize hres : Sem.go _ e false [] w = res
    obtain ⟨as, rfl, ha⟩ := Sem.eq_ok_of hres (a := Handler.found pc) (s' := w.setVm vm') (acts' := []) (by simp [hf])
    exact ⟨rfl, ha⟩
  rw [stepThread_throwing (frames_entered h.top _), (his _ hfind _).1]
  have hr' : (s.setVm vm').frames = .java g₀ :: r := hr
  rw [State.setTop_of_frames _ hr'] at hrest
  have e1 : ∀ (u : State) (F G : List Frame), ((u.setFrames F).setVm vm').setFrames G = (u.setVm vm').setFrames G := fun u F G => by
    have h1 : (u.setFrames F).setVm vm' = (u.setVm vm').setFrames F := rfl
    rw [h1, State.setFrames_setFrames]
  rw [hr, List.tail_cons, State.pushFrame, e1, State.setTop_of_frames _ hr, e1]
  exact hrest
variable {p : Program} {l : Launch} {e : Env} {R : Room} {s : State} {m : MethodId} {args : Array Value} {below : List Frame} {meth : Method} {c : Code} {locs : List Loc} {cells slots : Nat} {F : Nat → Prop} {nc ns : Nat} {D : va_G} {ad ad0 : Nat → Nat} {cy : Nat → ClassId} {n0 : Nat} {lsC : Array Slot}
variable {y : MethodName} {cc : ByteArray} {nL : Nat} {rt : Option FieldType} {hh : List (Nat × Nat × Nat × Nat)} {d : Nat} {sc : Option (Nat × (Nat → Int32))} {pc : Nat} {ls : List (Nat × Value)} {st : List Value} {A : mj_H} {post : mj_O → mj_H → Prop}
variable {y' : MethodName} {cc' : ByteArray} {nL' : Nat} {rt' : Option FieldType} {hh' : List (Nat × Nat × Nat × Nat)} {As : List Value} {post' : mj_O → mj_H → Prop}
theorem mj_caught {U : State} {x : Addr} {C tgt : Nat} {cell : Cell} {g : JFrame} (X : Stand p l e R s m args below meth c U locs cells slots) (hX : mj_X y cc nL rt hh d p e R s m args meth c F nc ns) (hg : g.method = m) (hpc : g.pc = pc) (hhc : mj_hc y.cls hh pc C tgt) (hcell : U.heap[x]? = some cell) (hobj : cell.vm.isStatics = false) (hcls : s.vm.findClass (mj_ex C) = some cell.cls) :
    ∃ vm', Stand p l e R s m args below meth c (U.setVm vm') locs cells slots ∧ ∀ target, Steps p.tables e below ((U.setVm vm').setTop { g with pc := tgt, stack := [.ref x] }) target → Steps p.tables e below ((U.setTop g).pushFrame (.throwing x)) target := by
  subst hg
  have hpl : e.platform.magicAccessors = ({} : Platform).magicAccessors := by rw [X.admits.platform]
  obtain ⟨pre, s0, e0, ct, rest, h1, h2, h3, h4, h5, h6⟩ := hhc
  have hts := hX.2.2.2.2.2.2.2.2.1
  have htab := hX.2.2.2.2.2.2.2.2.2.1
  rw [h1] at htab
  obtain ⟨preT, restT, t1, t2, t3⟩ := List.map_eq_append_iff.mp htab
  obtain ⟨xE, restE, u1, u2, u3⟩ := List.map_eq_cons_iff.mp t3
  subst u1
  have ux1 : xE.startPc = s0 := congrArg (·.1) u2
  have ux2 : xE.endPc = e0 := congrArg (·.2.1) u2
  have ux3 : xE.handlerPc = tgt := congrArg (·.2.2.1) u2
  have ux4 : xE.catchType = ct := congrArg (·.2.2.2) u2
  obtain ⟨c1, c2, k1, k2, k3⟩ := Cond.castable_spec (hts _ h5)
  cases hcls.symm.trans k1
  cases hcls.symm.trans k2
  obtain ⟨vm', g1, g2⟩ := mj_search (e := e) (s := s) (f := g) (a := x) (args := args) (own := y.cls) (cell := cell) hpl hX.2.2.2.2.2.2.2.1 hobj (x := xE) (rest := restE) (nm := mj_ex C) (cT := cell.cls) (by simp only [covers, hpc, ux1, ux2]; simp [h2]) (by rw [ux4]; exact h3) (by rw [ux4]; exact hts _ h4) hcls k3 preT ((U.setTop g).pushFrame (.throwing x)) X.warmed hcell (by
    intro z hz
    have hzm : (z.startPc, z.endPc, z.handlerPc, z.catchType) ∈ pre := by rw [← t2]; exact List.mem_map.mpr ⟨z, hz, rfl⟩
    obtain ⟨w1, w2, w3, w4⟩ := h6 _ hzm
    have w1' : z.startPc ≤ pc ∧ pc < z.endPc := w1
    refine ⟨by simp only [covers, hpc]; simp [w1'], w2, ?_⟩
    subst w3
    obtain ⟨cc1, cc2, v1, v2, v3⟩ := hX.2.2.2.2.2.2.2.2.2.2.2.2.2.2.2
    cases hcls.symm.trans v1
    exact ⟨mj_ex 0, cc2, hts _ w4, v2, v3⟩)
  refine ⟨vm', X.noted g1, fun target hrest => ?_⟩
  refine mj_stepCatch X.here (vm' := vm') (pc := tgt) (fun Q E d acts => ?_) hrest
  rw [W.findHandler_eq (s := (U.setTop g).pushFrame (.throwing x)) (meth := meth) (code := c) X.method' X.code, t1, ← ux3]
  exact g2 Q E d acts
theorem mj_lv_tl {ls : Array Slot} {nL : Nat} {q : Nat × Value} {l : List (Nat × Value)} (h : lv_has ls nL (q :: l)) : lv_has ls nL l := ⟨h.1, h.2.1, fun z hz => h.2.2 z (List.mem_cons_of_mem _ hz)⟩
/-- behind a call that may throw what this method catches: the handler's first instruction stores the exception away -/
theorem mj_afterC {S0 : State} (hX : mj_X y cc nL rt hh d p e R s m args meth c F nc ns) (hZ : mj_Z sc ad F s) (hE : mj_Ext ad ad0 n0 A.1.length) (hn : n0 ≤ A.1.length) (hl : lv_has lsC nL (mj_ls ad ls))
    (hlen : ∀ out A', post' out A' → A'.1.length = A.1.length)
    (h : mj_Af p l e R s m args below meth c F D nc ns ad A.1.length post' S0 (F0 m pc lsC (st.map (mj_v ad))) 3)
    (kr : ∀ v A', post' (.inl v) A' → mj_G y cc nL rt hh d sc (pc + 3) ls (v.toList ++ st) A' post)
    (kt : ∀ C A', post' (.inr C) A' → ∃ tgt i len, mj_hc y.cls hh pc C tgt ∧ ((∃ w4 : Fin 4, decode cc tgt = .ok (.astore_n w4, 1) ∧ (w4 : Nat) = i ∧ len = 1) ∨ (decode cc tgt = .ok (.astore i, 2) ∧ len = 2)) ∧ i < nL ∧ mj_G y cc nL rt hh d sc (tgt + len) (ls.filter (fun q => !(q.1 == i) && !(q.1 + 1 == i && q.2.category == 2))) [] A' post) : ∃ t, Steps p.tables e below S0 t ∧ mj_end below s F D ad0 n0 nc ns post t := by
  obtain ⟨o, U, L, k, n, out, A', ad', cy', X', q1, q2, q3, q4, q5, q6, q7, q8, q9, q10⟩ := h
  have hl' := hlen out A' q1
  have he : ad' = ad := funext fun j => q4 j (by rw [hl']; exact Nat.lt_or_ge j _)
  subst he
  have hE' : mj_Ext ad' ad0 n0 A'.1.length := by rw [hl']; exact hE
  have hn' : n0 ≤ A'.1.length := by rw [hl']; exact hn
  rcases out with v | C
  · have ho : o = .returned (v.map (mj_v ad')) := q2
    have hst := q9 _ ho
    obtain ⟨t, a1, b1⟩ := kr v A' q1 p l e R s m args below meth c U.heap L k n F nc ns D ad' ad0 cy' n0 lsC hX hZ q3 hE' hn' q6 q7 q8 hl U rfl X'
    refine ⟨t, hst.trans ?_, b1⟩
    have e1 : ({ F0 m pc lsC (st.map (mj_v ad')) with pc := pc + 3, stack := (v.map (mj_v ad')).toList ++ st.map (mj_v ad') } : JFrame) = F0 m (pc + 3) lsC ((v.toList ++ st).map (mj_v ad')) := by
      cases v <;> rfl
    rw [← e1] at a1
    exact a1
  · obtain ⟨x, cell, r1, r2, r3, r4⟩ := q2
    have hst := q10 x r1
    obtain ⟨tgt, i, len, k1, k2, k3, k4⟩ := kt C A' q1
    obtain ⟨vm', X2, hs2⟩ := mj_caught (g := F0 m pc lsC (st.map (mj_v ad'))) X' hX rfl rfl k1 r2 r3 r4
    have KW : W p l e R s m args below meth c U.heap L k n (mj_end below s F D ad0 n0 nc ns post) (F0 m tgt lsC [.ref x]) := by
      have hfl := mj_ls_f (ad := ad') (ls := ls) (fun a b => !(a == i) && !(a + 1 == i && b == 2))
      rcases k2 with ⟨w4, g1, g2, rfl⟩ | ⟨g1, rfl⟩
      · subst g2
        refine lv_astore_n (lv' := _) hX.1 hX.2.2.1 g1 rfl hl k3 rfl (fun lsC' hl2 => ?_)
        have hl3 := mj_lv_tl hl2
        rw [hfl] at hl3
        exact k4 p l e R s m args below meth c U.heap L k n F nc ns D ad' ad0 cy' n0 lsC' hX hZ q3 hE' hn' q6 q7 q8 hl3
      · refine lv_astore (lv' := _) hX.1 hX.2.2.1 g1 hl k3 rfl (fun lsC' hl2 => ?_)
        have hl3 := mj_lv_tl hl2
        rw [hfl] at hl3
        exact k4 p l e R s m args below meth c U.heap L k n F nc ns D ad' ad0 cy' n0 lsC' hX hZ q3 hE' hn' q6 q7 q8 hl3
    obtain ⟨t, a1, b1⟩ := KW (U.setVm vm') rfl X2
    exact ⟨t, hst.trans (hs2 t a1), b1⟩
theorem G_callvc {index ci b : Nat} {fs : List Value} (hd : decode cc pc = .ok (.invokevirtual index, 3)) (hcv : mj_cv y.cls index y' ci) (hcw : mj_cw y' cc' nL' rt' hh') (hb : A.1[b]? = some (.inr (ci, fs))) (hn1 : (parseMethodDescriptor y'.desc).map (fun d => d.parameters.length) = some As.length) (hsl : (lg_sl (.ref b :: As)).length ≤ nL') (hw : (st.map fun v => v.category).sum + (nL' + 11) ≤ 41)
    (hG : mj_G y' cc' nL' rt' hh' d none 0 (lv_args 0 (.ref b :: As)) [] A post') (hlen : ∀ out A', post' out A' → A'.1.length = A.1.length)
    (kr : ∀ v A', post' (.inl v) A' → mj_G y cc nL rt hh (d + 1) sc (pc + 3) ls (v.toList ++ st) A' post)
    (kt : ∀ C A', post' (.inr C) A' → ∃ tgt i len, mj_hc y.cls hh pc C tgt ∧ ((∃ w4 : Fin 4, decode cc tgt = .ok (.astore_n w4, 1) ∧ (w4 : Nat) = i ∧ len = 1) ∨ (decode cc tgt = .ok (.astore i, 2) ∧ len = 2)) ∧ i < nL ∧ mj_G y cc nL rt hh (d + 1) sc (tgt + len) (ls.filter (fun q => !(q.1 == i) && !(q.1 + 1 == i && q.2.category == 2))) [] A' post) :
    mj_G y cc nL rt hh (d + 1) sc pc ls (As.reverse ++ .ref b :: st) A post := by
  intro p l e R s m args below meth c H locs cells slots F nc ns D ad ad0 cy n0 lsC hX hZ hH hE hn hS hc hs hl
  obtain ⟨w1, w2, w3, w4, ⟨T0, N0, w5⟩, w6, w7⟩ := hcv
  have hts := hX.2.2.2.2.2.2.2.2.1
  obtain ⟨cellB, hcB, hoB, hclB⟩ := va_recv hH.2.2.1 hH.1 (ci := ci) (q0 := b) w5 (mj_W_get hb)
  intro T hT X
  obtain ⟨mk, methM, hnamed, hmethM, hstM, habM⟩ := Cond.instanceMethod_spec (hts _ w2)
  obtain ⟨methM', cM, hmethM', -, -, -, -, -, -, hsigM⟩ := mj_cw_spec hcw hts hnamed
  cases hmethM.symm.trans hmethM'
  obtain ⟨c2, r2, m2, q1, q2, q3, q4, kP, hkP, hkPi⟩ := Cond.selects_spec (hts _ w3)
  cases hclB.symm.trans q1
  cases (State.methodFound?_of_named hnamed w6).symm.trans q2
  cases hnamed.symm.trans q3
  have hselP : selectMethod e.platform s.vm cellB.cls mk = .method mk := by rw [Launch.admits_selectMethod X.admits]; exact q4
  have hlenA : (As.map (mj_v ad)).length = methM.sig.parameters.length := by
    rw [hsigM] at hn1
    rw [List.length_map]
    exact (Option.some.inj hn1).symm
  have hstk : (F0 m pc lsC ((As.reverse ++ .ref b :: st).map (mj_v ad))).stack = (As.map (mj_v ad)).reverse ++ .ref (ad b) :: st.map (mj_v ad) := by
    show (As.reverse ++ .ref b :: st).map (mj_v ad) = _
    rw [List.map_append, List.map_reverse]; rfl
  have hstep : ∃ (vm₁ : Vm), Stand p l e R s m args below meth c (T.setVm vm₁) locs cells slots ∧ ∀ target, (∀ acts, Steps p.tables e below (doInvoke e ((T.setVm vm₁).setTop (F0 m pc lsC (st.map (mj_v ad)))) acts mk (((.ref b :: As).map (mj_v ad)).toArray)).1 target) → Steps p.tables e below (T.setTop (F0 m pc lsC ((As.reverse ++ .ref b :: st).map (mj_v ad)))) target := by
    rcases w1 with w1 | ⟨host, w1⟩
    · obtain ⟨vm₁, X₁, hstep₁⟩ := X.invokevirtual hX.1 hX.2.2.2.2.2.2.2.1 (hts _ w1) hnamed hmethM hstM hkP hkPi w6 (a := ad b) (cell := cellB) (by rw [hT]; exact hcB)
        (fun z h => by rw [h] at hoB; cases hoB) hselP hmethM habM hkP hkPi (g := F0 m pc lsC ((As.reverse ++ .ref b :: st).map (mj_v ad))) rfl (argsL := As.map (mj_v ad)) (rest := st.map (mj_v ad)) hlenA hstk (by rw [hX.2.2.1]; exact hd)
      exact ⟨vm₁, X₁, hstep₁⟩
    · obtain ⟨vm₁, X₁, hstep₁⟩ := X.invokevirtualNest hX.1 hX.2.2.2.2.2.2.2.1 (hts _ w1) hnamed hmethM hstM hkP hkPi w6 (a := ad b) (cell := cellB) (by rw [hT]; exact hcB)
        (fun z h => by rw [h] at hoB; cases hoB) hselP hmethM habM hkP hkPi (g := F0 m pc lsC ((As.reverse ++ .ref b :: st).map (mj_v ad))) rfl (argsL := As.map (mj_v ad)) (rest := st.map (mj_v ad)) hlenA hstk (by rw [hX.2.2.1]; exact hd)
      exact ⟨vm₁, X₁, hstep₁⟩
  obtain ⟨vm₁, X₁, hstep₁⟩ := hstep
  have hAf := mj_inv (T := T.setVm vm₁) (As := .ref b :: As) X₁ hX (by show mj_Hp D F ad cy A.1 s T.heap; rw [hT]; exact hH) (by show va_S F s.heap T.heap locs; rw [hT]; exact hS) hc hs hcw w4 w7 hsl hG (g := F0 m pc lsC (st.map (mj_v ad))) rfl (by rw [hX.2.2.2.1]; exact hl.1) (by rw [hX.2.2.1]; exact hd)
    (by show 2 * 0 + ((st.map (mj_v ad)).map fun v => v.category).sum + (nL' + 11) ≤ 41; rw [List.map_map]; have : ((fun v : Value => v.category) ∘ mj_v ad) = fun v => v.category := funext (mj_cat ad); rw [this]; omega) (X₁.named hnamed)
  obtain ⟨t, a1, b1⟩ := mj_afterC (ls := ls) (sc := sc) hX hZ hE hn hl hlen hAf kr kt
  exact ⟨t, hstep₁ t (fun acts => by rw [doInvoke_state]; exact a1), b1⟩
end GK
