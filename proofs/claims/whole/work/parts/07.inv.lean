/-! a call: from a callee's judgement to the caller's next state, whether it returns or throws -/
def mj_cw (y : MethodName) (cc : ByteArray) (nL : Nat) (rt : Option FieldType) (hh : List (Nat × Nat × Nat × Nat)) : Prop := (Cond.code y cc nL rt ∈ tw_tbl ∧ hh = []) ∨ Cond.codeWith y cc nL rt hh ∈ tw_tbl
theorem mj_cw_spec {y : MethodName} {cc : ByteArray} {nL : Nat} {rt : Option FieldType} {hh : List (Nat × Nat × Nat × Nat)} {args : Array Value} {s : State} {mk : MethodId} (h : mj_cw y cc nL rt hh) (hts : ∀ w ∈ tw_tbl, w.before args s = true) (hn : s.methodNamed? y = some mk) :
    ∃ meth c, s.vm.method? mk = some meth ∧ meth.code = some c ∧ c.code = cc ∧ c.maxLocals = nL ∧ meth.sig.returnType = rt ∧ meth.locks = false ∧ c.exceptionTable.toList.map (fun h => (h.startPc, h.endPc, h.handlerPc, h.catchType)) = hh ∧ parseMethodDescriptor y.desc = some meth.sig := by
  rcases h with ⟨h, rfl⟩ | h
  · obtain ⟨meth, c, h1, h2, h3, h4, h5, h6, h7, h8⟩ := Cond.code_spec hn (hts _ h)
    refine ⟨meth, c, h1, h2, h3, h4, h5, h6, ?_, h8⟩
    have h0 : c.exceptionTable.toList = [] := by simpa [Array.isEmpty] using h7
    rw [h0]; rfl
  · obtain ⟨m9, meth, c, hn9, h1, h2, h3, h4, h7, h5, h6, h8⟩ := Cond.codeWith_spec (hts _ h)
    cases hn.symm.trans hn9
    exact ⟨meth, c, h1, h2, h3, h4, h5, h6, h7, h8⟩
theorem mj_args (ad : Nat → Nat) (As : List Value) : ∀ i, lv_args i (As.map (mj_v ad)) = mj_ls ad (lv_args i As) := by
  induction As with
  | nil => intro i; rfl
  | cons v vs ih =>
    intro i
    show (i, mj_v ad v) :: lv_args (if (mj_v ad v).category = 2 then i + 2 else i + 1) (vs.map (mj_v ad)) = (i, mj_v ad v) :: mj_ls ad (lv_args (if v.category = 2 then i + 2 else i + 1) vs)
    rw [mj_cat, ih]
theorem mj_sl (ad : Nat → Nat) (As : List Value) : (lg_sl (As.map (mj_v ad))).length = (lg_sl As).length := by
  induction As with
  | nil => rfl
  | cons v vs ih =>
    have e : ∀ (w : Value) (ws : List Value), (lg_sl (w :: ws)).length = (if w.category = 2 then 2 else 1) + (lg_sl ws).length := fun w ws => by
      unfold lg_sl
      rw [List.flatMap_cons, List.length_append]
      split <;> rfl
    rw [List.map_cons, e, e, mj_cat, ih]
theorem mj_plain {D : va_G} {F : Nat → Prop} {ad : Nat → Nat} {cy : Nat → ClassId} {A : List mj_C} {U : State} {H : Heap} {k : Nat} (h : mj_Hp D F ad cy A U H) (hk : k < A.length) : ∃ cell : Cell, H[ad k]? = some cell ∧ cell.vm = .none := by
  have hg : A[k]? = some A[k] := List.getElem?_eq_getElem hk
  have hw := h.1 k _ (mj_W_get hg)
  generalize A[k] = cc at hg hw
  rcases cc with q | q
  · have h1 : H[ad k]? = some (vp_cell (cy k) (mj_A ad q.2)) := hw
    refine ⟨_, h1, ?_⟩
    unfold vp_cell
    split <;> rfl
  · obtain ⟨r, -, cell, q1, -, q3, -⟩ := hw
    exact ⟨cell, q1, q3⟩
section GC
variable {p : Program} {l : Launch} {e : Env} {R : Room} {s : State} {m : MethodId} {args : Array Value} {below : List Frame} {meth : Method} {c : Code} {T : State} {locs : List Loc} {cells slots : Nat} {F : Nat → Prop} {nc ns : Nat} {D : va_G} {ad : Nat → Nat} {cy : Nat → ClassId} {A : mj_H}
variable {y : MethodName} {cc : ByteArray} {nL : Nat} {rt : Option FieldType} {hh : List (Nat × Nat × Nat × Nat)} {d : Nat}
variable {y' : MethodName} {cc' : ByteArray} {nL' : Nat} {rt' : Option FieldType} {hh' : List (Nat × Nat × Nat × Nat)} {As : List Value} {post' : mj_O → mj_H → Prop}
def mj_F (A : List mj_C) (ad : Nat → Nat) (z : Nat) : Nat → Prop := fun q => (∃ k, k < A.length ∧ q = ad k) ∨ z ≤ q
theorem mj_F_in (hH : mj_Hp D F ad cy A.1 s T.heap) (hS : va_S F s.heap T.heap locs) (hA : ∀ q, s.heap.size ≤ q → F q) : ∀ q, mj_F A.1 ad T.heap.size q → F q := by
  intro q hq
  rcases hq with ⟨k, hk, rfl⟩ | h
  · exact hH.2.1.2 k _ (mj_W_get (List.getElem?_eq_getElem hk))
  · exact hA q (Nat.le_trans hS.1 h)
theorem mj_met (hX : mj_X y cc nL rt hh (d + 1) p e R s m args meth c F nc ns) (hW : s.WarmedH T.vm) (hH : mj_Hp D F ad cy A.1 s T.heap) (hS : va_S F s.heap T.heap locs) (hc : A.2.1 = nc + cells ∧ A.2.1 ≤ 601024) (hs : A.2.2 = ns + slots ∧ A.2.2 ≤ 7293034)
    (hcw : mj_cw y' cc' nL' rt' hh') (hpl : plainName y'.cls = true) (hsl : (lg_sl As).length ≤ nL') (hG : mj_G y' cc' nL' rt' hh' d none 0 (lv_args 0 As) [] A post') :
    MetFree l y' (headSpec tw_tbl { frames := d, cells := R.cells - cells, slots := R.slots - slots, locals := 41 * d }) (fun a st => a = (As.map (mj_v ad)).toArray ∧ st.heap = T.heap ∧ st.vm = T.vm) (fun _ e _ _ _ => e.platform.stackTraces = false)
      (fun a st o t => mj_fin st (mj_F A.1 ad T.heap.size) D ad A.1.length A.2.1 A.2.2 post' o t) := by
  refine MetFree.of_bodyS (code := cc') (maxLocals := nL') (ret := rt') hpl ?_ ?_
  · intro args2 s2 m2 h hn
    obtain ⟨meth2, c2, h1, h2, h3, h4, h5, h6, -⟩ := mj_cw_spec hcw (atoms_spec (ws := tw_tbl) h) hn
    exact ⟨meth2, c2, h1, h2, h3, h4, h5, h6⟩
  · intro p2 e2 s2 m2 args2 below2 meth2 c2 s1 B hml hP hK
    obtain ⟨rfl, hheap, hvm⟩ := hP
    have hts := atoms_spec (ws := tw_tbl) B.pre
    have hFin := mj_F_in hH hS hX.2.2.2.2.2.2.2.2.2.2.2.1
    have hal : s.vm.Alike s2.vm := by rw [hvm]; exact hW.alike
    have hH2 : mj_Hp D (mj_F A.1 ad T.heap.size) ad cy A.1 s2 s2.heap := by
      refine ⟨by rw [hheap]; exact hH.1, ⟨hH.2.1.1, fun k q hq => ?_⟩, va_K.moved hal hH.2.2.1, fun k q hq => ?_, hH.2.2.2.2⟩
      · have hlt : k < A.1.length := by
          have := (List.getElem?_eq_some_iff.mp hq).1
          rw [mj_W_len] at this; exact this
        have := mj_W_get (ad := ad) (cy := cy) (List.getElem?_eq_getElem hlt)
        rw [this] at hq
        cases hq
        exact Or.inl ⟨k, hlt, rfl⟩
      · exact (va_K.moved hal (mj_K1 hH hq)).2 0 _ rfl
    have hh0 : s1.heap = s2.heap := by rw [B.state]; rfl
    obtain ⟨meth9, c9, g1, g2, -, -, -, -, g7, -⟩ := mj_cw_spec hcw hts B.named
    cases B.method.symm.trans g1
    cases (Stand.of_body B).code.symm.trans g2
    have hXc : mj_X y' cc' nL' rt' hh' d p2 e2 { frames := d, cells := R.cells - cells, slots := R.slots - slots, locals := 41 * d } s2 m2 (As.map (mj_v ad)).toArray meth2 c2 (mj_F A.1 ad T.heap.size) A.2.1 A.2.2 := by
      refine ⟨B.exec, hK, B.bytes, hml, B.returns, B.notSynchronized, (name_of_methodNamed B.named B.method).1, findClass_of_methodNamed B.named, hts, g7, ⟨rfl, Nat.le_refl _, ?_, ?_⟩, fun q hq => Or.inr (by rw [← hheap]; exact hq), fun q cell hq hcell => ?_, ?_, ?_, va_Nc.moved hal hX.2.2.2.2.2.2.2.2.2.2.2.2.2.2.2⟩
      · have := hX.2.2.2.2.2.2.2.2.2.2.1.2.2.1
        show R.cells - cells + A.2.1 = 601024
        omega
      · have := hX.2.2.2.2.2.2.2.2.2.2.1.2.2.2
        show R.slots - slots + A.2.2 = 7293034
        omega
      · rcases hq with ⟨k, hk, rfl⟩ | h
        · obtain ⟨cell9, h1, h2⟩ := mj_plain hH2 hk
          rw [h1] at hcell
          cases hcell
          rw [h2]; rfl
        · rw [← hheap] at h
          rw [Array.getElem?_eq_none h] at hcell
          cases hcell
      · rw [hheap]
        exact mj_st_moved hX.2.2.2.2.2.2.2.2.2.2.2.2.2.1 hal (fun a h1 h2 => hS.2.1 a h1 h2) hFin
      · rw [hheap]
        exact mj_st_moved hX.2.2.2.2.2.2.2.2.2.2.2.2.2.2.1 hal (fun a h1 h2 => hS.2.1 a h1 h2) hFin
    have hl := lv_entry (As.map (mj_v ad)) (n := nL') (by rw [mj_sl]; exact hsl)
    rw [mj_args] at hl
    rw [lg_entry_eq]
    generalize (lg_sl (As.map (mj_v ad)) ++ List.replicate (nL' - (lg_sl (As.map (mj_v ad))).length) Slot.unset).toArray = lsC at hl ⊢
    have K := hG p2 l e2 _ s2 m2 (As.map (mj_v ad)).toArray below2 meth2 c2 s2.heap [] 0 0 (mj_F A.1 ad T.heap.size) A.2.1 A.2.2 D ad ad cy A.1.length lsC hXc trivial hH2 (fun _ _ => rfl) (Nat.le_refl _) va_S.rf ⟨rfl, hc.2⟩ ⟨rfl, hs.2⟩ hl
    obtain ⟨t, a1, o, b1, b2, b3⟩ := K s1 hh0 (Stand.of_body B)
    exact ⟨t, o, a1, b1, b2, b3⟩
end GC
