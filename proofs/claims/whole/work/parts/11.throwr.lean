def mj_up : List String := ["java/lang/RuntimeException", "java/lang/Exception"]
def mj_sp : List Cond := [.laysStatic Bundle.tN "UNASSIGNED_STACK" Bundle.steD, .laysStatic Bundle.tN "SUPPRESSED_SENTINEL" Bundle.listD, .isRef (.static Bundle.tN "UNASSIGNED_STACK" Bundle.steD), .isRef (.static Bundle.tN "SUPPRESSED_SENTINEL" Bundle.listD)]
def mj_tw (own : String) (ic : Nat) (C : Nat) : Prop := ∀ a ∈ Bundle.ownAtoms own ic (mj_ex C) mj_up, a ∈ tw_tbl ∨ a ∈ mj_sp
set_option maxRecDepth 100000 in
theorem mj_tw0 : mj_tw "ClauseGlass" 58 0 := by
  unfold mj_tw
  decide +kernel
set_option maxRecDepth 100000 in
theorem mj_tw1 : mj_tw "ClauseGlass" 43 1 := by
  unfold mj_tw
  decide +kernel
section GT2
variable {y : MethodName} {cc : ByteArray} {nL : Nat} {rt : Option FieldType} {hh : List (Nat × Nat × Nat × Nat)} {d : Nat} {sc : Option (Nat × (Nat → Int32))} {pc : Nat} {ls : List (Nat × Value)} {st : List Value} {A : mj_H} {post : mj_O → mj_H → Prop}
theorem G_throw {i1 i2 i3 : Nat} {tx : String} (C : Nat) (h0 : decode cc pc = .ok (.new i1, 3)) (h3 : decode cc (pc + 3) = .ok (.dup, 1)) (h4 : decode cc (pc + 4) = .ok (.ldc i2, 2)) (h6 : decode cc (pc + 6) = .ok (.invokespecial i3, 3)) (h9 : decode cc (pc + 9) = .ok (.athrow, 1))
    (hcl : Cond.classLink y.cls i1 (mj_ex C) ∈ tw_tbl) (hin : Cond.instantiable (mj_ex C) 6 ∈ tw_tbl) (hini : Cond.initialized (mj_ex C) ∈ tw_tbl) (hstr : Cond.stringRef y.cls i2 tx ∈ tw_tbl) (htw : mj_tw y.cls i3 C) (hft : Bundle.fit (mj_ex C) = true) (hnh : mj_nh hh (pc + 9) = true) (hr1 : A.2.1 + 1 ≤ 601024) (hr2 : A.2.2 + 6 ≤ 7293034) (hd : 6 ≤ d) (hw : (st.map fun v => v.category).sum ≤ 41)
    (hp : post (.inr C) (A.1, A.2.1 + 1, A.2.2 + 6)) : mj_G y cc nL rt hh d sc pc ls st A post := by
  intro p l e R s m args below meth c H locs cells slots F nc ns D ad ad0 cy n0 lsC hX hZ hH hE hn hS hc hs hl
  intro T hT X
  have hroom := hX.2.2.2.2.2.2.2.2.2.2.1
  have hcl' : cells ≤ R.cells := by have := hroom.2.2.1; omega
  have hsl' : slots ≤ R.slots := by have := hroom.2.2.2; omega
  have X' := mj_rebase X hcl' hsl'
  have hW0 : s.WarmedH T.vm := X.warmed
  have hts : ∀ w ∈ tw_tbl, w.before args (T.setFrames (.invoking m args :: below)) = true := fun w h => tw_moved (U := T.setFrames (.invoking m args :: below)) hW0 (tw_in h) (hX.2.2.2.2.2.2.2.2.1 w h)
  have hown : (T.setFrames (.invoking m args :: below)).vm.findClass y.cls = some m.cls := by
    show T.vm.findClass y.cls = some m.cls
    rw [hW0.alike.findClass]; exact hX.2.2.2.2.2.2.2.1
  have hst1 : mj_st "UNASSIGNED_STACK" Bundle.steD F (T.setFrames (.invoking m args :: below)) (T.setFrames (.invoking m args :: below)).heap := mj_st_moved (U := T.setFrames (.invoking m args :: below)) (H1 := T.heap) hX.2.2.2.2.2.2.2.2.2.2.2.2.2.1 hW0.alike (fun a q1 q2 => by rw [hT]; exact hS.2.1 a q1 q2) (fun _ h => h)
  have hst2 : mj_st "SUPPRESSED_SENTINEL" Bundle.listD F (T.setFrames (.invoking m args :: below)) (T.setFrames (.invoking m args :: below)).heap := mj_st_moved (U := T.setFrames (.invoking m args :: below)) (H1 := T.heap) hX.2.2.2.2.2.2.2.2.2.2.2.2.2.2.1 hW0.alike (fun a q1 q2 => by rw [hT]; exact hS.2.1 a q1 q2) (fun _ h => h)
  have hatoms : ∀ a ∈ Bundle.ownAtoms y.cls i3 (mj_ex C) mj_up, a.before args (T.setFrames (.invoking m args :: below)) = true := by
    intro a ha
    rcases htw a ha with h | h
    · exact hts a h
    · simp only [mj_sp, List.mem_cons, List.not_mem_nil, or_false] at h
      rcases h with rfl | rfl | rfl | rfl
      · exact mj_st_lays hst1
      · exact mj_st_lays hst2
      · exact mj_st_ref hst1
      · exact mj_st_ref hst2
  obtain ⟨vm₁, cX, kX, hfX, hkX, -, -, X₁, st1⟩ := X'.newCold hX.1 (own := y.cls) (C := mj_ex C) (index := i1) (n := 6) hown (hts _ hcl) (hts _ hin) (hts _ hini) (g := F0 m pc lsC (st.map (mj_v ad))) rfl (by rw [hX.2.2.1]; exact h0)
    (by show 0 + 1 ≤ R.cells - cells; have := hroom.2.2.1; omega) (by show 0 + 6 ≤ R.slots - slots; have := hroom.2.2.2; omega)
  obtain ⟨-, -, -, sa, -, -, -, -, -, hev⟩ := Cond.stringRef_spec hown (hts _ hstr)
  have hvk : vk_R y.cls i2 tx sa (T.setFrames (.invoking m args :: below)) := ⟨tw_moved (A' := #[]) (State.WarmedH.refl _) rfl (hts _ hstr), hev⟩
  have K : W p l e { frames := R.frames, cells := R.cells - cells, slots := R.slots - slots, locals := R.locals } (T.setFrames (.invoking m args :: below)) m args below meth c ((T.setVm vm₁).pushCell { cls := cX, slots := kX.instanceTypes.map defaultValue, vm := .none }).heap [] (0 + 1) (0 + 6)
      (fun t => t.status = .running ∧ Ended t below (.threw T.heap.size) ∧ (T.setFrames (.invoking m args :: below)).WarmedH t.vm ∧ (T.setFrames (.invoking m args :: below)).sameButNew ({ t with vm := (T.setFrames (.invoking m args :: below)).vm } : State) [] (0 + 1) (0 + 6) ∧ ∃ ce, t.heap[T.heap.size]? = some ce ∧ ce.vm = .none ∧ (T.setFrames (.invoking m args :: below)).vm.findClass (mj_ex C) = some ce.cls)
      (F0 m (pc + 3) lsC (.ref T.heap.size :: st.map (mj_v ad))) := by
    refine lv_dup hX.1 hX.2.2.1 h3 rfl ?_
    refine va_ldcS hX.1 hX.2.2.1 hown hvk h4 ?_
    intro T2 hT2 X2
    have hcellA : T2.heap[T.heap.size]? = some (freshCell cX kX) := by rw [hT2]; exact State.heap_pushCell_size _ _
    obtain ⟨U, hsteps, hrun, hend, hW, hsame, ce, hce, KK⟩ := X2.ctorThrowS hX.1 hX.2.1 (own := y.cls) (cls := mj_ex C) (names := mj_up) (ic := i3) hown hft (by decide +kernel)
      hatoms (fun y hy => by cases hy) hfX hkX hcellA (Nat.le_refl _) (msg := .ref sa) rfl
      (g := F0 m (pc + 6) lsC (.ref sa :: .ref T.heap.size :: .ref T.heap.size :: st.map (mj_v ad))) rfl (by rw [hX.2.2.2.1]; exact hl.1) rfl rfl (rest := st.map (mj_v ad)) rfl
      (by rw [hX.2.2.1]; exact h6) (by rw [hX.2.2.1]; exact h9) (mj_nh_out hnh hX.2.2.2.2.2.2.2.2.2.1) (by show 2 + 3 < R.frames; rw [hroom.1]; omega)
      (by
        show 2 * 0 + ((Value.ref T.heap.size :: st.map (mj_v ad)).map fun v => v.category).sum + (13 * (2 + 1) + 42) ≤ R.locals
        rw [List.map_cons, List.map_map, List.sum_cons]
        have e9 : ((fun v : Value => v.category) ∘ mj_v ad) = fun v => v.category := funext (mj_cat ad)
        rw [e9]
        have h99 : (Value.ref T.heap.size).category = 1 := rfl
        rw [h99]
        have := hroom.2.1
        omega) (hlocks := hX.2.2.2.2.2.1)
    exact ⟨U, hsteps, hrun, hend, hW, hsame, ce, hce, KK.vm, KK.cls⟩
  obtain ⟨t, a1, b1, b2, b3, b4, ce, b5, b6, b7⟩ := K _ rfl X₁
  have hkeep : ∀ q : Nat, q < T.heap.size → t.heap[q]? = T.heap[q]? := by
    intro q hq
    have hq' : (T.setFrames (.invoking m args :: below)).heap[q]? = some (T.heap[q]) := Array.getElem?_eq_getElem hq
    obtain ⟨c', r1, r2, r3, r4⟩ := b4.2.2.2.2.2 q _ hq'
    have r1' : t.heap[q]? = some c' := r1
    rw [r1', Array.getElem?_eq_getElem hq]
    have hsl : c'.slots = T.heap[q].slots := Array.ext_getElem? (fun i => r4 i (fun h => by cases h))
    rw [r2, hsl]
  have hH1 : mj_Hp D F ad cy A.1 s t.heap := by
    refine ⟨hH.1.kept (fun k x hx => ?_), hH.2.1, hH.2.2.1, hH.2.2.2.1, hH.2.2.2.2⟩
    have hlt : x.1 < H.size := (hH.1 k x hx).lt
    rw [hkeep x.1 (by rw [hT]; exact hlt), hT]
  have hsz : T.heap.size ≤ t.heap.size := b4.2.1
  have hsT : T.sameButNew ({ t with vm := T.vm } : State) [] 1 6 := by
    refine ⟨?_, b4.2⟩
    have := b4.1
    rw [State.setFrames_setFrames] at this
    exact this
  refine ⟨t, st1 t a1, .threw T.heap.size, b1, b2, .inr C, (A.1, A.2.1 + 1, A.2.2 + 6), ad, cy, cells + 1, slots + 6, locs ++ [], hp, ⟨T.heap.size, ce, rfl, b5, by rw [b6]; rfl, ?_⟩, hH1, hE, hn, ?_, ?_, ?_, State.WarmedH.trans hW0 b3, X.same.trans (hsT.setVm s.vm)⟩
  · have : T.vm.findClass (mj_ex C) = some ce.cls := b7
    rw [hW0.alike.findClass] at this
    exact this
  · rw [List.append_nil]
    refine ⟨Nat.le_trans hS.1 (by rw [← hT]; exact hsz), fun q q1 q2 => ?_, hS.2.2⟩
    rw [hkeep q (by rw [hT]; exact Nat.lt_of_lt_of_le q1 hS.1), hT]
    exact hS.2.1 q q1 q2
  · exact ⟨by show A.2.1 + 1 = _; omega, hr1⟩
  · exact ⟨by show A.2.2 + 6 = _; omega, hr2⟩
end GT2
