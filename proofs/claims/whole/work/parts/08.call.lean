section GC2
variable {p : Program} {l : Launch} {e : Env} {R : Room} {s : State} {m : MethodId} {args : Array Value} {below : List Frame} {meth : Method} {c : Code} {T : State} {locs : List Loc} {cells slots : Nat} {F : Nat → Prop} {nc ns : Nat} {D : va_G} {ad : Nat → Nat} {cy : Nat → ClassId} {A : mj_H}
variable {y : MethodName} {cc : ByteArray} {nL : Nat} {rt : Option FieldType} {hh : List (Nat × Nat × Nat × Nat)} {d : Nat}
variable {y' : MethodName} {cc' : ByteArray} {nL' : Nat} {rt' : Option FieldType} {hh' : List (Nat × Nat × Nat × Nat)} {As : List Value} {post' : mj_O → mj_H → Prop}
def mj_Af (p : Program) (l : Launch) (e : Env) (R : Room) (s : State) (m : MethodId) (args : Array Value) (below : List Frame) (meth : Method) (c : Code) (F : Nat → Prop) (D : va_G) (nc ns : Nat) (ad : Nat → Nat) (n0 : Nat) (post' : mj_O → mj_H → Prop) (S0 : State) (g : JFrame) (len : Nat) : Prop :=
  ∃ (o : Outcome) (U : State) (L : List Loc) (k n : Nat) (out : mj_O) (A' : mj_H) (ad' : Nat → Nat) (cy' : Nat → ClassId),
    Stand p l e R s m args below meth c U L k n ∧ post' out A' ∧ mj_out s ad' out o U ∧ mj_Hp D F ad' cy' A'.1 s U.heap ∧ mj_Ext ad' ad n0 A'.1.length ∧ n0 ≤ A'.1.length ∧ va_S F s.heap U.heap L ∧ (A'.2.1 = nc + k ∧ A'.2.1 ≤ 601024) ∧ (A'.2.2 = ns + n ∧ A'.2.2 ≤ 7293034) ∧
    (∀ v, o = .returned v → Steps p.tables e below S0 (U.setTop { g with pc := g.pc + len, stack := v.toList ++ g.stack })) ∧
    (∀ x, o = .threw x → Steps p.tables e below S0 ((U.setTop g).pushFrame (.throwing x)))
theorem mj_inv (X : Stand p l e R s m args below meth c T locs cells slots) (hX : mj_X y cc nL rt hh (d + 1) p e R s m args meth c F nc ns) (hH : mj_Hp D F ad cy A.1 s T.heap) (hS : va_S F s.heap T.heap locs) (hc : A.2.1 = nc + cells ∧ A.2.1 ≤ 601024) (hs : A.2.2 = ns + slots ∧ A.2.2 ≤ 7293034)
    (hcw : mj_cw y' cc' nL' rt' hh') (hini : Cond.initialized y'.cls ∈ tw_tbl) (hpl : plainName y'.cls = true) (hsl : (lg_sl As).length ≤ nL') (hG : mj_G y' cc' nL' rt' hh' d none 0 (lv_args 0 As) [] A post')
    {g : JFrame} {ig : Instr} {len : Nat} (hg : g.method = m) (hsize : g.locals.size = c.maxLocals) (hdg : decode c.code g.pc = .ok (ig, len)) (hw : 2 * g.monitorRoom + (g.stack.map fun v => v.category).sum + (nL' + 11) ≤ 41) {mk : MethodId} (hn : T.methodNamed? y' = some mk) :
    mj_Af p l e R s m args below meth c F D nc ns ad A.1.length post' (doInvoke e (T.setTop g) [] mk (As.map (mj_v ad)).toArray).1 g len := by
  have hM := mj_met (l := l) hX X.warmed hH hS hc hs hcw hpl hsl hG
  have htsT : ∀ w ∈ tw_tbl, ∀ a', w.before a' T = true := fun w h a' => tw_moved X.warmed (tw_in h) (hX.2.2.2.2.2.2.2.2.1 w h)
  obtain ⟨methY, cY, hmY, hcY, -, hlY, -⟩ := mj_cw_spec hcw (fun w h => htsT w h #[]) hn
  obtain ⟨kY, hkY, -⟩ := className_of_methodNamed hn
  have hinitY : kY.init = .initialized := Cond.initialized_spec (args := #[]) (findClass_of_methodNamed hn) hkY (htsT _ hini #[])
  have h : At T g.method c below := by rw [hg]; exact X.here
  have hroom := hX.2.2.2.2.2.2.2.2.2.2.1
  have happ : (headSpec tw_tbl { frames := d, cells := R.cells - cells, slots := R.slots - slots, locals := 41 * d }).appliesLoose y' e.platform (T.calling g mk (As.map (mj_v ad)).toArray) = true := by
    refine Spec.appliesLoose_calling (g := g) h hdg hn hkY hinitY (X.room_calling (g := g) (R' := { frames := d, cells := R.cells - cells, slots := R.slots - slots, locals := 41 * d }) hsize hmY hcY ?_ ?_ ?_ ?_) (atoms_intro (fun w hw => htsT w hw _))
    · show d + 1 ≤ R.frames; rw [hroom.1]; exact Nat.le_refl _
    · show 2 * g.monitorRoom + (g.stack.map fun v => v.category).sum + (cY.maxLocals + 11) + 41 * d ≤ R.locals
      rw [hlY]; have := hroom.2.1; omega
    · show cells + (R.cells - cells) ≤ R.cells; have := hroom.2.2.1; omega
    · show slots + (R.slots - slots) ≤ R.slots; have := hroom.2.2.2; omega
  obtain ⟨mid, hmid⟩ := h.above
  have hfr : (T.setTop g).frames = (.java g :: mid) ++ below := by rw [State.frames_setTop' g h.top, hmid]; rfl
  obtain ⟨o, s₂, hsteps, -, hend, hq⟩ := Steps.callFree hM p X.admits X.cas X.clock (acts := []) hfr happ ⟨rfl, rfl, rfl⟩ hX.2.1
  rw [State.frames_setTop' g h.top] at hend
  obtain ⟨out, A', ad', cy', k, n, L, q1, q2, q3, q4, q5, q6, q7, q8, hW₂, e2, p2, p3, p4, p5, p6⟩ := hq
  have e3 : s₂ = ({ (T.calling g mk (As.map (mj_v ad)).toArray).setFrames s₂.frames with heap := s₂.heap, slotsUsed := s₂.slotsUsed } : State).setVm s₂.vm := by
    have : s₂ = ({ s₂ with vm := (T.calling g mk (As.map (mj_v ad)).toArray).vm } : State).setVm s₂.vm := rfl
    rw [show ({ s₂ with vm := (T.calling g mk (As.map (mj_v ad)).toArray).vm } : State) = _ from e2] at this
    exact this
  have hW' : T.WarmedH s₂.vm := hW₂
  obtain ⟨g₀, hg0⟩ := Option.isSome_iff_exists.mp h.top
  obtain ⟨r, hr⟩ := State.topJava?_eq_some.mp hg0
  have hsame : T.sameButNew ({ T with heap := s₂.heap, slotsUsed := s₂.slotsUsed } : State) L k n := by
    refine ⟨?_, p2, p3, p4, p5, p6⟩
    obtain ⟨t, ht, -⟩ := State.frames_cons hr
    show ({ T with heap := s₂.heap, slotsUsed := s₂.slotsUsed } : State) = { T.setFrames T.frames with heap := s₂.heap, slotsUsed := s₂.slotsUsed }
    rw [State.setFrames_self ht]
  have hFin := mj_F_in hH hS hX.2.2.2.2.2.2.2.2.2.2.2.1
  have hal : T.vm.Alike s.vm := X.warmed.alike.symm
  refine ⟨o, (({ T with heap := s₂.heap, slotsUsed := s₂.slotsUsed } : State).setVm s₂.vm), locs ++ L, cells + k, slots + n, out, A', ad', cy', ?_, q1, ?_, ?_, q4, q5, ?_, ?_, ?_, ?_, ?_⟩
  · subst hg
    exact ⟨X.admits, X.cas, X.clock, X.frames, X.room, X.hears, X.method, X.code, (X.here.setHeapUsed s₂.heap s₂.slotsUsed).setVm hW'.alike, X.tail, State.WarmedH.trans X.warmed hW', X.limits, X.bytes, X.same.trans (hsame.setVm s.vm)⟩
  · rcases out with v | C
    · exact q2
    · obtain ⟨x, cell, r1, r2, r3, r4⟩ := q2
      refine ⟨x, cell, r1, r2, r3, ?_⟩
      have r4' : T.vm.findClass (mj_ex C) = some cell.cls := r4
      rw [← hal.findClass] at r4'
      exact r4'
  · refine ⟨q3.1, ⟨q3.2.1.1, fun k q hk => hFin _ (q3.2.1.2 k q hk)⟩, ?_, fun k q hk => ?_, q3.2.2.2.2⟩
    · exact va_K.moved (u := T.calling g mk (As.map (mj_v ad)).toArray) hal q3.2.2.1
    · exact (va_K.moved (u := T.calling g mk (As.map (mj_v ad)).toArray) (U := s) hal (mj_K1 q3 hk)).2 0 _ rfl
  · refine ⟨Nat.le_trans hS.1 q6.1, fun q h1 h2 => ?_, fun z hz => ?_⟩
    · exact (q6.2.1 q (Nat.lt_of_lt_of_le h1 hS.1) (fun h9 => h2 (hFin q h9))).trans (hS.2.1 q h1 h2)
    · rcases List.mem_append.mp hz with h9 | h9
      · exact hS.2.2 z h9
      · exact hFin _ (q6.2.2 z h9)
  · exact ⟨by rw [q7.1, hc.1]; omega, q7.2⟩
  · exact ⟨by rw [q8.1, hs.1]; omega, q8.2⟩
  · intro v hv
    subst hv
    obtain ⟨c₂, i₂, len₂, hc₂, hd₂, hf₂⟩ := hend
    have hcc : c₂ = c := by
      have h1 : s₂.code? g.method = T.code? g.method := by
        rw [State.code?_eq, State.code?_eq, hW'.alike.method?]
      exact Option.some.inj (hc₂.symm.trans (h1.trans h.code))
    subst hcc
    have hlen : len₂ = len := by rw [hdg] at hd₂; cases hd₂; rfl
    subst hlen
    have hs₂ : s₂ = (({ T with heap := s₂.heap, slotsUsed := s₂.slotsUsed } : State).setVm s₂.vm).setTop { g with pc := g.pc + len₂, stack := v.toList ++ g.stack } := by
      have hr' : (({ T with heap := s₂.heap, slotsUsed := s₂.slotsUsed } : State).setVm s₂.vm).frames = .java g₀ :: r := hr
      refine e3.trans ?_
      rw [hf₂, State.calling_eq h.top, State.setFrames_setFrames, State.setTop_of_frames _ hr', hr]
      rfl
    rw [← hs₂]
    exact hsteps
  · intro x hx
    subst hx
    have hf₂ : s₂.frames = .throwing x :: .java g :: T.frames.tail := hend
    have hs₂ : s₂ = ((({ T with heap := s₂.heap, slotsUsed := s₂.slotsUsed } : State).setVm s₂.vm).setTop g).pushFrame (.throwing x) := by
      have hr' : (({ T with heap := s₂.heap, slotsUsed := s₂.slotsUsed } : State).setVm s₂.vm).frames = .java g₀ :: r := hr
      refine e3.trans ?_
      rw [hf₂, State.calling_eq h.top, State.setFrames_setFrames, State.setTop_of_frames _ hr', hr, State.pushFrame, State.setFrames_setFrames]
      have hfr9 : ((({ T with heap := s₂.heap, slotsUsed := s₂.slotsUsed } : State).setVm s₂.vm).setFrames (.java g :: r)).frames = .java g :: r := State.frames_setFrames _ (State.cur_lt_of_frames hr')
      rw [hfr9]
      rfl
    rw [← hs₂]
    exact hsteps
end GC2
