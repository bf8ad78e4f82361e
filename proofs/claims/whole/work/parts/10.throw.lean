/-! a throw statement: new, dup, ldc, the constructor, athrow -/
section GT
variable {p : Program} {l : Launch} {e : Env} {R : Room} {s : State} {m : MethodId} {args : Array Value} {below : List Frame} {meth : Method} {c : Code} {T : State} {locs : List Loc} {cells slots : Nat}
/-- the invocation seen as one that begins with the heap as it is now -/
theorem mj_rebase (X : Stand p l e R s m args below meth c T locs cells slots) (hc : cells ≤ R.cells) (hs : slots ≤ R.slots) :
    Stand p l e { frames := R.frames, cells := R.cells - cells, slots := R.slots - slots, locals := R.locals } (T.setFrames (.invoking m args :: below)) m args below meth c T [] 0 0 := by
  obtain ⟨g₀, hg0⟩ := Option.isSome_iff_exists.mp X.here.top
  obtain ⟨r, hr⟩ := State.topJava?_eq_some.mp hg0
  have hcur : T.cur < T.threads.size := State.cur_lt_of_frames hr
  have hf : (T.setFrames (.invoking m args :: below)).frames = .invoking m args :: below := State.frames_setFrames _ hcur
  obtain ⟨th, hth, -⟩ := State.frames_cons hr
  have hself : (T.setFrames (.invoking m args :: below)).setFrames T.frames = T := by rw [State.setFrames_setFrames, State.setFrames_self hth]
  have hcur' : (T.setFrames (.invoking m args :: below)).cur < (T.setFrames (.invoking m args :: below)).threads.size := State.cur_lt_of_frames hf
  obtain ⟨th', hth', -⟩ := State.frames_cons hf
  refine ⟨X.admits, X.cas, X.clock, hf, ?_, ?_, X.method', X.code, X.here, X.tail, State.WarmedH.refl _, ?_, ?_, ?_⟩
  · have h := X.room
    simp only [State.hasRoom, Bool.and_eq_true, decide_eq_true_eq] at h ⊢
    have e1 := State.localsInUse_invoking X.frames X.method X.code
    have e2 := State.localsInUse_invoking hf X.method' X.code
    rw [e1] at h
    rw [e2, hf, State.stackLimits_setFrames, State.stackBytes_setFrames, X.limits, X.bytes]
    rw [X.frames] at h
    have h1 := X.heapSize
    have h2 := X.used
    obtain ⟨⟨⟨⟨a1, a2⟩, a3⟩, a4⟩, a5⟩ := h
    refine ⟨⟨⟨⟨a1, a2⟩, ?_⟩, ?_⟩, X.book⟩
    · show T.heap.size + (R.cells - cells) ≤ _; omega
    · show T.slotsUsed + (R.slots - slots) ≤ _; omega
  · have h := X.hears
    have hal := X.warmed.alike
    cases below with
    | nil =>
      simp only [State.hears] at h ⊢
      rw [show (T.setFrames (.invoking m args :: [])).vm.method? m = s.vm.method? m from hal.method? m]
      exact h
    | cons f r9 =>
      cases f with
      | java g9 =>
        simp only [State.hears] at h ⊢
        rw [State.code?_eq] at h ⊢
        rw [show (T.setFrames (.invoking m args :: .java g9 :: r9)).vm.method? g9.method = s.vm.method? g9.method from hal.method? g9.method]
        exact h
      | native g9 => rfl
      | proc g9 => rfl
      | _ =>
        simp only [State.hears] at h ⊢
        rw [show (T.setFrames _).vm.method? m = s.vm.method? m from hal.method? m]
        exact h
  · rw [State.stackLimits_setFrames]
  · rw [State.stackBytes_setFrames]
  · have h := (State.sameButNew.refl (T.setFrames (.invoking m args :: below)) hth').setFrames T.frames hcur'
    rw [hself] at h
    exact h
end GT
