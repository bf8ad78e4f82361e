/-! returns -/
section GRT
variable {y : MethodName} {cc : ByteArray} {nL : Nat} {rt : Option FieldType} {hh : List (Nat × Nat × Nat × Nat)} {d : Nat} {sc : Option (Nat × (Nat → Int32))} {pc : Nat} {ls : List (Nat × Value)} {st : List Value} {A : mj_H} {post : mj_O → mj_H → Prop}
/-- the end of a method that returns v -/
theorem mj_leave {s : State} {below : List Frame} {T : State} {locs : List Loc} {cells slots : Nat} {F : Nat → Prop} {nc ns : Nat} {D : va_G} {ad ad0 : Nat → Nat} {cy : Nat → ClassId} {n0 : Nat} {fs : List Frame} {v : Option Value}
    (hH : mj_Hp D F ad cy A.1 s T.heap) (hE : mj_Ext ad ad0 n0 A.1.length) (hn : n0 ≤ A.1.length) (hS : va_S F s.heap T.heap locs) (hc : A.2.1 = nc + cells ∧ A.2.1 ≤ 601024) (hs : A.2.2 = ns + slots ∧ A.2.2 ≤ 7293034) (hp : post (.inl v) A)
    (hrun : (T.setFrames fs).status = .running) (hend : Ended (T.setFrames fs) below (.returned (v.map (mj_v ad)))) (hW : s.WarmedH (T.setFrames fs).vm) (hfr : s.sameButNew ({ T.setFrames fs with vm := s.vm } : State) locs cells slots) : mj_end below s F D ad0 n0 nc ns post (T.setFrames fs) :=
  ⟨_, hrun, hend, .inl v, A, ad, cy, cells, slots, locs, hp, rfl, hH, hE, hn, hS, hc, hs, hW, hfr⟩
theorem G_iret {x : Int32} (hd : decode cc pc = .ok (.ireturn, 1)) (hr : rt = some .int) (hp : post (.inl (some (.int x))) A) : mj_G y cc nL rt hh d sc pc ls [.int x] A post := by
  intro p l e R s m args below meth c H locs cells slots F nc ns D ad ad0 cy n0 lsC hX hZ hH hE hn hS hc hs hl
  obtain ⟨hexec, -, hb, -, hrt, hlocks, -⟩ := hX
  subst hr
  intro T hT X
  obtain ⟨fs, hret, hrun, hended, hW, hframe⟩ := X.leave (v := some (.int x)) (hlocks := hlocks) (fun h => by rw [hrt] at h; cases h)
  have hmeth' : T.vm.method? m = some meth := X.method'
  refine ⟨T.setFrames fs, ?_, mj_leave (v := some (.int x)) (by rw [hT]; exact hH) hE hn (by rw [hT]; exact hS) hc hs hp hrun hended hW hframe⟩
  show Steps p.tables e below (T.setTop (F0 m pc lsC [.int x])) _
  jvm_step X.here [X.here.top, hexec, hb, hd, hmeth', hrt, narrow]
  (try refine ⟨rfl, ?_⟩); (try refine ⟨rfl, ?_⟩)
  first | (intro acts; rw [hret _ acts rfl rfl rfl]) | rw [hret _ _ rfl rfl rfl]
  exact Steps.refl _
theorem G_zret {x : Int32} (hd : decode cc pc = .ok (.ireturn, 1)) (hr : rt = some .boolean) (hx : narrow .boolean (.int x) = .int x) (hp : post (.inl (some (.int x))) A) : mj_G y cc nL rt hh d sc pc ls [.int x] A post := by
  intro p l e R s m args below meth c H locs cells slots F nc ns D ad ad0 cy n0 lsC hX hZ hH hE hn hS hc hs hl
  obtain ⟨hexec, -, hb, -, hrt, hlocks, -⟩ := hX
  subst hr
  intro T hT X
  obtain ⟨fs, hret, hrun, hended, hW, hframe⟩ := X.leave (v := some (.int x)) (hlocks := hlocks) (fun h => by rw [hrt] at h; cases h)
  have hmeth' : T.vm.method? m = some meth := X.method'
  refine ⟨T.setFrames fs, ?_, mj_leave (v := some (.int x)) (by rw [hT]; exact hH) hE hn (by rw [hT]; exact hS) hc hs hp hrun hended hW hframe⟩
  show Steps p.tables e below (T.setTop (F0 m pc lsC [.int x])) _
  jvm_step X.here [X.here.top, hexec, hb, hd, hmeth', hrt, hx]
  (try refine ⟨rfl, ?_⟩); (try refine ⟨rfl, ?_⟩)
  first | (intro acts; rw [hret _ acts rfl rfl rfl]) | rw [hret _ _ rfl rfl rfl]
  exact Steps.refl _
theorem G_ret (hd : decode cc pc = .ok (.return_, 1)) (hr : rt = none) (hp : post (.inl none) A) : mj_G y cc nL rt hh d sc pc ls [] A post := by
  intro p l e R s m args below meth c H locs cells slots F nc ns D ad ad0 cy n0 lsC hX hZ hH hE hn hS hc hs hl
  obtain ⟨hexec, -, hb, -, hrt, hlocks, -⟩ := hX
  subst hr
  intro T hT X
  obtain ⟨fs, hret, hrun, hended, hW, hframe⟩ := X.leave (v := none) (hlocks := hlocks) (fun _ => rfl)
  have hmeth' : T.vm.method? m = some meth := X.method'
  refine ⟨T.setFrames fs, ?_, mj_leave (v := none) (by rw [hT]; exact hH) hE hn (by rw [hT]; exact hS) hc hs hp hrun hended hW hframe⟩
  show Steps p.tables e below (T.setTop (F0 m pc lsC [])) _
  jvm_step X.here [X.here.top, hexec, hb, hd, hmeth', hrt]
  (try refine ⟨rfl, ?_⟩); (try refine ⟨rfl, ?_⟩)
  first | (intro acts; rw [hret _ acts rfl rfl rfl]) | rw [hret _ _ rfl rfl rfl]
  exact Steps.refl _
end GRT
