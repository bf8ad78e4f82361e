/-! new cells -/
theorem mj_rf_mono {n n' : Nat} {c : mj_C} (h : mj_rf n c) (hn : n ≤ n') : mj_rf n' c := by
  rcases c with ⟨tg, m, x⟩ | ⟨ci, fs⟩
  · rcases x with f | f | f | f | f
    · trivial
    · trivial
    · trivial
    · trivial
    · exact fun i j hj => Nat.lt_of_lt_of_le (h i j hj) hn
  · exact fun v hv j hj => Nat.lt_of_lt_of_le (h v hv j hj) hn
theorem mj_Hp_push {D : va_G} {F : Nat → Prop} {ad : Nat → Nat} {cy : Nat → ClassId} {A : List mj_C} {U : State} {H H1 : Heap} {q : Nat} {cA : ClassId} {c : mj_C} (h : mj_Hp D F ad cy A U H) (hP : va_P D mj_cl (mj_W ad cy A ++ [(q, mj_E ad cA c)]) H1) (hD : va_D F (mj_W ad cy A ++ [(q, mj_E ad cA c)])) (hc : mj_rf A.length c)
    (ht : ∀ x, c = .inl x → ArrOfT U cA (mj_ty x.1) ∧ va_RA U cA (mj_ty x.1)) : mj_Hp D F (va_up ad A.length q) (va_up cy A.length cA) (A ++ [c]) U H1 := by
  rw [mj_W_push h.2.2.2.2 hc] at hP hD
  have hcase : ∀ (k : Nat) (x : mj_C), (A ++ [c])[k]? = some x → (k < A.length ∧ A[k]? = some x) ∨ (k = A.length ∧ x = c) := by
    intro k x hk
    by_cases hl : k < A.length
    · rw [List.getElem?_append_left hl] at hk
      exact Or.inl ⟨hl, hk⟩
    · rw [List.getElem?_append_right (by omega)] at hk
      have h0 : k - A.length < 1 := (List.getElem?_eq_some_iff.mp hk).1
      rw [show k - A.length = 0 by omega] at hk
      exact Or.inr ⟨by omega, (Option.some.inj hk).symm⟩
  refine ⟨hP, hD, h.2.2.1, fun k x hk => ?_, fun k x hk => ?_⟩
  · rcases hcase k _ hk with ⟨h1, h2⟩ | ⟨h1, h2⟩
    · rw [va_up_ne cy cA (Nat.ne_of_lt h1)]
      exact h.2.2.2.1 k x h2
    · subst h1
      rw [va_up_self]
      exact ht x h2.symm
  · rw [List.length_append]
    rcases hcase k _ hk with ⟨h1, h2⟩ | ⟨h1, h2⟩
    · exact mj_rf_mono (h.2.2.2.2 k x h2) (Nat.le_add_right _ _)
    · rw [h2]; exact mj_rf_mono hc (Nat.le_add_right _ _)
section GA
variable {y : MethodName} {cc : ByteArray} {nL : Nat} {rt : Option FieldType} {hh : List (Nat × Nat × Nat × Nat)} {d : Nat} {sc : Option (Nat × (Nat → Int32))} {pc : Nat} {ls : List (Nat × Value)} {st : List Value} {A : mj_H} {post : mj_O → mj_H → Prop}
/-- what a fresh cell at the end of the heap leaves of the rest -/
theorem mj_fresh {ad ad0 : Nat → Nat} {q n0 n : Nat} (hE : mj_Ext ad ad0 n0 n) (hn : n0 ≤ n) (hm : n < 1000000) : mj_Ext (va_up ad n q) ad0 n0 (n + 1) ∧ mj_Ext (va_up ad n q) ad n (n + 1) ∧ n0 ≤ n + 1 := by
  refine ⟨fun k hk => ?_, fun k hk => ?_, by omega⟩
  · rw [va_up_ne ad q (by omega)]; exact hE k (by omega)
  · exact va_up_ne ad q (by omega)
theorem mj_ls_bd {ad ad' : Nat → Nat} {n n1 : Nat} (h : ls.all (fun q => mj_bd n q.2) = true) (he : mj_Ext ad' ad n n1) (h1 : n1 ≤ 1000000) : mj_ls ad' ls = mj_ls ad ls := by
  unfold mj_ls
  exact List.map_congr_left (fun q hq => by rw [mj_bd_ext (List.all_eq_true.mp h q hq) he h1])
theorem mj_st_bd {ad ad' : Nat → Nat} {n n1 : Nat} (h : st.all (mj_bd n) = true) (he : mj_Ext ad' ad n n1) (h1 : n1 ≤ 1000000) : st.map (mj_v ad') = st.map (mj_v ad) :=
  List.map_congr_left (fun q hq => mj_bd_ext (List.all_eq_true.mp h q hq) he h1)
theorem mj_Z_bd {ad ad' : Nat → Nat} {n n1 : Nat} {F : Nat → Prop} {s : State} (hZ : mj_Z sc ad F s) (he : mj_Ext ad' ad n n1) (h1 : n1 ≤ 1000000) : mj_Z sc ad' F s := by
  cases sc with
  | none => trivial
  | some q =>
    have e9 : ad' 1000000 = ad 1000000 := he 1000000 (Or.inr h1)
    show va_X (ad' 1000000) q.1 q.2 s s.heap ∧ ad' 1000000 < s.heap.size ∧ ¬ F (ad' 1000000)
    rw [e9]; exact hZ
theorem G_new {index ci N : Nat} {C : String} {T : u_T} (ty : Nat → FieldType) {fs : List Value} (hd : decode cc pc = .ok (.new index, 3)) (hcl : mj_cl[ci]? = some (C, T, N)) (hin : ∀ w ∈ u_ws C T N, w ∈ tw_tbl) (hty : ∀ k, k < N → parseFieldDescriptor (T k).2.2.1 = some (ty k)) (hlk : Cond.classLink y.cls index C ∈ tw_tbl) (hins : Cond.instantiable C N ∈ tw_tbl) (hini : Cond.initialized C ∈ tw_tbl)
    (hfs : ∀ j, j < N → defaultValue (ty j) = vp_V fs j) (hnr : ∀ ad, fs.map (mj_v ad) = fs) (hr1 : A.2.1 + 1 ≤ 601024) (hr2 : A.2.2 + N ≤ 7293034) (hm : A.1.length < 1000000) (hbl : ls.all (fun q => mj_bd A.1.length q.2) = true) (hbs : st.all (mj_bd A.1.length) = true) (hrf : mj_rf A.1.length (.inr (ci, fs)))
    (kk : mj_G y cc nL rt hh d sc (pc + 3) ls (.ref A.1.length :: st) (A.1 ++ [.inr (ci, fs)], A.2.1 + 1, A.2.2 + N) post) : mj_G y cc nL rt hh d sc pc ls st A post := by
  intro p l e R s m args below meth c H locs cells slots F nc ns D ad ad0 cy n0 lsC hX hZ hH hE hn hS hc hs hl
  have hts := hX.2.2.2.2.2.2.2.2.1
  have hroom := hX.2.2.2.2.2.2.2.2.2.2.1
  refine va_new (ci := ci) (fs := fs) hX.1 hX.2.2.1 hts hin ty hty hX.2.2.2.2.2.2.2.1 (hts _ hlk) (hts _ hins) (hts _ hini) hH.2.2.1 hH.1 hH.2.1 hS hX.2.2.2.2.2.2.2.2.2.2.2.1 hcl hfs (by have := hroom.2.2.1; omega) (by have := hroom.2.2.2; omega) hd (fun q H1 hP hD hS1 => ?_)
  have e1 : mj_E ad (cy 0) (.inr (ci, fs)) = .inr (ci, fs) := by show Sum.inr (ci, fs.map (mj_v ad)) = _; rw [hnr]
  rw [← e1] at hP hD
  have hH1 := mj_Hp_push hH hP hD hrf (fun x hx => by cases hx)
  obtain ⟨g1, g2, g3⟩ := mj_fresh (q := q) hE hn hm
  have hlen : (A.1 ++ [(.inr (ci, fs) : mj_C)]).length = A.1.length + 1 := by simp
  have K := kk p l e R s m args below meth c H1 locs (cells + 1) (slots + N) F nc ns D (va_up ad A.1.length q) ad0 (va_up cy A.1.length (cy 0)) n0 lsC hX (mj_Z_bd hZ g2 hm) hH1 (by rw [hlen]; exact g1) (by rw [hlen]; exact g3) hS1 ⟨by show A.2.1 + 1 = _; omega, hr1⟩ ⟨by show A.2.2 + N = _; omega, hr2⟩ (by rw [mj_ls_bd hbl g2 hm]; exact hl)
  rw [List.map_cons, mj_st_bd hbs g2 hm] at K
  have e2 : mj_v (va_up ad A.1.length q) (.ref A.1.length) = .ref q := by show Value.ref (va_up ad A.1.length q A.1.length) = _; rw [va_up_self]
  rw [e2] at K
  exact K
theorem G_newa {atype : ArrayType} {n : Int32} {N tg : Nat} {a0 : vp_A} (hd : decode cc pc = .ok (.newarray atype, 2)) (harr : Cond.arrayClass (newarray.typeOf atype) ∈ tw_tbl) (hty : newarray.typeOf atype = mj_ty tg) (ha : ∀ cA : ClassId, vp_cell cA a0 = arrV cA N (fun _ => defaultValue (mj_ty tg))) (hnr : ∀ ad, mj_A ad a0 = a0) (hn0 : ¬ n < 0) (hN : n.toNatClampNeg = N) (hb : N * componentBytes (mj_ty tg) ≤ 536870912)
    (hr1 : A.2.1 + 1 ≤ 601024) (hr2 : A.2.2 + N ≤ 7293034) (hm : A.1.length < 1000000) (hbl : ls.all (fun q => mj_bd A.1.length q.2) = true) (hbs : st.all (mj_bd A.1.length) = true) (hrf : mj_rf A.1.length (.inl (tg, a0)))
    (kk : mj_G y cc nL rt hh d sc (pc + 2) ls (.ref A.1.length :: st) (A.1 ++ [.inl (tg, a0)], A.2.1 + 1, A.2.2 + N) post) : mj_G y cc nL rt hh d sc pc ls (.int n :: st) A post := by
  intro p l e R s m args below meth c H locs cells slots F nc ns D ad ad0 cy n0 lsC hX hZ hH hE hn hS hc hs hl
  have hts := hX.2.2.2.2.2.2.2.2.1
  have hroom := hX.2.2.2.2.2.2.2.2.2.2.1
  refine va_newa (a0 := a0) hX.1 hX.2.2.1 (hts _ harr) hty hH.2.2.1 hH.1 hH.2.1 hS hX.2.2.2.2.2.2.2.2.2.2.2.1 ha hn0 hN hb (by have := hroom.2.2.1; omega) (by have := hroom.2.2.2; omega) hd (fun q cA H1 hK hP hD hS1 => ?_)
  have e1 : mj_E ad cA (.inl (tg, a0)) = .inl (cA, a0) := by show Sum.inl (cA, mj_A ad a0) = _; rw [hnr]
  rw [← e1] at hP hD
  have hH1 := mj_Hp_push hH hP hD hrf (fun x hx => by cases hx; exact hK.2 0 _ rfl)
  obtain ⟨g1, g2, g3⟩ := mj_fresh (q := q) hE hn hm
  have hlen : (A.1 ++ [(.inl (tg, a0) : mj_C)]).length = A.1.length + 1 := by simp
  have K := kk p l e R s m args below meth c H1 locs (cells + 1) (slots + N) F nc ns D (va_up ad A.1.length q) ad0 (va_up cy A.1.length cA) n0 lsC hX (mj_Z_bd hZ g2 hm) hH1 (by rw [hlen]; exact g1) (by rw [hlen]; exact g3) hS1 ⟨by show A.2.1 + 1 = _; omega, hr1⟩ ⟨by show A.2.2 + N = _; omega, hr2⟩ (by rw [mj_ls_bd hbl g2 hm]; exact hl)
  rw [List.map_cons, mj_st_bd hbs g2 hm] at K
  have e2 : mj_v (va_up ad A.1.length q) (.ref A.1.length) = .ref q := by show Value.ref (va_up ad A.1.length q A.1.length) = _; rw [va_up_self]
  rw [e2] at K
  exact K
end GA
