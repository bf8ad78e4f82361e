/-! constructors -/
section GX
variable {y : MethodName} {cc : ByteArray} {nL : Nat} {rt : Option FieldType} {hh : List (Nat × Nat × Nat × Nat)} {d : Nat} {sc : Option (Nat × (Nat → Int32))} {pc : Nat} {ls : List (Nat × Value)} {st : List Value} {post : mj_O → mj_H → Prop}
variable {L X X' : List mj_C} {n x1 x2 : Nat}
theorem X_get {i : Nat} {c : mj_C} (hL : L.length = n) (h : X[i]? = some c) : (L ++ X)[n + i]? = some c := by
  rw [List.getElem?_append_right (by omega), hL, Nat.add_sub_cancel_left]; exact h
theorem X_set {i : Nat} {c : mj_C} (hL : L.length = n) : (L ++ X).set (n + i) c = L ++ X.set i c := by
  rw [List.set_append_right _ _ (by omega), hL, Nat.add_sub_cancel_left]
theorem X_len {b : Nat} (hL : L.length = n) (hb : n + X.length = b) : (L ++ X).length = b := by rw [List.length_append, hL]; exact hb
theorem G_newaX (b : Nat) {atype : ArrayType} {k : Int32} {N tg : Nat} {a0 : vp_A} (hL : L.length = n) (hd : decode cc pc = .ok (.newarray atype, 2)) (harr : Cond.arrayClass (newarray.typeOf atype) ∈ tw_tbl) (hty : newarray.typeOf atype = mj_ty tg) (ha : ∀ cA : ClassId, vp_cell cA a0 = arrV cA N (fun _ => defaultValue (mj_ty tg))) (hnr : ∀ ad, mj_A ad a0 = a0) (hn0 : ¬ k < 0) (hN : k.toNatClampNeg = N) (hb : N * componentBytes (mj_ty tg) ≤ 536870912)
    (hr1 : x1 + 1 ≤ 601024) (hr2 : x2 + N ≤ 7293034) (hlen : n + X.length = b) (hm : b < 1000000) (hbl : ls.all (fun q => mj_bd b q.2) = true) (hbs : st.all (mj_bd b) = true) (hrf : mj_rf b (.inl (tg, a0))) (hX : X ++ [.inl (tg, a0)] = X') {y1 y2 : Nat} (h1 : x1 + 1 = y1) (h2 : x2 + N = y2)
    (kk : mj_G y cc nL rt hh d sc (pc + 2) ls (.ref b :: st) (L ++ X', y1, y2) post) : mj_G y cc nL rt hh d sc pc ls (.int k :: st) (L ++ X, x1, x2) post := by
  subst hX h1 h2
  have hl := X_len (X := X) hL hlen
  refine G_newa (A := (L ++ X, x1, x2)) hd harr hty ha hnr hn0 hN hb hr1 hr2 (by rw [hl]; exact hm) (by rw [hl]; exact hbl) (by rw [hl]; exact hbs) (by rw [hl]; exact hrf) ?_
  show mj_G y cc nL rt hh d sc (pc + 2) ls (.ref (L ++ X).length :: st) (L ++ X ++ [.inl (tg, a0)], x1 + 1, x2 + N) post
  rw [hl, List.append_assoc]; exact kk
theorem G_newX (b : Nat) {index ci N : Nat} {C : String} {T : u_T} (ty : Nat → FieldType) {fs : List Value} (hL : L.length = n) (hd : decode cc pc = .ok (.new index, 3)) (hcl : mj_cl[ci]? = some (C, T, N)) (hin : ∀ w ∈ u_ws C T N, w ∈ tw_tbl) (hty : ∀ k, k < N → parseFieldDescriptor (T k).2.2.1 = some (ty k)) (hlk : Cond.classLink y.cls index C ∈ tw_tbl) (hins : Cond.instantiable C N ∈ tw_tbl) (hini : Cond.initialized C ∈ tw_tbl)
    (hfs : ∀ j, j < N → defaultValue (ty j) = vp_V fs j) (hnr : ∀ ad, fs.map (mj_v ad) = fs) (hr1 : x1 + 1 ≤ 601024) (hr2 : x2 + N ≤ 7293034) (hlen : n + X.length = b) (hm : b < 1000000) (hbl : ls.all (fun q => mj_bd b q.2) = true) (hbs : st.all (mj_bd b) = true) (hrf : mj_rf b (.inr (ci, fs))) (hX : X ++ [.inr (ci, fs)] = X') {y1 y2 : Nat} (h1 : x1 + 1 = y1) (h2 : x2 + N = y2)
    (kk : mj_G y cc nL rt hh d sc (pc + 3) ls (.ref b :: st) (L ++ X', y1, y2) post) : mj_G y cc nL rt hh d sc pc ls st (L ++ X, x1, x2) post := by
  subst hX h1 h2
  have hl := X_len (X := X) hL hlen
  refine G_new (A := (L ++ X, x1, x2)) ty hd hcl hin hty hlk hins hini hfs hnr hr1 hr2 (by rw [hl]; exact hm) (by rw [hl]; exact hbl) (by rw [hl]; exact hbs) (by rw [hl]; exact hrf) ?_
  show mj_G y cc nL rt hh d sc (pc + 3) ls (.ref (L ++ X).length :: st) (L ++ X ++ [.inr (ci, fs)], x1 + 1, x2 + N) post
  rw [hl, List.append_assoc]; exact kk
theorem G_putiX (i b : Nat) {index ci k a : Nat} {fs : List Value} {v : Int32} (hL : L.length = n) (hd : decode cc pc = .ok (.putfield index, 3)) (hf : mj_fp y.cls index ci k .int false) (ha : n + i = a) (hg : X[i]? = some (.inr (ci, fs))) (hk : k < fs.length) (hA : X.set i (.inr (ci, fs.set k (.int v))) = X')
    (kk : mj_G y cc nL rt hh d sc (pc + 3) ls st (L ++ X', x1, x2) post) : mj_G y cc nL rt hh d sc pc ls (.int v :: .ref a :: st) (L ++ X, x1, x2) post := by
  subst ha
  exact G_put (A := (L ++ X, x1, x2)) hd hf (X_get hL hg) hk (fun _ => ⟨rfl, rfl⟩) (fun j h => by cases h) ((X_set hL).trans (by rw [hA])) kk
theorem G_putrX (i b : Nat) {index ci k a r : Nat} {ty : FieldType} {fs : List Value} (hL : L.length = n) (hd : decode cc pc = .ok (.putfield index, 3)) (hf : mj_fp y.cls index ci k ty true) (hy : y.name = "<init>") (hC : ∀ C T N, mj_cl[ci]? = some (C, T, N) → C = y.cls) (ha : n + i = a) (hg : X[i]? = some (.inr (ci, fs))) (hk : k < fs.length) (hv : ∀ ad, narrow ty (mj_v ad (.ref r)) = mj_v ad (.ref r) ∧ fits ty (mj_v ad (.ref r)) = true) (hb : n + X.length = b) (hr : r < b) (hA : X.set i (.inr (ci, fs.set k (.ref r))) = X')
    (kk : mj_G y cc nL rt hh d sc (pc + 3) ls st (L ++ X', x1, x2) post) : mj_G y cc nL rt hh d sc pc ls (.ref r :: .ref a :: st) (L ++ X, x1, x2) post := by
  subst ha
  exact G_putF (A := (L ++ X, x1, x2)) hd hf hy hC (X_get hL hg) hk hv (fun j h => by cases h; rw [X_len hL hb]; exact hr) ((X_set hL).trans (by rw [hA])) kk
theorem G_multiX (b : Nat) {index : Nat} {k j : Int32} {N M : Nat} (hL : L.length = n) (hd : decode cc pc = .ok (.multianewarray index 2, 4)) (hcl : Cond.classLink y.cls index "[[I" ∈ tw_tbl) (hov : Cond.arrayOver (.array .int) ∈ tw_tbl) (har : Cond.arrayClass .int ∈ tw_tbl) (hn0 : ¬ j < 0) (hk0 : ¬ k < 0) (hN : j.toNatClampNeg = N) (hM : k.toNatClampNeg = M) (hN2 : N ≤ 1000) (hM2 : M ≤ 1000)
    (hr1 : x1 + 1 + N ≤ 601024) (hr2 : x2 + N + N * M ≤ 7293034) (hlen : n + X.length = b) (hm : b + 1 + N ≤ 1000000) (hbl : ls.all (fun q => mj_bd b q.2) = true) (hbs : st.all (mj_bd b) = true) (hX : X ++ mo_o b N :: List.replicate N (mo_i M) = X') {y1 y2 : Nat} (h1 : x1 + 1 + N = y1) (h2 : x2 + N + N * M = y2)
    (kk : mj_G y cc nL rt hh d sc (pc + 4) ls (.ref b :: st) (L ++ X', y1, y2) post) : mj_G y cc nL rt hh d sc pc ls (.int k :: .int j :: st) (L ++ X, x1, x2) post := by
  subst hX h1 h2
  have hl := X_len (X := X) hL hlen
  refine G_multi (A := (L ++ X, x1, x2)) hd hcl hov har hn0 hk0 hN hM hN2 hM2 hr1 hr2 (by rw [hl]; exact hm) (by rw [hl]; exact hbl) (by rw [hl]; exact hbs) ?_
  show mj_G y cc nL rt hh d sc (pc + 4) ls (.ref (L ++ X).length :: st) (L ++ X ++ mo_o (L ++ X).length N :: List.replicate N (mo_i M), x1 + 1 + N, x2 + N + N * M) post
  rw [hl, List.append_assoc]; exact kk
theorem G_iastX (i : Nat) {a m : Nat} {f : Nat → Int32} {j : Nat} {v : Int32} (hL : L.length = n) (hd : decode cc pc = .ok (.iastore, 1)) (ha : n + i = a) (hg : X[i]? = some (.inl (0, m, .inl f))) (hm : m < 2 ^ 31) (hj : j < m) (hA : X.set i (.inl (0, m, .inl (upd f j v))) = X')
    (kk : mj_G y cc nL rt hh d sc (pc + 1) ls st (L ++ X', x1, x2) post) : mj_G y cc nL rt hh d sc pc ls (.int v :: .int (nI j) :: .ref a :: st) (L ++ X, x1, x2) post := by
  subst ha
  exact G_iasN (A := (L ++ X, x1, x2)) hd (X_get hL hg) hm hj ((X_set hL).trans (by rw [hA])) kk
theorem G_ci1 {A : mj_H} {y' : MethodName} {cc' : ByteArray} {nL' : Nat} {As : List Value} (A1 : mj_H) {index b : Nat} (hd : decode cc pc = .ok (.invokespecial index, 3)) (hci : mj_ci y.cls index y') (hcw : Cond.code y' cc' nL' none ∈ tw_tbl) (hn1 : (parseMethodDescriptor y'.desc).map (fun d => d.parameters.length) = some As.length) (hsl : (lg_sl (.ref b :: As)).length ≤ nL') (hw : (st.map fun v => v.category).sum + (nL' + 11) ≤ 41)
    (hG : ∀ post' : mj_O → mj_H → Prop, post' (.inl none) A1 → mj_G y' cc' nL' none [] d none 0 (lv_args 0 (.ref b :: As)) [] A post') (hlen : A1.1.length ≤ 1000000) (hbl : ls.all (fun q => mj_bd A.1.length q.2) = true) (hbs : st.all (mj_bd A.1.length) = true)
    (kr : mj_G y cc nL rt hh (d + 1) sc (pc + 3) ls st A1 post) : mj_G y cc nL rt hh (d + 1) sc pc ls (As.reverse ++ .ref b :: st) A post := by
  refine G_calli (post' := fun out A' => out = .inl none ∧ A' = A1) hd hci hcw hn1 hsl hw (hG _ ⟨rfl, rfl⟩) (fun out A' h => ⟨by rw [h.2]; exact hlen, none, h.1⟩) hbl hbs (fun v A' h => ?_)
  obtain ⟨h1, rfl⟩ := h
  cases h1
  exact kr
end GX
theorem mu_cl : Cond.classLink "ClauseGlass$Sheet" 23 "[[I" ∈ tw_tbl := tin_1 (List.mem_of_getElem? (i := 102) rfl) rfl
theorem mu_ov : Cond.arrayOver (.array .int) ∈ tw_tbl := tin_1 (List.mem_of_getElem? (i := 103) rfl) rfl
theorem mu_ar : Cond.arrayClass .int ∈ tw_tbl := tin_1 (List.mem_of_getElem? (i := 61) rfl) rfl
