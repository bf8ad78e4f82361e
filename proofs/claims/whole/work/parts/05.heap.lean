/-! rules of fields and arrays -/
theorem mj_K1 {D : va_G} {F : Nat → Prop} {ad : Nat → Nat} {cy : Nat → ClassId} {A : List mj_C} {U : State} {H : Heap} {k : Nat} {q : Nat × vp_A} (h : mj_Hp D F ad cy A U H) (hk : A[k]? = some (.inl q)) : va_K D mj_cl [(cy k, mj_ty q.1)] U :=
  ⟨h.2.2.1.1, fun j x hx => by
    match j, hx with
    | 0, hx => cases hx; exact h.2.2.2.1 k q hk
    | j + 1, hx => simp at hx⟩
theorem mj_Hp_set {D : va_G} {F : Nat → Prop} {ad : Nat → Nat} {cy : Nat → ClassId} {A : List mj_C} {U : State} {H H1 : Heap} {k : Nat} {c0 c : mj_C} (h : mj_Hp D F ad cy A U H) (hk : A[k]? = some c0) (hc : mj_rf A.length c) (ht : ∀ q, c = .inl q → ∃ q0, c0 = .inl q0 ∧ q0.1 = q.1)
    (hP : va_P D mj_cl ((mj_W ad cy A).set k (ad k, mj_E ad (cy k) c)) H1) (hD : va_D F ((mj_W ad cy A).set k (ad k, mj_E ad (cy k) c))) : mj_Hp D F ad cy (A.set k c) U H1 := by
  rw [mj_W_set] at hP hD
  refine ⟨hP, hD, h.2.2.1, fun j q hj => ?_, fun j x hj => ?_⟩
  · rw [List.getElem?_set] at hj
    split at hj
    next e =>
      subst e
      split at hj
      next => obtain ⟨q0, e0, e1⟩ := ht q (Option.some.inj hj); subst e0; have := h.2.2.2.1 k q0 hk; rw [e1] at this; exact this
      next => cases hj
    next => exact h.2.2.2.1 j q hj
  · rw [List.length_set]
    rw [List.getElem?_set] at hj
    split at hj
    next e =>
      split at hj
      next => cases hj; exact hc
      next => cases hj
    next => exact h.2.2.2.2 j x hj
def mj_fr (own : String) (index ci k : Nat) : Prop := ∃ (C : String) (T : u_T) (N : Nat), mj_cl[ci]? = some (C, T, N) ∧ (T k).1 = C ∧ k < N ∧ (∀ w ∈ u_ws C T N, w ∈ tw_tbl) ∧
  (Cond.fieldLink own index C (T k).2.1 (T k).2.2.1 ∈ tw_tbl ∨ ∃ host, Cond.fieldLinkNest own index C (T k).2.1 (T k).2.2.1 host ∈ tw_tbl)
def mj_fp (own : String) (index ci k : Nat) (ty : FieldType) (fin : Bool) : Prop := ∃ (C : String) (T : u_T) (N : Nat) (ty0 : Nat → FieldType), mj_cl[ci]? = some (C, T, N) ∧ (T k).1 = C ∧ k < N ∧ (∀ w ∈ u_ws C T N, w ∈ tw_tbl) ∧
  (Cond.fieldLink own index C (T k).2.1 (T k).2.2.1 ∈ tw_tbl) ∧ (∀ k, k < N → parseFieldDescriptor (T k).2.2.1 = some (ty0 k)) ∧ (∀ a, a < N → ∀ b, b < N → a ≠ b → (T a).2.1 ≠ (T b).2.1) ∧ parseFieldDescriptor (T k).2.2.1 = some ty ∧ (T k).2.2.2 = fin
section GH
variable {y : MethodName} {cc : ByteArray} {nL : Nat} {rt : Option FieldType} {hh : List (Nat × Nat × Nat × Nat)} {d : Nat} {sc : Option (Nat × (Nat → Int32))} {pc : Nat} {ls : List (Nat × Value)} {st : List Value} {A : mj_H} {post : mj_O → mj_H → Prop}
theorem G_get {index ci k a : Nat} {fs : List Value} {v : Value} (hd : decode cc pc = .ok (.getfield index, 3)) (hf : mj_fr y.cls index ci k) (ha : A.1[a]? = some (.inr (ci, fs))) (hv : fs[k]? = some v)
    (kk : mj_G y cc nL rt hh d sc (pc + 3) ls (v :: st) A post) : mj_G y cc nL rt hh d sc pc ls (.ref a :: st) A post := by
  intro p l e R s m args below meth c H locs cells slots F nc ns D ad ad0 cy n0 lsC hX hZ hH hE hn hS hc hs hl
  obtain ⟨C, T, N, h1, h2, h3, h4, h5⟩ := hf
  have K := kk p l e R s m args below meth c H locs cells slots F nc ns D ad ad0 cy n0 lsC hX hZ hH hE hn hS hc hs hl
  have hv' : (fs.map (mj_v ad))[k]? = some (mj_v ad v) := by rw [List.getElem?_map, hv]; rfl
  have hsame : ∀ x, s.fieldFound? (T k).1 (T k).2.1 (T k).2.2.1 = some x → s.fieldFound? C (T k).2.1 (T k).2.2.1 = some x := fun x h => by rw [h2] at h; exact h
  rcases h5 with h5 | ⟨host, h5⟩
  · exact va_get hX.1 hX.2.2.1 hX.2.2.2.2.2.2.2.2.1 h4 hX.2.2.2.2.2.2.2.1 hH.2.2.1 hH.1 a (mj_W_get ha) h1 k h3 (hX.2.2.2.2.2.2.2.2.1 _ h5) hsame hv' hd K
  · exact va_getN hX.1 hX.2.2.1 hX.2.2.2.2.2.2.2.2.1 h4 hX.2.2.2.2.2.2.2.1 hH.2.2.1 hH.1 a (mj_W_get ha) h1 k h3 (hX.2.2.2.2.2.2.2.2.1 _ h5) hsame hv' hd K
theorem G_put {index ci k a : Nat} {fs : List Value} {v : Value} {ty : FieldType} {A1 : List mj_C} (hd : decode cc pc = .ok (.putfield index, 3)) (hf : mj_fp y.cls index ci k ty false) (ha : A.1[a]? = some (.inr (ci, fs))) (hk : k < fs.length) (hv : ∀ ad, narrow ty (mj_v ad v) = mj_v ad v ∧ fits ty (mj_v ad v) = true) (hr : mj_rv A.1.length v) (hA : A.1.set a (.inr (ci, fs.set k v)) = A1)
    (kk : mj_G y cc nL rt hh d sc (pc + 3) ls st (A1, A.2) post) : mj_G y cc nL rt hh d sc pc ls (v :: .ref a :: st) A post := by
  intro p l e R s m args below meth c H locs cells slots F nc ns D ad ad0 cy n0 lsC hX hZ hH hE hn hS hc hs hl
  obtain ⟨C, T, N, ty0, h1, h2, h3, h4, h5, h6, h7, h8, h9⟩ := hf
  have hsame : ∀ x, s.fieldFound? (T k).1 (T k).2.1 (T k).2.2.1 = some x → s.fieldFound? C (T k).2.1 (T k).2.2.1 = some x := fun x h => by rw [h2] at h; exact h
  refine va_put hX.1 hX.2.2.1 hX.2.2.2.2.2.2.2.2.1 h4 ty0 h6 h7 hX.2.2.2.2.2.2.2.1 hH.2.2.1 hH.1 hH.2.1 hS a (mj_W_get ha) h1 k h3 (hX.2.2.2.2.2.2.2.2.1 _ h5) hsame h9 h8 (hv ad).1 (hv ad).2 (by rw [List.length_map]; exact hk) hd (fun H1 locs1 hP hD hS1 => ?_)
  have hlen : A1.length = A.1.length := by rw [← hA, List.length_set]
  have e : (mj_W ad cy A.1).set a (ad a, .inr (ci, (fs.map (mj_v ad)).set k (mj_v ad v))) = (mj_W ad cy A.1).set a (ad a, mj_E ad (cy a) (.inr (ci, fs.set k v))) := by
    show _ = (mj_W ad cy A.1).set a (ad a, .inr (ci, (fs.set k v).map (mj_v ad)))
    rw [List.map_set]
  rw [e] at hP hD
  have hH1 : mj_Hp D F ad cy A1 s H1 := by
    rw [← hA]
    refine mj_Hp_set hH ha ?_ (fun q hq => by cases hq) hP hD
    intro w hw
    rcases List.mem_or_eq_of_mem_set hw with h | h
    · exact hH.2.2.2.2 a _ ha w h
    · rw [h]; exact hr
  exact kk _ _ _ _ _ _ _ _ _ _ _ _ _ _ _ _ _ _ _ _ _ _ _ hX hZ hH1 (by rw [hlen]; exact hE) (by rw [hlen]; exact hn) hS1 hc hs hl
theorem G_putF {index ci k a : Nat} {fs : List Value} {v : Value} {ty : FieldType} {A1 : List mj_C} (hd : decode cc pc = .ok (.putfield index, 3)) (hf : mj_fp y.cls index ci k ty true) (hy : y.name = "<init>") (hC : ∀ C T N, mj_cl[ci]? = some (C, T, N) → C = y.cls) (ha : A.1[a]? = some (.inr (ci, fs))) (hk : k < fs.length) (hv : ∀ ad, narrow ty (mj_v ad v) = mj_v ad v ∧ fits ty (mj_v ad v) = true) (hr : mj_rv A.1.length v) (hA : A.1.set a (.inr (ci, fs.set k v)) = A1)
    (kk : mj_G y cc nL rt hh d sc (pc + 3) ls st (A1, A.2) post) : mj_G y cc nL rt hh d sc pc ls (v :: .ref a :: st) A post := by
  intro p l e R s m args below meth c H locs cells slots F nc ns D ad ad0 cy n0 lsC hX hZ hH hE hn hS hc hs hl
  obtain ⟨C, T, N, ty0, h1, h2, h3, h4, h5, h6, h7, h8, h9⟩ := hf
  have hsame : ∀ x, s.fieldFound? (T k).1 (T k).2.1 (T k).2.2.1 = some x → s.fieldFound? C (T k).2.1 (T k).2.2.1 = some x := fun x h => by rw [h2] at h; exact h
  refine va_putF hX.1 hX.2.2.1 hX.2.2.2.2.2.2.2.2.1 h4 ty0 h6 h7 hX.2.2.2.2.2.2.2.1 hH.2.2.1 hH.1 hH.2.1 hS a (mj_W_get ha) h1 k h3 (hX.2.2.2.2.2.2.2.2.1 _ h5) hsame h9 (hX.2.2.2.2.2.2.1.trans hy) (h2.trans (hC C T N h1)) h8 (hv ad).1 (hv ad).2 (by rw [List.length_map]; exact hk) hd (fun H1 locs1 hP hD hS1 => ?_)
  have hlen : A1.length = A.1.length := by rw [← hA, List.length_set]
  have e : (mj_W ad cy A.1).set a (ad a, .inr (ci, (fs.map (mj_v ad)).set k (mj_v ad v))) = (mj_W ad cy A.1).set a (ad a, mj_E ad (cy a) (.inr (ci, fs.set k v))) := by
    show _ = (mj_W ad cy A.1).set a (ad a, .inr (ci, (fs.set k v).map (mj_v ad)))
    rw [List.map_set]
  rw [e] at hP hD
  have hH1 : mj_Hp D F ad cy A1 s H1 := by
    rw [← hA]
    refine mj_Hp_set hH ha ?_ (fun q hq => by cases hq) hP hD
    intro w hw
    rcases List.mem_or_eq_of_mem_set hw with h | h
    · exact hH.2.2.2.2 a _ ha w h
    · rw [h]; exact hr
  exact kk _ _ _ _ _ _ _ _ _ _ _ _ _ _ _ _ _ _ _ _ _ _ _ hX hZ hH1 (by rw [hlen]; exact hE) (by rw [hlen]; exact hn) hS1 hc hs hl
theorem G_iald {a n : Nat} {f : Nat → Int32} {i : Int32} (hd : decode cc pc = .ok (.iaload, 1)) (ha : A.1[a]? = some (.inl (0, n, .inl f))) (hi : vp_in i n) (kk : mj_G y cc nL rt hh d sc (pc + 1) ls (.int (f i.toNatClampNeg) :: st) A post) : mj_G y cc nL rt hh d sc pc ls (.int i :: .ref a :: st) A post := by
  intro p l e R s m args below meth c H locs cells slots F nc ns D ad ad0 cy n0 lsC hX hZ hH hE hn hS hc hs hl
  exact va_iald hX.1 hX.2.2.1 (mj_K1 hH ha) hH.1 a 0 (mj_W_get ha) rfl hi hd (kk _ _ _ _ _ _ _ _ _ _ _ _ _ _ _ _ _ _ _ _ _ _ _ hX hZ hH hE hn hS hc hs hl)
theorem G_zald {a n : Nat} {f : Nat → Int32} {i : Int32} (hd : decode cc pc = .ok (.baload, 1)) (ha : A.1[a]? = some (.inl (2, n, .inl f))) (hi : vp_in i n) (kk : mj_G y cc nL rt hh d sc (pc + 1) ls (.int (f i.toNatClampNeg) :: st) A post) : mj_G y cc nL rt hh d sc pc ls (.int i :: .ref a :: st) A post := by
  intro p l e R s m args below meth c H locs cells slots F nc ns D ad ad0 cy n0 lsC hX hZ hH hE hn hS hc hs hl
  exact va_zald hX.1 hX.2.2.1 (mj_K1 hH ha) hH.1 a 0 (mj_W_get ha) rfl hi hd (kk _ _ _ _ _ _ _ _ _ _ _ _ _ _ _ _ _ _ _ _ _ _ _ hX hZ hH hE hn hS hc hs hl)
theorem G_lald {a n : Nat} {f : Nat → Int64} {i : Int32} (hd : decode cc pc = .ok (.laload, 1)) (ha : A.1[a]? = some (.inl (1, n, .inr (.inl f)))) (hi : vp_in i n) (kk : mj_G y cc nL rt hh d sc (pc + 1) ls (.long (f i.toNatClampNeg) :: st) A post) : mj_G y cc nL rt hh d sc pc ls (.int i :: .ref a :: st) A post := by
  intro p l e R s m args below meth c H locs cells slots F nc ns D ad ad0 cy n0 lsC hX hZ hH hE hn hS hc hs hl
  exact va_lald hX.1 hX.2.2.1 (mj_K1 hH ha) hH.1 a 0 (mj_W_get ha) rfl hi hd (kk _ _ _ _ _ _ _ _ _ _ _ _ _ _ _ _ _ _ _ _ _ _ _ hX hZ hH hE hn hS hc hs hl)
theorem G_aald {a n r : Nat} {f : Nat → Option Nat} {i : Int32} (hd : decode cc pc = .ok (.aaload, 1)) (ha : A.1[a]? = some (.inl (3, n, .inr (.inr (.inr (.inr f)))))) (hi : vp_in i n) (hr : f i.toNatClampNeg = some r) (kk : mj_G y cc nL rt hh d sc (pc + 1) ls (.ref r :: st) A post) : mj_G y cc nL rt hh d sc pc ls (.int i :: .ref a :: st) A post := by
  intro p l e R s m args below meth c H locs cells slots F nc ns D ad ad0 cy n0 lsC hX hZ hH hE hn hS hc hs hl
  have hlt : i.toNatClampNeg < n := Nat.not_le.mp fun q => hi (Or.inr q)
  have K := kk p l e R s m args below meth c H locs cells slots F nc ns D ad ad0 cy n0 lsC hX hZ hH hE hn hS hc hs hl
  refine W.aald (v := .ref (ad r)) (ty := .array .int) hX.1 hX.2.2.1 (hH.1 a _ (mj_W_get ha)) ((hH.2.2.2.1 a _ ha).1 n (fun j => va_rf ((f j).map ad))) rfl (fun q => by cases q) (by show ¬ (i < 0 ∨ (arrV _ _ _).slots.size ≤ _); rw [arrV_size]; exact hi) (by show (arrV (cy a) n (fun j => va_rf ((f j).map ad))).slots[_]? = _; rw [arrV_read _ _ hlt, hr]; rfl) rfl rfl hd K
theorem G_alen {a : Nat} {q : Nat × vp_A} {v : Int32} (hd : decode cc pc = .ok (.arraylength, 1)) (ha : A.1[a]? = some (.inl q)) (hv : Int32.ofNat q.2.1 = v) (kk : mj_G y cc nL rt hh d sc (pc + 1) ls (.int v :: st) A post) : mj_G y cc nL rt hh d sc pc ls (.ref a :: st) A post := by
  intro p l e R s m args below meth c H locs cells slots F nc ns D ad ad0 cy n0 lsC hX hZ hH hE hn hS hc hs hl
  exact va_alen hX.1 hX.2.2.1 (mj_K1 hH ha) hH.1 a 0 (mj_W_get ha) rfl hv hd (kk _ _ _ _ _ _ _ _ _ _ _ _ _ _ _ _ _ _ _ _ _ _ _ hX hZ hH hE hn hS hc hs hl)
theorem G_iast {a n : Nat} {f : Nat → Int32} {i x : Int32} {A1 : List mj_C} (hd : decode cc pc = .ok (.iastore, 1)) (ha : A.1[a]? = some (.inl (0, n, .inl f))) (hi : vp_in i n) (hA : A.1.set a (.inl (0, n, .inl (upd f i.toNatClampNeg x))) = A1) (kk : mj_G y cc nL rt hh d sc (pc + 1) ls st (A1, A.2) post) : mj_G y cc nL rt hh d sc pc ls (.int x :: .int i :: .ref a :: st) A post := by
  intro p l e R s m args below meth c H locs cells slots F nc ns D ad ad0 cy n0 lsC hX hZ hH hE hn hS hc hs hl
  refine va_iast hX.1 hX.2.2.1 (mj_K1 hH ha) hH.1 hH.2.1 hS a 0 (mj_W_get ha) rfl hi hd (fun H1 locs1 hP hD hS1 => ?_)
  have hlen : A1.length = A.1.length := by rw [← hA, List.length_set]
  have hH1 : mj_Hp D F ad cy A1 s H1 := by
    rw [← hA]
    exact mj_Hp_set hH ha trivial (fun q hq => by cases hq; exact ⟨_, rfl, rfl⟩) hP hD
  exact kk _ _ _ _ _ _ _ _ _ _ _ _ _ _ _ _ _ _ _ _ _ _ _ hX hZ hH1 (by rw [hlen]; exact hE) (by rw [hlen]; exact hn) hS1 hc hs hl
theorem G_zast {a n : Nat} {f : Nat → Int32} {i x : Int32} {A1 : List mj_C} (hd : decode cc pc = .ok (.bastore, 1)) (ha : A.1[a]? = some (.inl (2, n, .inl f))) (hi : vp_in i n) (hA : A.1.set a (.inl (2, n, .inl (upd f i.toNatClampNeg (vp_nar .boolean x)))) = A1) (kk : mj_G y cc nL rt hh d sc (pc + 1) ls st (A1, A.2) post) : mj_G y cc nL rt hh d sc pc ls (.int x :: .int i :: .ref a :: st) A post := by
  intro p l e R s m args below meth c H locs cells slots F nc ns D ad ad0 cy n0 lsC hX hZ hH hE hn hS hc hs hl
  refine va_zast hX.1 hX.2.2.1 (mj_K1 hH ha) hH.1 hH.2.1 hS a 0 (mj_W_get ha) rfl hi hd (fun H1 locs1 hP hD hS1 => ?_)
  have hlen : A1.length = A.1.length := by rw [← hA, List.length_set]
  have hH1 : mj_Hp D F ad cy A1 s H1 := by
    rw [← hA]
    exact mj_Hp_set hH ha trivial (fun q hq => by cases hq; exact ⟨_, rfl, rfl⟩) hP hD
  exact kk _ _ _ _ _ _ _ _ _ _ _ _ _ _ _ _ _ _ _ _ _ _ _ hX hZ hH1 (by rw [hlen]; exact hE) (by rw [hlen]; exact hn) hS1 hc hs hl
theorem G_last {a n : Nat} {f : Nat → Int64} {i : Int32} {x : Int64} {A1 : List mj_C} (hd : decode cc pc = .ok (.lastore, 1)) (ha : A.1[a]? = some (.inl (1, n, .inr (.inl f)))) (hi : vp_in i n) (hA : A.1.set a (.inl (1, n, .inr (.inl (vp_updL f i.toNatClampNeg x)))) = A1) (kk : mj_G y cc nL rt hh d sc (pc + 1) ls st (A1, A.2) post) : mj_G y cc nL rt hh d sc pc ls (.long x :: .int i :: .ref a :: st) A post := by
  intro p l e R s m args below meth c H locs cells slots F nc ns D ad ad0 cy n0 lsC hX hZ hH hE hn hS hc hs hl
  refine va_last hX.1 hX.2.2.1 (mj_K1 hH ha) hH.1 hH.2.1 hS a 0 (mj_W_get ha) rfl hi hd (fun H1 locs1 hP hD hS1 => ?_)
  have hlen : A1.length = A.1.length := by rw [← hA, List.length_set]
  have hH1 : mj_Hp D F ad cy A1 s H1 := by
    rw [← hA]
    exact mj_Hp_set hH ha trivial (fun q hq => by cases hq; exact ⟨_, rfl, rfl⟩) hP hD
  exact kk _ _ _ _ _ _ _ _ _ _ _ _ _ _ _ _ _ _ _ _ _ _ _ hX hZ hH1 (by rw [hlen]; exact hE) (by rw [hlen]; exact hn) hS1 hc hs hl
theorem G_sld {L : Nat} {xs : Nat → Int32} {i : Int32} (hd : decode cc pc = .ok (.iaload, 1)) (hi : vp_in i L) (kk : mj_G y cc nL rt hh d (some (L, xs)) (pc + 1) ls (.int (xs i.toNatClampNeg) :: st) A post) : mj_G y cc nL rt hh d (some (L, xs)) pc ls (.int i :: .ref 1000000 :: st) A post := by
  intro p l e R s m args below meth c H locs cells slots F nc ns D ad ad0 cy n0 lsC hX hZ hH hE hn hS hc hs hl
  exact va_sld hX.1 hX.2.2.1 hZ.1 hZ.2.1 hZ.2.2 hS hi hd (kk _ _ _ _ _ _ _ _ _ _ _ _ _ _ _ _ _ _ _ _ _ _ _ hX hZ hH hE hn hS hc hs hl)
theorem G_slen {L : Nat} {xs : Nat → Int32} (hd : decode cc pc = .ok (.arraylength, 1)) (kk : mj_G y cc nL rt hh d (some (L, xs)) (pc + 1) ls (.int (Int32.ofNat L) :: st) A post) : mj_G y cc nL rt hh d (some (L, xs)) pc ls (.ref 1000000 :: st) A post := by
  intro p l e R s m args below meth c H locs cells slots F nc ns D ad ad0 cy n0 lsC hX hZ hH hE hn hS hc hs hl
  exact va_slen hX.1 hX.2.2.1 hZ.1 hZ.2.1 hZ.2.2 hS hd (kk _ _ _ _ _ _ _ _ _ _ _ _ _ _ _ _ _ _ _ _ _ _ _ hX hZ hH hE hn hS hc hs hl)
theorem G_lcmp {x z : Int64} (hd : decode cc pc = .ok (.lcmp, 1)) (kk : mj_G y cc nL rt hh d sc (pc + 1) ls (.int (lg_cmp x z) :: st) A post) : mj_G y cc nL rt hh d sc pc ls (.long z :: .long x :: st) A post := by
  intro p l e R s m args below meth c H locs cells slots F nc ns D ad ad0 cy n0 lsC hX hZ hH hE hn hS hc hs hl
  exact W.lcmp hX.1 hX.2.2.1 hd (kk _ _ _ _ _ _ _ _ _ _ _ _ _ _ _ _ _ _ _ _ _ _ _ hX hZ hH hE hn hS hc hs hl)
theorem G_dup2 {v w : Value} (hd : decode cc pc = .ok (.dup2, 1)) (hv : v.category = 1) (hw : w.category = 1) (kk : mj_G y cc nL rt hh d sc (pc + 1) ls (v :: w :: v :: w :: st) A post) : mj_G y cc nL rt hh d sc pc ls (v :: w :: st) A post := by
  intro p l e R s m args below meth c H locs cells slots F nc ns D ad ad0 cy n0 lsC hX hZ hH hE hn hS hc hs hl
  exact lv_dup2_11 hX.1 hX.2.2.1 hd (by rw [mj_cat]; exact hv) (by rw [mj_cat]; exact hw) (kk _ _ _ _ _ _ _ _ _ _ _ _ _ _ _ _ _ _ _ _ _ _ _ hX hZ hH hE hn hS hc hs hl)
theorem G_ldcw {index : Nat} {v : Int32} (hd : decode cc pc = .ok (.ldc_w index, 3)) (hw : Cond.constant y.cls index v ∈ tw_tbl) (kk : mj_G y cc nL rt hh d sc (pc + 3) ls (.int v :: st) A post) : mj_G y cc nL rt hh d sc pc ls st A post := by
  intro p l e R s m args below meth c H locs cells slots F nc ns D ad ad0 cy n0 lsC hX hZ hH hE hn hS hc hs hl
  exact lv_ldcw hX.1 hX.2.2.1 hX.2.2.2.2.2.2.2.1 (hX.2.2.2.2.2.2.2.2.1 _ hw) hd (kk _ _ _ _ _ _ _ _ _ _ _ _ _ _ _ _ _ _ _ _ _ _ _ hX hZ hH hE hn hS hc hs hl)
theorem G_ldc2 {index : Nat} {v : Int64} (hd : decode cc pc = .ok (.ldc2_w index, 3)) (hw : Cond.constantLong y.cls index v ∈ tw_tbl) (kk : mj_G y cc nL rt hh d sc (pc + 3) ls (.long v :: st) A post) : mj_G y cc nL rt hh d sc pc ls st A post := by
  intro p l e R s m args below meth c H locs cells slots F nc ns D ad ad0 cy n0 lsC hX hZ hH hE hn hS hc hs hl
  exact lv_ldc2 hX.1 hX.2.2.1 hX.2.2.2.2.2.2.2.1 (hX.2.2.2.2.2.2.2.2.1 _ hw) hd (kk _ _ _ _ _ _ _ _ _ _ _ _ _ _ _ _ _ _ _ _ _ _ _ hX hZ hH hE hn hS hc hs hl)
end GH
