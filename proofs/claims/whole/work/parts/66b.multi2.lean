/-! the rule of an array of arrays -/
theorem mj_W_at {ad : Nat → Nat} {cy : Nat → ClassId} {A : List mj_C} {k : Nat} {q : Nat × va_E} (h : (mj_W ad cy A)[k]? = some q) : ∃ c, A[k]? = some c ∧ q = (ad k, mj_E ad (cy k) c) := by
  unfold mj_W at h
  rw [List.getElem?_mapIdx] at h
  obtain ⟨c, h1, h2⟩ := Option.map_eq_some_iff.mp h
  exact ⟨c, h1, h2.symm⟩
def mo_o (n N : Nat) : mj_C := .inl (3, N, .inr (.inr (.inr (.inr (fun i => if i < N then some (n + 1 + i) else none)))))
def mo_i (M : Nat) : mj_C := .inl (0, M, .inl (fun _ => 0))
theorem mo_cases {A : List mj_C} {N M k : Nat} {c : mj_C} (h : (A ++ mo_o A.length N :: List.replicate N (mo_i M))[k]? = some c) : (k < A.length ∧ A[k]? = some c) ∨ (k = A.length ∧ c = mo_o A.length N) ∨ ∃ j, j < N ∧ k = A.length + 1 + j ∧ c = mo_i M := by
  by_cases h1 : k < A.length
  · rw [List.getElem?_append_left h1] at h; exact Or.inl ⟨h1, h⟩
  · rw [List.getElem?_append_right (by omega)] at h
    cases hj : k - A.length with
    | zero =>
      rw [hj] at h
      exact Or.inr (Or.inl ⟨by omega, (Option.some.inj h).symm⟩)
    | succ j =>
      rw [hj, List.getElem?_cons_succ, List.getElem?_replicate] at h
      split at h
      · rename_i hlt
        exact Or.inr (Or.inr ⟨j, hlt, by omega, (Option.some.inj h).symm⟩)
      · cases h
theorem arrV_ext {cA : ClassId} {N : Nat} {f g : Nat → Value} (h : ∀ j, j < N → f j = g j) : arrV cA N f = arrV cA N g := by
  unfold arrV
  congr 1
  apply Array.ext
  · rw [Array.size_ofFn, Array.size_ofFn]
  · intro i h1 h2
    rw [Array.getElem_ofFn, Array.getElem_ofFn]
    exact h i (by rw [Array.size_ofFn] at h1; exact h1)
def mo_ad (ad : Nat → Nat) (n N h : Nat) : Nat → Nat := fun q => if n ≤ q ∧ q ≤ n + N then h + (q - n) else ad q
def mo_cy (cy : Nat → ClassId) (n N : Nat) (cA cI : ClassId) : Nat → ClassId := fun q => if q = n then cA else if n < q ∧ q ≤ n + N then cI else cy q
theorem mo_ad_o {ad : Nat → Nat} {n N h q : Nat} (hq : ¬ (n ≤ q ∧ q ≤ n + N)) : mo_ad ad n N h q = ad q := if_neg hq
theorem mo_ad_n {ad : Nat → Nat} {n N h j : Nat} (hj : j ≤ N) : mo_ad ad n N h (n + j) = h + j := by
  unfold mo_ad
  rw [if_pos (by omega), Nat.add_sub_cancel_left]
theorem mo_Hp {D : va_G} {F : Nat → Prop} {ad : Nat → Nat} {cy : Nat → ClassId} {A : List mj_C} {U : State} {H H1 : Heap} {cA cI : ClassId} {N M : Nat} (h : mj_Hp D F ad cy A U H) (hF : ∀ q, H.size ≤ q → F q) (tA : ArrOfT U cA (.array .int) ∧ va_RA U cA (.array .int)) (tI : ArrOfT U cI .int ∧ va_RA U cI .int)
    (q2 : H1[H.size]? = some (arrV cA N (ma_f H.size N))) (q3 : ∀ a, a < H.size → H1[a]? = H[a]?) (q4 : ∀ j, j < N → H1[H.size + 1 + j]? = some (arrV cI M (fun _ => .int 0))) :
    mj_Hp D F (mo_ad ad A.length N H.size) (mo_cy cy A.length N cA cI) (A ++ mo_o A.length N :: List.replicate N (mo_i M)) U H1 := by
  obtain ⟨hP, hD, hK, hT, hR⟩ := h
  have hlen : (A ++ mo_o A.length N :: List.replicate N (mo_i M)).length = A.length + 1 + N := by
    rw [List.length_append, List.length_cons, List.length_replicate]; omega
  have eold : ∀ k, k < A.length → mo_ad ad A.length N H.size k = ad k ∧ mo_cy cy A.length N cA cI k = cy k := fun k hk => ⟨mo_ad_o (by omega), by
    unfold mo_cy
    rw [if_neg (by omega), if_neg (by omega)]⟩
  have enew : ∀ j, j < N → mo_cy cy A.length N cA cI (A.length + 1 + j) = cI := fun j hj => by
    unfold mo_cy
    rw [if_neg (by omega), if_pos (by omega)]
  have ent : ∀ (k : Nat) (q : Nat × va_E), (mj_W (mo_ad ad A.length N H.size) (mo_cy cy A.length N cA cI) (A ++ mo_o A.length N :: List.replicate N (mo_i M)))[k]? = some q → (k < A.length ∧ (mj_W ad cy A)[k]? = some q) ∨ (k = A.length ∧ q = (H.size, .inl (cA, mj_A (mo_ad ad A.length N H.size) (mo_o A.length N |>.elim (fun x => x.2) (fun _ => (0, .inl (fun _ => 0))))))) ∨ ∃ j, j < N ∧ k = A.length + 1 + j ∧ q = (H.size + 1 + j, .inl (cI, (M, .inl (fun _ => 0)))) := by
    intro k q hk
    obtain ⟨c, h1, h2⟩ := mj_W_at hk
    rcases mo_cases h1 with ⟨g1, g2⟩ | ⟨g1, g2⟩ | ⟨j, g1, g2, g3⟩
    · refine Or.inl ⟨g1, ?_⟩
      obtain ⟨z1, z2⟩ := eold k g1
      rw [h2, z1, z2, mj_E_ext (hR k c g2) (fun i hi => (eold i hi).1)]
      exact mj_W_get g2
    · refine Or.inr (Or.inl ⟨g1, ?_⟩)
      rw [h2, g1, g2]
      have e1 : mo_ad ad A.length N H.size A.length = H.size := mo_ad_n (j := 0) (Nat.zero_le _)
      have e2 : mo_cy cy A.length N cA cI A.length = cA := if_pos rfl
      rw [e1, e2]; rfl
    · refine Or.inr (Or.inr ⟨j, g1, g2, ?_⟩)
      rw [h2, g2, g3, enew j g1]
      have e1 : mo_ad ad A.length N H.size (A.length + 1 + j) = H.size + 1 + j := by
        rw [Nat.add_assoc, mo_ad_n (by omega), Nat.add_assoc]
      rw [e1]; rfl
  refine ⟨fun k q hk => ?_, ⟨fun i j p q hi hj hpq => ?_, fun k q hk => ?_⟩, hK, fun k x hk => ?_, fun k c hk => ?_⟩
  · rcases ent k q hk with ⟨g1, g2⟩ | ⟨g1, g2⟩ | ⟨j, g1, g2, g3⟩
    · exact (hP k q g2).kept (q3 q.1 ((hP k q g2).lt))
    · rw [g2]
      show H1[H.size]? = some (vp_cell cA _)
      rw [q2]
      show some (arrV cA N (ma_f H.size N)) = some (arrV cA N (fun j => va_rf ((if j < N then some (A.length + 1 + j) else none).map (mo_ad ad A.length N H.size))))
      refine congrArg some (arrV_ext fun j hj => ?_)
      rw [if_pos hj]
      show ma_f H.size N j = va_rf (some (mo_ad ad A.length N H.size (A.length + 1 + j)))
      rw [Nat.add_assoc, mo_ad_n (by omega), ← Nat.add_assoc]
      exact if_pos hj
    · rw [g3]
      exact q4 j g1
  · have key : ∀ (k : Nat) (q : Nat × va_E), (mj_W (mo_ad ad A.length N H.size) (mo_cy cy A.length N cA cI) (A ++ mo_o A.length N :: List.replicate N (mo_i M)))[k]? = some q → (k < A.length ∧ (mj_W ad cy A)[k]? = some q ∧ q.1 < H.size) ∨ (A.length ≤ k ∧ q.1 + A.length = H.size + k) := fun k q hk => by
      rcases ent k q hk with ⟨g1, g2⟩ | ⟨g1, g2⟩ | ⟨j, g1, g2, g3⟩
      · exact Or.inl ⟨g1, g2, (hP k q g2).lt⟩
      · exact Or.inr ⟨by omega, by rw [g2, g1]⟩
      · refine Or.inr ⟨by omega, ?_⟩
        rw [g3]
        show H.size + 1 + j + A.length = H.size + k
        omega
    rcases key i p hi with ⟨a1, a2, a3⟩ | ⟨a1, a2⟩ <;> rcases key j q hj with ⟨b1, b2, b3⟩ | ⟨b1, b2⟩
    · exact hD.1 i j p q a2 b2 hpq
    · rw [hpq] at a3; omega
    · rw [← hpq] at b3; omega
    · rw [hpq] at a2; omega
  · rcases ent k q hk with ⟨g1, g2⟩ | ⟨g1, g2⟩ | ⟨j, g1, g2, g3⟩
    · exact hD.2 k q g2
    · rw [g2]; exact hF _ (Nat.le_refl _)
    · rw [g3]; exact hF _ (by show H.size ≤ H.size + 1 + j; omega)
  · rcases mo_cases hk with ⟨g1, g2⟩ | ⟨g1, g2⟩ | ⟨j, g1, g2, g3⟩
    · rw [(eold k g1).2]; exact hT k x g2
    · have e2 : mo_cy cy A.length N cA cI A.length = cA := if_pos rfl
      rw [g1, e2]
      cases g2
      exact tA
    · rw [g2, enew j g1]
      cases g3
      exact tI
  · rw [hlen]
    rcases mo_cases hk with ⟨g1, g2⟩ | ⟨g1, g2⟩ | ⟨j, g1, g2, g3⟩
    · exact mj_rf_mono (hR k c g2) (by omega)
    · rw [g2]
      show ∀ i j, (if i < N then some (A.length + 1 + i) else none) = some j → j < A.length + 1 + N
      intro i j hij
      split at hij
      · cases hij; omega
      · cases hij
    · rw [g3]; trivial
section GM
variable {y : MethodName} {cc : ByteArray} {nL : Nat} {rt : Option FieldType} {hh : List (Nat × Nat × Nat × Nat)} {d : Nat} {sc : Option (Nat × (Nat → Int32))} {pc : Nat} {ls : List (Nat × Value)} {st : List Value} {A : mj_H} {post : mj_O → mj_H → Prop}
theorem G_multi {index : Nat} {n k : Int32} {N M : Nat} (hd : decode cc pc = .ok (.multianewarray index 2, 4)) (hcl : Cond.classLink y.cls index "[[I" ∈ tw_tbl) (hov : Cond.arrayOver (.array .int) ∈ tw_tbl) (har : Cond.arrayClass .int ∈ tw_tbl) (hn0 : ¬ n < 0) (hk0 : ¬ k < 0) (hN : n.toNatClampNeg = N) (hM : k.toNatClampNeg = M) (hN2 : N ≤ 1000) (hM2 : M ≤ 1000)
    (hr1 : A.2.1 + 1 + N ≤ 601024) (hr2 : A.2.2 + N + N * M ≤ 7293034) (hm : A.1.length + 1 + N ≤ 1000000) (hbl : ls.all (fun q => mj_bd A.1.length q.2) = true) (hbs : st.all (mj_bd A.1.length) = true)
    (kk : mj_G y cc nL rt hh d sc (pc + 4) ls (.ref A.1.length :: st) (A.1 ++ mo_o A.1.length N :: List.replicate N (mo_i M), A.2.1 + 1 + N, A.2.2 + N + N * M) post) : mj_G y cc nL rt hh d sc pc ls (.int k :: .int n :: st) A post := by
  intro p l e R s m args below meth c H locs cells slots F nc ns D ad ad0 cy n0 lsC hX hZ hH hE hn hS hc hs hl
  have hts := hX.2.2.2.2.2.2.2.2.1
  have hroom := hX.2.2.2.2.2.2.2.2.2.2.1
  have hF := hX.2.2.2.2.2.2.2.2.2.2.2.1
  intro T hT X
  obtain ⟨T', cA, cI, tA, tI, X', q1, q2, q3, q4, go⟩ := ma_law X (by rw [hT]; exact hS.1) hX.1 hX.2.2.2.2.2.2.2.1 (hts _ hcl) (hts _ hov) (hts _ har) (g := F0 m pc lsC ((.int k :: .int n :: st).map (mj_v ad))) rfl (by rw [hX.2.2.1]; exact hd) rfl hn0 hk0 hN hM hN2 hM2 (by have := hroom.2.2.1; omega) (by have := hroom.2.2.2; omega)
  subst hT
  have hH1 := mo_Hp (N := N) (M := M) hH (fun q hq => hF q (Nat.le_trans hS.1 hq)) tA tI q2 q3 q4
  have hlen : (A.1 ++ mo_o A.1.length N :: List.replicate N (mo_i M)).length = A.1.length + 1 + N := by
    rw [List.length_append, List.length_cons, List.length_replicate]; omega
  have g1 : mj_Ext (mo_ad ad A.1.length N T.heap.size) ad0 n0 (A.1.length + 1 + N) := fun q hq => by
    rw [mo_ad_o (by omega)]; exact hE q (by omega)
  have g2 : mj_Ext (mo_ad ad A.1.length N T.heap.size) ad A.1.length (A.1.length + 1 + N) := fun q hq => mo_ad_o (by omega)
  have hS1 : va_S F s.heap T'.heap locs := ⟨by rw [q1]; exact Nat.le_trans hS.1 (by omega), fun q h1 h2 => (q3 q (Nat.lt_of_lt_of_le h1 hS.1)).trans (hS.2.1 q h1 h2), hS.2.2⟩
  obtain ⟨t, a1, b1⟩ := kk p l e R s m args below meth c T'.heap locs (cells + 1 + N) (slots + N + N * M) F nc ns D (mo_ad ad A.1.length N T.heap.size) ad0 (mo_cy cy A.1.length N cA cI) n0 lsC hX (mj_Z_bd hZ g2 hm) hH1 (by rw [hlen]; exact g1) (by rw [hlen]; omega) hS1 ⟨by show A.2.1 + 1 + N = _; omega, hr1⟩ ⟨by show A.2.2 + N + N * M = _; omega, hr2⟩ (by rw [mj_ls_bd hbl g2 hm]; exact hl) T' rfl X'
  refine ⟨t, go t ?_, b1⟩
  have e1 : F0 m (pc + 4) lsC ((.ref A.1.length :: st).map (mj_v (mo_ad ad A.1.length N T.heap.size))) = ({ F0 m pc lsC ((.int k :: .int n :: st).map (mj_v ad)) with pc := pc + 4, stack := .ref T.heap.size :: st.map (mj_v ad) } : JFrame) := by
    rw [List.map_cons, mj_st_bd hbs g2 hm]
    show F0 m (pc + 4) lsC (.ref (mo_ad ad A.1.length N T.heap.size A.1.length) :: st.map (mj_v ad)) = _
    rw [show mo_ad ad A.1.length N T.heap.size A.1.length = T.heap.size from mo_ad_n (j := 0) (Nat.zero_le _)]
  rw [← e1]; exact a1
end GM
