/-! the rules as the printed rows use them -/
section GS
variable {y : MethodName} {cc : ByteArray} {nL : Nat} {rt : Option FieldType} {hh : List (Nat × Nat × Nat × Nat)} {d : Nat} {sc : Option (Nat × (Nat → Int32))} {pc : Nat} {ls : List (Nat × Value)} {st : List Value} {A : mj_H} {post : mj_O → mj_H → Prop}
variable {y' : MethodName} {cc' : ByteArray} {nL' : Nat} {rt' : Option FieldType} {hh' : List (Nat × Nat × Nat × Nat)} {As : List Value}
theorem G_gt {index ci k a : Nat} {v : Value} (hd : decode cc pc = .ok (.getfield index, 3)) (hf : mj_fr y.cls index ci k) (hr : mj_rd A.1 a ci k v) (kk : mj_G y cc nL rt hh d sc (pc + 3) ls (v :: st) A post) : mj_G y cc nL rt hh d sc pc ls (.ref a :: st) A post := by
  obtain ⟨fs, h1, h2⟩ := hr
  exact G_get hd hf h1 h2 kk
theorem G_pt {index ci k a : Nat} {x : Int32} {A1 : List mj_C} (hd : decode cc pc = .ok (.putfield index, 3)) (hf : mj_fp y.cls index ci k .int false) (hw : mj_wr A.1 a ci k (.int x) A1) (kk : mj_G y cc nL rt hh d sc (pc + 3) ls st (A1, A.2) post) : mj_G y cc nL rt hh d sc pc ls (.int x :: .ref a :: st) A post := by
  obtain ⟨fs, h1, h2, h3⟩ := hw
  exact G_put hd hf h1 h2 (fun _ => ⟨rfl, rfl⟩) (fun j h => by cases h) h3 kk
theorem G_ialN {a n j : Nat} {f : Nat → Int32} (hd : decode cc pc = .ok (.iaload, 1)) (ha : A.1[a]? = some (.inl (0, n, .inl f))) (hn : n < 2 ^ 31) (hj : j < n) (kk : mj_G y cc nL rt hh d sc (pc + 1) ls (.int (f j) :: st) A post) : mj_G y cc nL rt hh d sc pc ls (.int (nI j) :: .ref a :: st) A post := by
  refine G_iald hd ha (vp_in_nI hj hn) ?_
  rw [nI_clamp (by omega)]; exact kk
theorem G_zalN {a n j : Nat} {f : Nat → Int32} (hd : decode cc pc = .ok (.baload, 1)) (ha : A.1[a]? = some (.inl (2, n, .inl f))) (hn : n < 2 ^ 31) (hj : j < n) (kk : mj_G y cc nL rt hh d sc (pc + 1) ls (.int (f j) :: st) A post) : mj_G y cc nL rt hh d sc pc ls (.int (nI j) :: .ref a :: st) A post := by
  refine G_zald hd ha (vp_in_nI hj hn) ?_
  rw [nI_clamp (by omega)]; exact kk
theorem G_lalN {a n j : Nat} {f : Nat → Int64} (hd : decode cc pc = .ok (.laload, 1)) (ha : A.1[a]? = some (.inl (1, n, .inr (.inl f)))) (hn : n < 2 ^ 31) (hj : j < n) (kk : mj_G y cc nL rt hh d sc (pc + 1) ls (.long (f j) :: st) A post) : mj_G y cc nL rt hh d sc pc ls (.int (nI j) :: .ref a :: st) A post := by
  refine G_lald hd ha (vp_in_nI hj hn) ?_
  rw [nI_clamp (by omega)]; exact kk
theorem G_aalN {a n j r : Nat} {f : Nat → Option Nat} (hd : decode cc pc = .ok (.aaload, 1)) (ha : A.1[a]? = some (.inl (3, n, .inr (.inr (.inr (.inr f)))))) (hn : n < 2 ^ 31) (hj : j < n) (hr : f j = some r) (kk : mj_G y cc nL rt hh d sc (pc + 1) ls (.ref r :: st) A post) : mj_G y cc nL rt hh d sc pc ls (.int (nI j) :: .ref a :: st) A post :=
  G_aald hd ha (vp_in_nI hj hn) (by rw [nI_clamp (by omega)]; exact hr) kk
theorem G_iasN {a n j : Nat} {f : Nat → Int32} {x : Int32} {A1 : List mj_C} (hd : decode cc pc = .ok (.iastore, 1)) (ha : A.1[a]? = some (.inl (0, n, .inl f))) (hn : n < 2 ^ 31) (hj : j < n) (hA : A.1.set a (.inl (0, n, .inl (upd f j x))) = A1) (kk : mj_G y cc nL rt hh d sc (pc + 1) ls st (A1, A.2) post) : mj_G y cc nL rt hh d sc pc ls (.int x :: .int (nI j) :: .ref a :: st) A post :=
  G_iast hd ha (vp_in_nI hj hn) (by rw [nI_clamp (by omega)]; exact hA) kk
theorem G_zasN {a n j : Nat} {f : Nat → Int32} {x : Int32} {A1 : List mj_C} (hd : decode cc pc = .ok (.bastore, 1)) (ha : A.1[a]? = some (.inl (2, n, .inl f))) (hn : n < 2 ^ 31) (hj : j < n) (hx : vp_nar .boolean x = x) (hA : A.1.set a (.inl (2, n, .inl (upd f j x))) = A1) (kk : mj_G y cc nL rt hh d sc (pc + 1) ls st (A1, A.2) post) : mj_G y cc nL rt hh d sc pc ls (.int x :: .int (nI j) :: .ref a :: st) A post :=
  G_zast hd ha (vp_in_nI hj hn) (by rw [nI_clamp (by omega), hx]; exact hA) kk
theorem G_lasN {a n j : Nat} {f : Nat → Int64} {x : Int64} {A1 : List mj_C} (hd : decode cc pc = .ok (.lastore, 1)) (ha : A.1[a]? = some (.inl (1, n, .inr (.inl f)))) (hn : n < 2 ^ 31) (hj : j < n) (hA : A.1.set a (.inl (1, n, .inr (.inl (vp_updL f j x)))) = A1) (kk : mj_G y cc nL rt hh d sc (pc + 1) ls st (A1, A.2) post) : mj_G y cc nL rt hh d sc pc ls (.long x :: .int (nI j) :: .ref a :: st) A post :=
  G_last hd ha (vp_in_nI hj hn) (by rw [nI_clamp (by omega)]; exact hA) kk
def mj_ob (A : List mj_C) (b ci : Nat) : Prop := ∃ fs, A[b]? = some (.inr (ci, fs))
/-- a call whose callee returns: Ph says what it may answer, and with which heap -/
theorem G_cvp (Ph : Option Value → mj_H → Prop) {index ci b : Nat} (hd : decode cc pc = .ok (.invokevirtual index, 3)) (hcv : mj_cv y.cls index y' ci) (hcw : mj_cw y' cc' nL' rt' hh') (hb : mj_ob A.1 b ci) (hn1 : (parseMethodDescriptor y'.desc).map (fun d => d.parameters.length) = some As.length) (hsl : (lg_sl (.ref b :: As)).length ≤ nL') (hw : (st.map fun v => v.category).sum + (nL' + 11) ≤ 41)
    (hG : ∀ post' : mj_O → mj_H → Prop, (∀ v A', Ph v A' → post' (.inl v) A') → mj_G y' cc' nL' rt' hh' d none 0 (lv_args 0 (.ref b :: As)) [] A post') (hlen : ∀ v A', Ph v A' → A'.1.length = A.1.length)
    (kr : ∀ v A', Ph v A' → mj_G y cc nL rt hh (d + 1) sc (pc + 3) ls (v.toList ++ st) A' post) : mj_G y cc nL rt hh (d + 1) sc pc ls (As.reverse ++ .ref b :: st) A post := by
  obtain ⟨fs, hb⟩ := hb
  refine G_callv (post' := fun out A' => ∃ v, out = .inl v ∧ Ph v A') hd hcv hcw hb hn1 hsl hw (hG _ (fun v A' h => ⟨v, rfl, h⟩)) (fun out A' h => ?_) (fun v A' h => ?_) (fun C A' h => ?_)
  · obtain ⟨v, -, h⟩ := h; exact hlen v A' h
  · obtain ⟨v2, e, h⟩ := h; cases e; exact kr v A' h
  · obtain ⟨v, e, -⟩ := h; cases e
theorem G_cv1 (v : Option Value) (A1 : mj_H) {index ci b : Nat} (hd : decode cc pc = .ok (.invokevirtual index, 3)) (hcv : mj_cv y.cls index y' ci) (hcw : mj_cw y' cc' nL' rt' hh') (hb : mj_ob A.1 b ci) (hn1 : (parseMethodDescriptor y'.desc).map (fun d => d.parameters.length) = some As.length) (hsl : (lg_sl (.ref b :: As)).length ≤ nL') (hw : (st.map fun v => v.category).sum + (nL' + 11) ≤ 41)
    (hG : ∀ post' : mj_O → mj_H → Prop, post' (.inl v) A1 → mj_G y' cc' nL' rt' hh' d none 0 (lv_args 0 (.ref b :: As)) [] A post') (hlen : A1.1.length = A.1.length)
    (kr : mj_G y cc nL rt hh (d + 1) sc (pc + 3) ls (v.toList ++ st) A1 post) : mj_G y cc nL rt hh (d + 1) sc pc ls (As.reverse ++ .ref b :: st) A post :=
  G_cvp (fun v2 A' => v2 = v ∧ A' = A1) hd hcv hcw hb hn1 hsl hw (fun post' h => hG post' (h v A1 ⟨rfl, rfl⟩)) (fun v2 A' h => by rw [h.2]; exact hlen) (fun v2 A' h => by rw [h.1, h.2]; exact kr)
theorem G_cvB (P : Prop) {index ci b : Nat} (hd : decode cc pc = .ok (.invokevirtual index, 3)) (hcv : mj_cv y.cls index y' ci) (hcw : mj_cw y' cc' nL' rt' hh') (hb : mj_ob A.1 b ci) (hn1 : (parseMethodDescriptor y'.desc).map (fun d => d.parameters.length) = some As.length) (hsl : (lg_sl (.ref b :: As)).length ≤ nL') (hw : (st.map fun v => v.category).sum + (nL' + 11) ≤ 41)
    (hG : ∀ post' : mj_O → mj_H → Prop, (P → post' (.inl (some (.int 1))) A) → (¬ P → post' (.inl (some (.int 0))) A) → mj_G y' cc' nL' rt' hh' d none 0 (lv_args 0 (.ref b :: As)) [] A post')
    (k1 : P → mj_G y cc nL rt hh (d + 1) sc (pc + 3) ls (.int 1 :: st) A post) (k0 : ¬ P → mj_G y cc nL rt hh (d + 1) sc (pc + 3) ls (.int 0 :: st) A post) : mj_G y cc nL rt hh (d + 1) sc pc ls (As.reverse ++ .ref b :: st) A post :=
  G_cvp (fun v2 A' => ((P ∧ v2 = some (.int 1)) ∨ (¬ P ∧ v2 = some (.int 0))) ∧ A' = A) hd hcv hcw hb hn1 hsl hw (fun post' h => hG post' (fun p => h _ _ ⟨Or.inl ⟨p, rfl⟩, rfl⟩) (fun p => h _ _ ⟨Or.inr ⟨p, rfl⟩, rfl⟩)) (fun v2 A' h => by rw [h.2])
    (fun v2 A' h => by
      obtain ⟨h, rfl⟩ := h
      rcases h with ⟨p, rfl⟩ | ⟨p, rfl⟩
      · exact k1 p
      · exact k0 p)
theorem G_cs1 (v : Option Value) (A1 : mj_H) {index : Nat} (hd : decode cc pc = .ok (.invokestatic index, 3)) (hcs : mj_cs y.cls index y') (hcw : mj_cw y' cc' nL' rt' hh') (hn1 : (parseMethodDescriptor y'.desc).map (fun d => d.parameters.length) = some As.length) (hsl : (lg_sl As).length ≤ nL') (hw : (st.map fun v => v.category).sum + (nL' + 11) ≤ 41)
    (hG : ∀ post' : mj_O → mj_H → Prop, post' (.inl v) A1 → mj_G y' cc' nL' rt' hh' d none 0 (lv_args 0 As) [] A post') (hlen : A1.1.length = A.1.length)
    (kr : mj_G y cc nL rt hh (d + 1) sc (pc + 3) ls (v.toList ++ st) A1 post) : mj_G y cc nL rt hh (d + 1) sc pc ls (As.reverse ++ st) A post := by
  refine G_calls (post' := fun out A' => out = .inl v ∧ A' = A1) hd hcs hcw hn1 hsl hw (hG _ ⟨rfl, rfl⟩) (fun out A' h => by rw [h.2]; exact hlen) (fun v2 A' h => ?_) (fun C A' h => by cases h.1)
  obtain ⟨h1, rfl⟩ := h
  cases h1
  exact kr
end GS
theorem ob_C (K : KC) (M : MC) (o : Nat → Int64) : mj_ob (hp K M o) 0 3 := ⟨_, rfl⟩
theorem ob_S (K : KC) (M : MC) (o : Nat → Int64) : mj_ob (hp K M o) 1 2 := ⟨_, rfl⟩
theorem ob_P (K : KC) (M : MC) (o : Nat → Int64) : mj_ob (hp K M o) 7 0 := ⟨_, rfl⟩
theorem ob_H0 (K : KC) (M : MC) (o : Nat → Int64) : mj_ob (hp K M o) 14 1 := ⟨_, rfl⟩
theorem ob_H1 (K : KC) (M : MC) (o : Nat → Int64) : mj_ob (hp K M o) 29 1 := ⟨_, rfl⟩
theorem ob_M (K : KC) (M : MC) (o : Nat → Int64) : mj_ob (hp K M o) 38 4 := ⟨_, rfl⟩
theorem np_C_init : (parseMethodDescriptor y_C_init.desc).map (fun d => d.parameters.length) = some 0 := by decide +kernel
theorem np_S_init : (parseMethodDescriptor y_S_init.desc).map (fun d => d.parameters.length) = some 0 := by decide +kernel
theorem np_P_init : (parseMethodDescriptor y_P_init.desc).map (fun d => d.parameters.length) = some 0 := by decide +kernel
theorem np_H_init : (parseMethodDescriptor y_H_init.desc).map (fun d => d.parameters.length) = some 4 := by decide +kernel
theorem np_H_clear : (parseMethodDescriptor y_H_clear.desc).map (fun d => d.parameters.length) = some 1 := by decide +kernel
theorem np_C_open : (parseMethodDescriptor y_C_open.desc).map (fun d => d.parameters.length) = some 0 := by decide +kernel
theorem np_H_leavesSome : (parseMethodDescriptor y_H_leavesSome.desc).map (fun d => d.parameters.length) = some 0 := by decide +kernel
theorem np_S_isSortLiving : (parseMethodDescriptor y_S_isSortLiving.desc).map (fun d => d.parameters.length) = some 1 := by decide +kernel
theorem np_H_escapes : (parseMethodDescriptor y_H_escapes.desc).map (fun d => d.parameters.length) = some 3 := by decide +kernel
theorem np_H_rowWithLeastLeft : (parseMethodDescriptor y_H_rowWithLeastLeft.desc).map (fun d => d.parameters.length) = some 2 := by decide +kernel
theorem np_JL_bitCount : (parseMethodDescriptor y_JL_bitCount.desc).map (fun d => d.parameters.length) = some 1 := by decide +kernel
theorem np_JL_numberOfTrailingZeros : (parseMethodDescriptor y_JL_numberOfTrailingZeros.desc).map (fun d => d.parameters.length) = some 1 := by decide +kernel
theorem np_JI_numberOfTrailingZeros : (parseMethodDescriptor y_JI_numberOfTrailingZeros.desc).map (fun d => d.parameters.length) = some 1 := by decide +kernel
theorem np_H_rowsSilentAt : (parseMethodDescriptor y_H_rowsSilentAt.desc).map (fun d => d.parameters.length) = some 2 := by decide +kernel
theorem np_H_isAsked : (parseMethodDescriptor y_H_isAsked.desc).map (fun d => d.parameters.length) = some 2 := by decide +kernel
theorem np_S_livingConsOf : (parseMethodDescriptor y_S_livingConsOf.desc).map (fun d => d.parameters.length) = some 1 := by decide +kernel
theorem np_H_consAskedAt : (parseMethodDescriptor y_H_consAskedAt.desc).map (fun d => d.parameters.length) = some 2 := by decide +kernel
theorem np_H_rowsAsking : (parseMethodDescriptor y_H_rowsAsking.desc).map (fun d => d.parameters.length) = some 3 := by decide +kernel
theorem np_C_count : (parseMethodDescriptor y_C_count.desc).map (fun d => d.parameters.length) = some 1 := by decide +kernel
theorem np_H_reachedRows : (parseMethodDescriptor y_H_reachedRows.desc).map (fun d => d.parameters.length) = some 0 := by decide +kernel
theorem np_H_reaches : (parseMethodDescriptor y_H_reaches.desc).map (fun d => d.parameters.length) = some 1 := by decide +kernel
theorem np_H_hasValue : (parseMethodDescriptor y_H_hasValue.desc).map (fun d => d.parameters.length) = some 1 := by decide +kernel
theorem np_S_isConLiving : (parseMethodDescriptor y_S_isConLiving.desc).map (fun d => d.parameters.length) = some 1 := by decide +kernel
theorem np_H_rowsBeforeThatAgree : (parseMethodDescriptor y_H_rowsBeforeThatAgree.desc).map (fun d => d.parameters.length) = some 1 := by decide +kernel
theorem np_H_agree : (parseMethodDescriptor y_H_agree.desc).map (fun d => d.parameters.length) = some 2 := by decide +kernel
theorem np_JI_bitCount : (parseMethodDescriptor y_JI_bitCount.desc).map (fun d => d.parameters.length) = some 1 := by decide +kernel
theorem np_L_sort : (parseMethodDescriptor y_L_sort.desc).map (fun d => d.parameters.length) = some 2 := by decide +kernel
theorem np_C_sort : (parseMethodDescriptor y_C_sort.desc).map (fun d => d.parameters.length) = some 0 := by decide +kernel
theorem np_S_addSort : (parseMethodDescriptor y_S_addSort.desc).map (fun d => d.parameters.length) = some 0 := by decide +kernel
theorem np_S_findLiving : (parseMethodDescriptor y_S_findLiving.desc).map (fun d => d.parameters.length) = some 0 := by decide +kernel
theorem np_S_consWithLivingParts : (parseMethodDescriptor y_S_consWithLivingParts.desc).map (fun d => d.parameters.length) = some 0 := by decide +kernel
theorem np_S_partSort : (parseMethodDescriptor y_S_partSort.desc).map (fun d => d.parameters.length) = some 2 := by decide +kernel
theorem np_S_sortsWithLivingCons : (parseMethodDescriptor y_S_sortsWithLivingCons.desc).map (fun d => d.parameters.length) = some 0 := by decide +kernel
theorem np_L_con : (parseMethodDescriptor y_L_con.desc).map (fun d => d.parameters.length) = some 6 := by decide +kernel
theorem np_C_con : (parseMethodDescriptor y_C_con.desc).map (fun d => d.parameters.length) = some 4 := by decide +kernel
theorem np_C_needSort : (parseMethodDescriptor y_C_needSort.desc).map (fun d => d.parameters.length) = some 1 := by decide +kernel
theorem np_S_hasSort : (parseMethodDescriptor y_S_hasSort.desc).map (fun d => d.parameters.length) = some 1 := by decide +kernel
theorem np_S_addCon : (parseMethodDescriptor y_S_addCon.desc).map (fun d => d.parameters.length) = some 4 := by decide +kernel
theorem np_L_any : (parseMethodDescriptor y_L_any.desc).map (fun d => d.parameters.length) = some 3 := by decide +kernel
theorem np_C_any : (parseMethodDescriptor y_C_any.desc).map (fun d => d.parameters.length) = some 1 := by decide +kernel
theorem np_C_needRoomForPattern : (parseMethodDescriptor y_C_needRoomForPattern.desc).map (fun d => d.parameters.length) = some 1 := by decide +kernel
theorem np_P_addAny : (parseMethodDescriptor y_P_addAny.desc).map (fun d => d.parameters.length) = some 1 := by decide +kernel
theorem np_P_addPattern : (parseMethodDescriptor y_P_addPattern.desc).map (fun d => d.parameters.length) = some 4 := by decide +kernel
theorem np_L_number : (parseMethodDescriptor y_L_number.desc).map (fun d => d.parameters.length) = some 3 := by decide +kernel
theorem np_C_number : (parseMethodDescriptor y_C_number.desc).map (fun d => d.parameters.length) = some 1 := by decide +kernel
theorem np_P_addNumber : (parseMethodDescriptor y_P_addNumber.desc).map (fun d => d.parameters.length) = some 1 := by decide +kernel
theorem np_L_made : (parseMethodDescriptor y_L_made.desc).map (fun d => d.parameters.length) = some 5 := by decide +kernel
theorem np_C_made : (parseMethodDescriptor y_C_made.desc).map (fun d => d.parameters.length) = some 3 := by decide +kernel
theorem np_S_hasCon : (parseMethodDescriptor y_S_hasCon.desc).map (fun d => d.parameters.length) = some 1 := by decide +kernel
theorem np_C_needPatternOf : (parseMethodDescriptor y_C_needPatternOf.desc).map (fun d => d.parameters.length) = some 2 := by decide +kernel
theorem np_C_needPattern : (parseMethodDescriptor y_C_needPattern.desc).map (fun d => d.parameters.length) = some 1 := by decide +kernel
theorem np_P_hasPattern : (parseMethodDescriptor y_P_hasPattern.desc).map (fun d => d.parameters.length) = some 1 := by decide +kernel
theorem np_P_addMade : (parseMethodDescriptor y_P_addMade.desc).map (fun d => d.parameters.length) = some 5 := by decide +kernel
theorem np_L_begin : (parseMethodDescriptor y_L_begin.desc).map (fun d => d.parameters.length) = some 2 := by decide +kernel
theorem np_C_begin : (parseMethodDescriptor y_C_begin.desc).map (fun d => d.parameters.length) = some 1 := by decide +kernel
theorem np_L_clause : (parseMethodDescriptor y_L_clause.desc).map (fun d => d.parameters.length) = some 3 := by decide +kernel
theorem np_C_clause : (parseMethodDescriptor y_C_clause.desc).map (fun d => d.parameters.length) = some 1 := by decide +kernel
theorem np_H_addRow : (parseMethodDescriptor y_H_addRow.desc).map (fun d => d.parameters.length) = some 1 := by decide +kernel
theorem np_H_layPart : (parseMethodDescriptor y_H_layPart.desc).map (fun d => d.parameters.length) = some 4 := by decide +kernel
theorem np_P_partOf : (parseMethodDescriptor y_P_partOf.desc).map (fun d => d.parameters.length) = some 2 := by decide +kernel
theorem np_H_placeBelow : (parseMethodDescriptor y_H_placeBelow.desc).map (fun d => d.parameters.length) = some 3 := by decide +kernel
theorem np_L_takes : (parseMethodDescriptor y_L_takes.desc).map (fun d => d.parameters.length) = some 3 := by decide +kernel
theorem np_C_takes : (parseMethodDescriptor y_C_takes.desc).map (fun d => d.parameters.length) = some 1 := by decide +kernel
theorem np_L_covers : (parseMethodDescriptor y_L_covers.desc).map (fun d => d.parameters.length) = some 4 := by decide +kernel
theorem np_C_covers : (parseMethodDescriptor y_C_covers.desc).map (fun d => d.parameters.length) = some 2 := by decide +kernel
theorem np_C_layPair : (parseMethodDescriptor y_C_layPair.desc).map (fun d => d.parameters.length) = some 2 := by decide +kernel
theorem np_L_meets : (parseMethodDescriptor y_L_meets.desc).map (fun d => d.parameters.length) = some 4 := by decide +kernel
theorem np_C_meets : (parseMethodDescriptor y_C_meets.desc).map (fun d => d.parameters.length) = some 2 := by decide +kernel
theorem np_L_lives : (parseMethodDescriptor y_L_lives.desc).map (fun d => d.parameters.length) = some 3 := by decide +kernel
theorem np_C_lives : (parseMethodDescriptor y_C_lives.desc).map (fun d => d.parameters.length) = some 1 := by decide +kernel
theorem np_M_init : (parseMethodDescriptor y_M_init.desc).map (fun d => d.parameters.length) = some 0 := by decide +kernel
theorem np_M_thrown : (parseMethodDescriptor y_M_thrown.desc).map (fun d => d.parameters.length) = some 0 := by decide +kernel
theorem np_M_sort : (parseMethodDescriptor y_M_sort.desc).map (fun d => d.parameters.length) = some 0 := by decide +kernel
theorem np_M_con : (parseMethodDescriptor y_M_con.desc).map (fun d => d.parameters.length) = some 4 := by decide +kernel
theorem np_M_isSort : (parseMethodDescriptor y_M_isSort.desc).map (fun d => d.parameters.length) = some 1 := by decide +kernel
theorem np_M_any : (parseMethodDescriptor y_M_any.desc).map (fun d => d.parameters.length) = some 1 := by decide +kernel
theorem np_M_pattern : (parseMethodDescriptor y_M_pattern.desc).map (fun d => d.parameters.length) = some 6 := by decide +kernel
theorem np_M_number : (parseMethodDescriptor y_M_number.desc).map (fun d => d.parameters.length) = some 1 := by decide +kernel
theorem np_M_made : (parseMethodDescriptor y_M_made.desc).map (fun d => d.parameters.length) = some 3 := by decide +kernel
theorem np_M_isPattern : (parseMethodDescriptor y_M_isPattern.desc).map (fun d => d.parameters.length) = some 1 := by decide +kernel
theorem np_M_begin : (parseMethodDescriptor y_M_begin.desc).map (fun d => d.parameters.length) = some 1 := by decide +kernel
theorem np_M_clause : (parseMethodDescriptor y_M_clause.desc).map (fun d => d.parameters.length) = some 1 := by decide +kernel
theorem np_M_reaches : (parseMethodDescriptor y_M_reaches.desc).map (fun d => d.parameters.length) = some 1 := by decide +kernel
theorem np_M_has : (parseMethodDescriptor y_M_has.desc).map (fun d => d.parameters.length) = some 1 := by decide +kernel
theorem np_M_live : (parseMethodDescriptor y_M_live.desc).map (fun d => d.parameters.length) = some 0 := by decide +kernel
theorem np_M_isUsed : (parseMethodDescriptor y_M_isUsed.desc).map (fun d => d.parameters.length) = some 1 := by decide +kernel
theorem np_M_gather : (parseMethodDescriptor y_M_gather.desc).map (fun d => d.parameters.length) = some 1 := by decide +kernel
theorem np_M_look : (parseMethodDescriptor y_M_look.desc).map (fun d => d.parameters.length) = some 1 := by decide +kernel
theorem np_M_node : (parseMethodDescriptor y_M_node.desc).map (fun d => d.parameters.length) = some 1 := by decide +kernel
theorem np_M_fill : (parseMethodDescriptor y_M_fill.desc).map (fun d => d.parameters.length) = some 2 := by decide +kernel
theorem np_M_isTried : (parseMethodDescriptor y_M_isTried.desc).map (fun d => d.parameters.length) = some 1 := by decide +kernel
theorem np_M_fit : (parseMethodDescriptor y_M_fit.desc).map (fun d => d.parameters.length) = some 2 := by decide +kernel
theorem np_M_options : (parseMethodDescriptor y_M_options.desc).map (fun d => d.parameters.length) = some 1 := by decide +kernel
theorem np_M_takes : (parseMethodDescriptor y_M_takes.desc).map (fun d => d.parameters.length) = some 1 := by decide +kernel
theorem np_M_open : (parseMethodDescriptor y_M_open.desc).map (fun d => d.parameters.length) = some 0 := by decide +kernel
theorem np_M_covers : (parseMethodDescriptor y_M_covers.desc).map (fun d => d.parameters.length) = some 2 := by decide +kernel
theorem np_M_areLike : (parseMethodDescriptor y_M_areLike.desc).map (fun d => d.parameters.length) = some 2 := by decide +kernel
theorem np_M_meets : (parseMethodDescriptor y_M_meets.desc).map (fun d => d.parameters.length) = some 2 := by decide +kernel
theorem np_M_lives : (parseMethodDescriptor y_M_lives.desc).map (fun d => d.parameters.length) = some 1 := by decide +kernel
theorem np_M_count : (parseMethodDescriptor y_M_count.desc).map (fun d => d.parameters.length) = some 1 := by decide +kernel
theorem np_L_law : (parseMethodDescriptor y_L_law.desc).map (fun d => d.parameters.length) = some 1 := by decide +kernel
