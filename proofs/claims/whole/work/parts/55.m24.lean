/-! what the class throws -/
theorem G_cvT {y : MethodName} {cc : ByteArray} {nL : Nat} {rt : Option FieldType} {hh : List (Nat × Nat × Nat × Nat)} {d : Nat} {sc : Option (Nat × (Nat → Int32))} {pc : Nat} {ls : List (Nat × Value)} {st : List Value} {A : mj_H} {post : mj_O → mj_H → Prop} {y' : MethodName} {cc' : ByteArray} {nL' : Nat} {rt' : Option FieldType} {hh' : List (Nat × Nat × Nat × Nat)} {As : List Value} (P : Prop) (C : Nat) {index ci b : Nat} (hd : decode cc pc = .ok (.invokevirtual index, 3)) (hcv : mj_cv y.cls index y' ci) (hcw : mj_cw y' cc' nL' rt' hh') (hb : mj_ob A.1 b ci) (hn1 : (parseMethodDescriptor y'.desc).map (fun d => d.parameters.length) = some As.length) (hsl : (lg_sl (.ref b :: As)).length ≤ nL') (hw : (st.map fun v => v.category).sum + (nL' + 11) ≤ 41) (hnh : mj_nh hh pc = true)
    (hG : ∀ post' : mj_O → mj_H → Prop, (P → post' (.inl none) A) → (¬ P → post' (.inr C) (A.1, A.2.1 + 1, A.2.2 + 6)) → mj_G y' cc' nL' rt' hh' d none 0 (lv_args 0 (.ref b :: As)) [] A post')
    (kr : P → mj_G y cc nL rt hh (d + 1) sc (pc + 3) ls st A post) (kt : ¬ P → post (.inr C) (A.1, A.2.1 + 1, A.2.2 + 6)) : mj_G y cc nL rt hh (d + 1) sc pc ls (As.reverse ++ .ref b :: st) A post := by
  obtain ⟨fs, hb⟩ := hb
  refine G_callv (post' := fun out A' => (out = .inl none ∧ A' = A ∧ P) ∨ (out = .inr C ∧ A' = (A.1, A.2.1 + 1, A.2.2 + 6) ∧ ¬ P)) hd hcv hcw hb hn1 hsl hw (hG _ (fun p => Or.inl ⟨rfl, rfl, p⟩) (fun p => Or.inr ⟨rfl, rfl, p⟩)) (fun out A' h => ?_) (fun v A' h => ?_) (fun C' A' h => ?_)
  · rcases h with ⟨-, rfl, -⟩ | ⟨-, rfl, -⟩ <;> rfl
  · rcases h with ⟨h1, rfl, p⟩ | ⟨h1, -⟩
    · cases h1; exact kr p
    · cases h1
  · rcases h with ⟨h1, -⟩ | ⟨h1, rfl, p⟩
    · cases h1
    · cases h1; exact ⟨hnh, kt p⟩
theorem th_cl0 : Cond.classLink "ClauseGlass" 54 (mj_ex 0) ∈ tw_tbl := tin_2 (List.mem_of_getElem? (i := 105) rfl) rfl
theorem th_in0 : Cond.instantiable (mj_ex 0) 6 ∈ tw_tbl := tin_2 (List.mem_of_getElem? (i := 106) rfl) rfl
theorem th_ini0 : Cond.initialized (mj_ex 0) ∈ tw_tbl := tin_1 (List.mem_of_getElem? (i := 10) rfl) rfl
theorem th_ft0 : Bundle.fit (mj_ex 0) = true := by decide +kernel
theorem th_cl1 : Cond.classLink "ClauseGlass" 39 (mj_ex 1) ∈ tw_tbl := tin_2 (List.mem_of_getElem? (i := 18) rfl) rfl
theorem th_in1 : Cond.instantiable (mj_ex 1) 6 ∈ tw_tbl := tin_2 (List.mem_of_getElem? (i := 19) rfl) rfl
theorem th_ini1 : Cond.initialized (mj_ex 1) ∈ tw_tbl := tin_1 (List.mem_of_getElem? (i := 9) rfl) rfl
theorem th_ft1 : Bundle.fit (mj_ex 1) = true := by decide +kernel
theorem th_s41 : Cond.stringRef "ClauseGlass" 41 "too many sorts" ∈ tw_tbl := tin_2 (List.mem_of_getElem? (i := 58) rfl) rfl
theorem th_s165 : Cond.stringRef "ClauseGlass" 165 "no such sort" ∈ tw_tbl := tin_2 (List.mem_of_getElem? (i := 114) rfl) rfl
theorem th_s56 : Cond.stringRef "ClauseGlass" 56 "the ints have no cons" ∈ tw_tbl := tin_2 (List.mem_of_getElem? (i := 121) rfl) rfl
theorem th_s59 : Cond.stringRef "ClauseGlass" 59 "no such number of parts" ∈ tw_tbl := tin_2 (List.mem_of_getElem? (i := 122) rfl) rfl
theorem th_s64 : Cond.stringRef "ClauseGlass" 64 "too many cons" ∈ tw_tbl := tin_2 (List.mem_of_getElem? (i := 123) rfl) rfl
theorem th_s179 : Cond.stringRef "ClauseGlass" 179 "too many patterns" ∈ tw_tbl := tin_2 (List.mem_of_getElem? (i := 157) rfl) rfl
theorem th_s181 : Cond.stringRef "ClauseGlass" 181 "too much in a pattern" ∈ tw_tbl := tin_2 (List.mem_of_getElem? (i := 158) rfl) rfl
theorem th_s84 : Cond.stringRef "ClauseGlass" 84 "no such con" ∈ tw_tbl := tin_2 (List.mem_of_getElem? (i := 189) rfl) rfl
theorem th_s170 : Cond.stringRef "ClauseGlass" 170 "no such pattern" ∈ tw_tbl := tin_2 (List.mem_of_getElem? (i := 203) rfl) rfl
theorem th_s177 : Cond.stringRef "ClauseGlass" 177 "a pattern of another sort" ∈ tw_tbl := tin_2 (List.mem_of_getElem? (i := 204) rfl) rfl
theorem th_s117 : Cond.stringRef "ClauseGlass" 117 "too many clauses" ∈ tw_tbl := tin_2 (List.mem_of_getElem? (i := 224) rfl) rfl
theorem th_s121 : Cond.stringRef "ClauseGlass" 121 "too much in the clauses" ∈ tw_tbl := tin_2 (List.mem_of_getElem? (i := 225) rfl) rfl
theorem th_s129 : Cond.stringRef "ClauseGlass" 129 "no such clause" ∈ tw_tbl := tin_3 (List.mem_of_getElem? (i := 11) rfl) rfl
set_option maxHeartbeats 600000 in
set_option maxRecDepth 100000 in
theorem c_C_needSort {K : KC} {M : MC} {o : Nat → Int64} {nc ns : Nat} {d : Nat} (x : Int32) (hr1 : nc + 1 ≤ 601024) (hr2 : ns + 6 ≤ 7293034) {post : mj_O → mj_H → Prop} (k : 0 ≤ x ∧ x < K.1 0 → post (.inl none) (hp K M o, nc, ns)) (t : ¬ (0 ≤ x ∧ x < K.1 0) → post (.inr 0) (hp K M o, nc + 1, ns + 6)) : mj_G y_C_needSort b_C_needSort 2 none [] (d + 6) none 0 [(0, .ref 0), (1, .int x)] [] (hp K M o, nc, ns) post := by
  refine G_aload_n 0 d_C_needSort_0 rfl ?_
  refine G_gt d_C_needSort_1 fr_C_10 (rd_C_sorts K M o) ?_
  refine G_iload_n 1 d_C_needSort_4 rfl ?_
  refine G_cvB (0 ≤ x ∧ x < K.1 0) (As := [.int x]) d_C_needSort_5 cv_C_162 cw_S_hasSort (ob_S K M o) np_S_hasSort (Nat.le_of_ble_eq_true rfl) (Nat.le_of_ble_eq_true rfl) (fun post2 k1 k0 => c_S_hasSort x k1 k0) (fun u5 => ?_) (fun u5 => ?_)
  · refine G_ifne 21 d_C_needSort_8 (by decide) (fun _ => ?_) (fun h => absurd h (by decide))
    exact G_ret d_C_needSort_21 rfl (k u5)
  · refine G_ifne 21 d_C_needSort_8 (by decide) (fun h => absurd h (by decide)) (fun _ => ?_)
    exact G_throw (tx := "no such sort") 0 d_C_needSort_11 d_C_needSort_14 d_C_needSort_15 d_C_needSort_17 d_C_needSort_20 th_cl0 th_in0 th_ini0 th_s165 mj_tw0 th_ft0 rfl (by omega) (by omega) (by omega) (Nat.le_of_ble_eq_true rfl) (t u5)
set_option maxHeartbeats 600000 in
set_option maxRecDepth 100000 in
theorem c_C_needPattern {K : KC} {M : MC} {o : Nat → Int64} {nc ns : Nat} {d : Nat} (x : Int32) (hr1 : nc + 1 ≤ 601024) (hr2 : ns + 6 ≤ 7293034) {post : mj_O → mj_H → Prop} (k : 0 ≤ x ∧ x < K.1 4 → post (.inl none) (hp K M o, nc, ns)) (t : ¬ (0 ≤ x ∧ x < K.1 4) → post (.inr 0) (hp K M o, nc + 1, ns + 6)) : mj_G y_C_needPattern b_C_needPattern 2 none [] (d + 6) none 0 [(0, .ref 0), (1, .int x)] [] (hp K M o, nc, ns) post := by
  refine G_aload_n 0 d_C_needPattern_0 rfl ?_
  refine G_gt d_C_needPattern_1 fr_C_19 (rd_C_patterns K M o) ?_
  refine G_iload_n 1 d_C_needPattern_4 rfl ?_
  refine G_cvB (0 ≤ x ∧ x < K.1 4) (As := [.int x]) d_C_needPattern_5 cv_C_167 cw_P_hasPattern (ob_P K M o) np_P_hasPattern (Nat.le_of_ble_eq_true rfl) (Nat.le_of_ble_eq_true rfl) (fun post2 k1 k0 => c_P_hasPattern x k1 k0) (fun u5 => ?_) (fun u5 => ?_)
  · refine G_ifne 21 d_C_needPattern_8 (by decide) (fun _ => ?_) (fun h => absurd h (by decide))
    exact G_ret d_C_needPattern_21 rfl (k u5)
  · refine G_ifne 21 d_C_needPattern_8 (by decide) (fun h => absurd h (by decide)) (fun _ => ?_)
    exact G_throw (tx := "no such pattern") 0 d_C_needPattern_11 d_C_needPattern_14 d_C_needPattern_15 d_C_needPattern_17 d_C_needPattern_20 th_cl0 th_in0 th_ini0 th_s170 mj_tw0 th_ft0 rfl (by omega) (by omega) (by omega) (Nat.le_of_ble_eq_true rfl) (t u5)
set_option maxHeartbeats 600000 in
set_option maxRecDepth 100000 in
theorem c_C_needPatternOf {K : KC} {M : MC} {o : Nat → Int64} {nc ns : Nat} {d n : Nat} (x z : Int32) (hn : K.1 4 = nI n) (hn2 : n ≤ 200) (hr1 : nc + 1 ≤ 601024) (hr2 : ns + 6 ≤ 7293034) {post : mj_O → mj_H → Prop} (k : (0 ≤ x ∧ x < K.1 4) ∧ K.2.1 9 x.toNatClampNeg = z → post (.inl none) (hp K M o, nc, ns)) (t : ¬ ((0 ≤ x ∧ x < K.1 4) ∧ K.2.1 9 x.toNatClampNeg = z) → post (.inr 0) (hp K M o, nc + 1, ns + 6)) : mj_G y_C_needPatternOf b_C_needPatternOf 3 none [] (d + 7) none 0 [(0, .ref 0), (1, .int x), (2, .int z)] [] (hp K M o, nc, ns) post := by
  refine G_aload_n 0 d_C_needPatternOf_0 rfl ?_
  refine G_iload_n 1 d_C_needPatternOf_1 rfl ?_
  refine G_cvT (0 ≤ x ∧ x < K.1 4) 0 (As := [.int x]) d_C_needPatternOf_2 cv_C_172 cw_C_needPattern (ob_C K M o) np_C_needPattern (Nat.le_of_ble_eq_true rfl) (Nat.le_of_ble_eq_true rfl) rfl (fun post2 k1 k0 => c_C_needPattern x hr1 hr2 k1 k0) (fun u2 => ?_) (fun u2 => t (fun q => u2 q.1))
  obtain ⟨p, hp1, rfl⟩ := ix_of (n := n) (by omega) (by rw [← hn]; exact u2)
  refine G_aload_n 0 d_C_needPatternOf_5 rfl ?_
  refine G_gt d_C_needPatternOf_6 fr_C_19 (rd_C_patterns K M o) ?_
  refine G_gt d_C_needPatternOf_9 fr_C_175 (rd_P_sort K M o) ?_
  refine G_iload_n 1 d_C_needPatternOf_12 rfl ?_
  refine G_ialN d_C_needPatternOf_13 (ar_9 K M o) (by decide) (by omega) ?_
  refine G_iload_n 2 d_C_needPatternOf_14 rfl ?_
  refine G_iceq 28 d_C_needPatternOf_15 (by decide) (fun h15 => ?_) (fun h15 => ?_)
  · exact G_ret d_C_needPatternOf_28 rfl (k ⟨u2, by rw [nI_clamp (by omega)]; exact h15⟩)
  · exact G_throw (tx := "a pattern of another sort") 0 d_C_needPatternOf_18 d_C_needPatternOf_21 d_C_needPatternOf_22 d_C_needPatternOf_24 d_C_needPatternOf_27 th_cl0 th_in0 th_ini0 th_s177 mj_tw0 th_ft0 rfl (by omega) (by omega) (by omega) (Nat.le_of_ble_eq_true rfl) (t (fun q => h15 (by rw [← q.2, nI_clamp (by omega)])))
set_option maxHeartbeats 600000 in
set_option maxRecDepth 100000 in
theorem c_C_needRoom {K : KC} {M : MC} {o : Nat → Int64} {nc ns : Nat} {d n : Nat} (x : Int32) (hn : K.1 4 = nI n) (hn2 : n ≤ 200) (hr1 : nc + 1 ≤ 601024) (hr2 : ns + 6 ≤ 7293034) {post : mj_O → mj_H → Prop} (k : n ≠ 200 ∧ x ≤ 12 → post (.inl none) (hp K M o, nc, ns)) (t : ¬ (n ≠ 200 ∧ x ≤ 12) → post (.inr 1) (hp K M o, nc + 1, ns + 6)) : mj_G y_C_needRoomForPattern b_C_needRoomForPattern 2 none [] (d + 6) none 0 [(0, .ref 0), (1, .int x)] [] (hp K M o, nc, ns) post := by
  refine G_aload_n 0 d_C_needRoomForPattern_0 rfl ?_
  refine G_gt d_C_needRoomForPattern_1 fr_C_19 (rd_C_patterns K M o) ?_
  refine G_gt d_C_needRoomForPattern_4 fr_C_148 (rd_P_patternCount K M o) ?_
  rw [show K.1 4 = nI n from hn]
  refine G_sipush (v := nI 200) d_C_needRoomForPattern_7 (by decide) ?_
  refine G_iclt 23 d_C_needRoomForPattern_10 (by decide) (fun h10 => ?_) (fun h10 => ?_)
  · have h10 := (nI_ltI (by omega) (by omega)).mp h10
    refine G_iload_n 1 d_C_needRoomForPattern_23 rfl ?_
    refine G_bipush (v := 12) d_C_needRoomForPattern_24 (by decide) ?_
    refine G_icle 39 d_C_needRoomForPattern_26 (by decide) (fun h26 => ?_) (fun h26 => ?_)
    · exact G_ret d_C_needRoomForPattern_39 rfl (k ⟨by omega, h26⟩)
    · exact G_throw (tx := "too much in a pattern") 1 d_C_needRoomForPattern_29 d_C_needRoomForPattern_32 d_C_needRoomForPattern_33 d_C_needRoomForPattern_35 d_C_needRoomForPattern_38 th_cl1 th_in1 th_ini1 th_s181 mj_tw1 th_ft1 rfl (by omega) (by omega) (by omega) (Nat.le_of_ble_eq_true rfl) (t (fun q => h26 q.2))
  · have h10 : ¬ n < 200 := fun q => h10 ((nI_ltI (by omega) (by omega)).mpr q)
    exact G_throw (tx := "too many patterns") 1 d_C_needRoomForPattern_13 d_C_needRoomForPattern_16 d_C_needRoomForPattern_17 d_C_needRoomForPattern_19 d_C_needRoomForPattern_22 th_cl1 th_in1 th_ini1 th_s179 mj_tw1 th_ft1 rfl (by omega) (by omega) (by omega) (Nat.le_of_ble_eq_true rfl) (t (fun q => q.1 (by omega)))
