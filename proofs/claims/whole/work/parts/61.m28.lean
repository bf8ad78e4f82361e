/-! the law's helpers -/
theorem hc_l0 : Cond.classLink "ClauseGlassLaw" 19 (mj_ex 0) ∈ tw_tbl := tin_2 (List.mem_of_getElem? (i := 92) rfl) rfl
theorem hc_l1 : Cond.classLink "ClauseGlassLaw" 13 (mj_ex 1) ∈ tw_tbl := tin_2 (List.mem_of_getElem? (i := 13) rfl) rfl
theorem hc_c0 : Cond.castable (mj_ex 0) (mj_ex 0) ∈ tw_tbl := tin_2 (List.mem_of_getElem? (i := 107) rfl) rfl
theorem hc_c1 : Cond.castable (mj_ex 1) (mj_ex 1) ∈ tw_tbl := tin_2 (List.mem_of_getElem? (i := 20) rfl) rfl
theorem hc_0 {s0 e0 tgt pc : Nat} {rest : List (Nat × Nat × Nat × Nat)} (h1 : s0 ≤ pc) (h2 : pc < e0) : mj_hc "ClauseGlassLaw" ((s0, e0, tgt, 19) :: rest) pc 0 tgt := ⟨[], s0, e0, 19, rest, rfl, ⟨h1, h2⟩, by decide, hc_l0, hc_c0, fun q h => by cases h⟩
theorem hc_1 {s0 e0 tgt pc : Nat} {rest : List (Nat × Nat × Nat × Nat)} (h1 : s0 ≤ pc) (h2 : pc < e0) : mj_hc "ClauseGlassLaw" ((s0, e0, tgt, 13) :: rest) pc 1 tgt := ⟨[], s0, e0, 13, rest, rfl, ⟨h1, h2⟩, by decide, hc_l1, hc_c1, fun q h => by cases h⟩
theorem hc_2 {s0 e0 s1 e1 t1 tgt pc : Nat} {rest : List (Nat × Nat × Nat × Nat)} (h1 : s0 ≤ pc) (h2 : pc < e0) (h3 : s1 ≤ pc) (h4 : pc < e1) : mj_hc "ClauseGlassLaw" ((s1, e1, t1, 19) :: (s0, e0, tgt, 13) :: rest) pc 1 tgt := ⟨[(s1, e1, t1, 19)], s0, e0, 13, rest, rfl, ⟨h1, h2⟩, by decide, hc_l1, hc_c1, fun q h => by
  rw [List.mem_singleton.mp h]
  exact ⟨⟨h3, h4⟩, (show (19 : Nat) ≠ 0 by decide), rfl, hc_l0⟩⟩
theorem G_csp {y : MethodName} {cc : ByteArray} {nL : Nat} {rt : Option FieldType} {hh : List (Nat × Nat × Nat × Nat)} {d : Nat} {sc : Option (Nat × (Nat → Int32))} {pc : Nat} {ls : List (Nat × Value)} {st : List Value} {A : mj_H} {post : mj_O → mj_H → Prop} {y' : MethodName} {cc' : ByteArray} {nL' : Nat} {rt' : Option FieldType} {hh' : List (Nat × Nat × Nat × Nat)} {As : List Value} (Ph : Option Value → mj_H → Prop) {index : Nat} (hd : decode cc pc = .ok (.invokestatic index, 3)) (hcs : mj_cs y.cls index y') (hcw : mj_cw y' cc' nL' rt' hh') (hn1 : (parseMethodDescriptor y'.desc).map (fun d => d.parameters.length) = some As.length) (hsl : (lg_sl As).length ≤ nL') (hw : (st.map fun v => v.category).sum + (nL' + 11) ≤ 41)
    (hG : ∀ post' : mj_O → mj_H → Prop, (∀ v A', Ph v A' → post' (.inl v) A') → mj_G y' cc' nL' rt' hh' d none 0 (lv_args 0 As) [] A post') (hlen : ∀ v A', Ph v A' → A'.1.length = A.1.length)
    (kr : ∀ v A', Ph v A' → mj_G y cc nL rt hh (d + 1) sc (pc + 3) ls (v.toList ++ st) A' post) : mj_G y cc nL rt hh (d + 1) sc pc ls (As.reverse ++ st) A post := by
  refine G_calls (post' := fun out A' => ∃ v, out = .inl v ∧ Ph v A') hd hcs hcw hn1 hsl hw (hG _ (fun v A' h => ⟨v, rfl, h⟩)) (fun out A' h => ?_) (fun v A' h => ?_) (fun C A' h => ?_)
  · obtain ⟨v, -, h⟩ := h; exact hlen v A' h
  · obtain ⟨v2, h1, h⟩ := h
    cases h1
    exact kr v A' h
  · obtain ⟨v2, h1, -⟩ := h; cases h1
set_option maxHeartbeats 600000 in
set_option maxRecDepth 100000 in
theorem c_L_sort {K : KC} {M : MC} {o : Nat → Int64} {nc ns : Nat} {d : Nat} (S : Int32 → KC → Prop) (T : Nat → Prop) (hG : ∀ post' : mj_O → mj_H → Prop, (∀ (v : Int32) (KK : KC), S v KK → post' (.inl (some (.int v))) (hp KK M o, nc, ns)) → (∀ C, T C → post' (.inr C) (hp K M o, nc + 1, ns + 6)) → mj_G y_C_sort b_C_sort 1 (some .int) [] d none 0 [(0, .ref 0)] [] (hp K M o, nc, ns) post') (hT : ∀ C, T C → C = 1) {post : mj_O → mj_H → Prop} (k : ∀ (v : Int32) (KK : KC), S v KK → post (.inl (some (.int 0))) (hp KK M (vp_updL o 0 v.toInt64), nc, ns)) (kt1 : T 1 → post (.inl (some (.int 1))) (hp K M o, nc + 1, ns + 6)) : mj_G y_L_sort b_L_sort 3 (some .int) [(0, 8, 11, 13)] (d + 1) none 0 [(0, .ref 0), (1, .ref 63)] [] (hp K M o, nc, ns) post := by
  obtain ⟨fs, hb⟩ := ob_C K M o
  refine G_aload_n 1 d_L_sort_0 rfl ?_
  refine G_iconst (v := nI 0) d_L_sort_1 (by decide) ?_
  refine G_aload_n 0 d_L_sort_2 rfl ?_
  refine G_callvc (post' := fun out A' => (∃ (v : Int32) (KK : KC), out = .inl (some (.int v)) ∧ A' = (hp KK M o, nc, ns) ∧ S v KK) ∨ (∃ C, out = .inr C ∧ A' = (hp K M o, nc + 1, ns + 6) ∧ T C)) (As := []) d_L_sort_3 cv_L_7 cw_C_sort hb np_C_sort (Nat.le_of_ble_eq_true rfl) (Nat.le_of_ble_eq_true rfl) (hG _ (fun v KK h => Or.inl ⟨v, KK, rfl, rfl, h⟩) (fun C h => Or.inr ⟨C, rfl, rfl, h⟩)) (fun out A' h => by rcases h with ⟨v, KK, -, rfl, -⟩ | ⟨C, -, rfl, -⟩ <;> rfl) (fun v9 A' h => ?_) (fun C A' h => ?_)
  · rcases h with ⟨v, KK, h1, rfl, h⟩ | ⟨C, h1, -⟩
    · cases h1
      refine G_i2l d_L_sort_6 ?_
      refine G_lasN d_L_sort_7 (ar_63 KK M o) (by decide) (by omega) (aw_63 KK M o 0 v.toInt64) ?_
      refine G_goto 14 d_L_sort_8 (by decide) ?_
      refine G_iconst (v := 0) d_L_sort_14 (by decide) ?_
      exact G_iret d_L_sort_15 rfl (k _ _ h)
    · cases h1
  · rcases h with ⟨v, KK, h1, -⟩ | ⟨C2, h1, rfl, h⟩
    · cases h1
    · cases h1
      rcases hT C h with rfl
      exact ⟨11, 2, 1, hc_1 (by decide) (by decide), Or.inl ⟨2, d_L_sort_11, rfl, rfl⟩, by decide, G_iconst (v := 1) d_L_sort_12 (by decide) (G_iret d_L_sort_13 rfl (kt1 h))⟩
set_option maxHeartbeats 600000 in
set_option maxRecDepth 100000 in
theorem c_L_con {K : KC} {M : MC} {o : Nat → Int64} {nc ns : Nat} {d : Nat} (x1 x2 x3 x4 : Int32) (S : Int32 → KC → Prop) (T : Nat → Prop) (hG : ∀ post' : mj_O → mj_H → Prop, (∀ (v : Int32) (KK : KC), S v KK → post' (.inl (some (.int v))) (hp KK M o, nc, ns)) → (∀ C, T C → post' (.inr C) (hp K M o, nc + 1, ns + 6)) → mj_G y_C_con b_C_con 5 (some .int) [] d none 0 [(0, .ref 0), (1, .int x1), (2, .int x2), (3, .int x3), (4, .int x4)] [] (hp K M o, nc, ns) post') (hT : ∀ C, T C → C = 0 ∨ C = 1) {post : mj_O → mj_H → Prop} (k : ∀ (v : Int32) (KK : KC), S v KK → post (.inl (some (.int 0))) (hp KK M (vp_updL o 0 v.toInt64), nc, ns)) (kt0 : T 0 → post (.inl (some (.int 1))) (hp K M o, nc + 1, ns + 6)) (kt1 : T 1 → post (.inl (some (.int 2))) (hp K M o, nc + 1, ns + 6)) : mj_G y_L_con b_L_con 7 (some .int) [(0, 14, 17, 19), (0, 14, 21, 13)] (d + 1) none 0 [(0, .ref 0), (1, .int x1), (2, .int x2), (3, .int x3), (4, .int x4), (5, .ref 63)] [] (hp K M o, nc, ns) post := by
  obtain ⟨fs, hb⟩ := ob_C K M o
  refine G_aload 5 d_L_con_0 rfl ?_
  refine G_iconst (v := nI 0) d_L_con_2 (by decide) ?_
  refine G_aload_n 0 d_L_con_3 rfl ?_
  refine G_iload_n 1 d_L_con_4 rfl ?_
  refine G_iload_n 2 d_L_con_5 rfl ?_
  refine G_iload_n 3 d_L_con_6 rfl ?_
  refine G_iload 4 d_L_con_7 rfl ?_
  refine G_callvc (post' := fun out A' => (∃ (v : Int32) (KK : KC), out = .inl (some (.int v)) ∧ A' = (hp KK M o, nc, ns) ∧ S v KK) ∨ (∃ C, out = .inr C ∧ A' = (hp K M o, nc + 1, ns + 6) ∧ T C)) (As := [.int x1, .int x2, .int x3, .int x4]) d_L_con_9 cv_L_15 cw_C_con hb np_C_con (Nat.le_of_ble_eq_true rfl) (Nat.le_of_ble_eq_true rfl) (hG _ (fun v KK h => Or.inl ⟨v, KK, rfl, rfl, h⟩) (fun C h => Or.inr ⟨C, rfl, rfl, h⟩)) (fun out A' h => by rcases h with ⟨v, KK, -, rfl, -⟩ | ⟨C, -, rfl, -⟩ <;> rfl) (fun v9 A' h => ?_) (fun C A' h => ?_)
  · rcases h with ⟨v, KK, h1, rfl, h⟩ | ⟨C, h1, -⟩
    · cases h1
      refine G_i2l d_L_con_12 ?_
      refine G_lasN d_L_con_13 (ar_63 KK M o) (by decide) (by omega) (aw_63 KK M o 0 v.toInt64) ?_
      refine G_goto 25 d_L_con_14 (by decide) ?_
      refine G_iconst (v := 0) d_L_con_25 (by decide) ?_
      exact G_iret d_L_con_26 rfl (k _ _ h)
    · cases h1
  · rcases h with ⟨v, KK, h1, -⟩ | ⟨C2, h1, rfl, h⟩
    · cases h1
    · cases h1
      rcases hT C h with rfl | rfl
      · exact ⟨17, 6, 2, hc_0 (by decide) (by decide), Or.inr ⟨d_L_con_17, rfl⟩, by decide, G_iconst (v := 1) d_L_con_19 (by decide) (G_iret d_L_con_20 rfl (kt0 h))⟩
      · exact ⟨21, 6, 2, hc_2 (by decide) (by decide) (by decide) (by decide), Or.inr ⟨d_L_con_21, rfl⟩, by decide, G_iconst (v := 2) d_L_con_23 (by decide) (G_iret d_L_con_24 rfl (kt1 h))⟩
set_option maxHeartbeats 600000 in
set_option maxRecDepth 100000 in
theorem c_L_any {K : KC} {M : MC} {o : Nat → Int64} {nc ns : Nat} {d : Nat} (x1 : Int32) (S : Int32 → KC → Prop) (T : Nat → Prop) (hG : ∀ post' : mj_O → mj_H → Prop, (∀ (v : Int32) (KK : KC), S v KK → post' (.inl (some (.int v))) (hp KK M o, nc, ns)) → (∀ C, T C → post' (.inr C) (hp K M o, nc + 1, ns + 6)) → mj_G y_C_any b_C_any 2 (some .int) [] d none 0 [(0, .ref 0), (1, .int x1)] [] (hp K M o, nc, ns) post') (hT : ∀ C, T C → C = 0 ∨ C = 1) {post : mj_O → mj_H → Prop} (k : ∀ (v : Int32) (KK : KC), S v KK → post (.inl (some (.int 0))) (hp KK M (vp_updL o 0 v.toInt64), nc, ns)) (kt0 : T 0 → post (.inl (some (.int 1))) (hp K M o, nc + 1, ns + 6)) (kt1 : T 1 → post (.inl (some (.int 2))) (hp K M o, nc + 1, ns + 6)) : mj_G y_L_any b_L_any 4 (some .int) [(0, 9, 12, 19), (0, 9, 15, 13)] (d + 1) none 0 [(0, .ref 0), (1, .int x1), (2, .ref 63)] [] (hp K M o, nc, ns) post := by
  obtain ⟨fs, hb⟩ := ob_C K M o
  refine G_aload_n 2 d_L_any_0 rfl ?_
  refine G_iconst (v := nI 0) d_L_any_1 (by decide) ?_
  refine G_aload_n 0 d_L_any_2 rfl ?_
  refine G_iload_n 1 d_L_any_3 rfl ?_
  refine G_callvc (post' := fun out A' => (∃ (v : Int32) (KK : KC), out = .inl (some (.int v)) ∧ A' = (hp KK M o, nc, ns) ∧ S v KK) ∨ (∃ C, out = .inr C ∧ A' = (hp K M o, nc + 1, ns + 6) ∧ T C)) (As := [.int x1]) d_L_any_4 cv_L_21 cw_C_any hb np_C_any (Nat.le_of_ble_eq_true rfl) (Nat.le_of_ble_eq_true rfl) (hG _ (fun v KK h => Or.inl ⟨v, KK, rfl, rfl, h⟩) (fun C h => Or.inr ⟨C, rfl, rfl, h⟩)) (fun out A' h => by rcases h with ⟨v, KK, -, rfl, -⟩ | ⟨C, -, rfl, -⟩ <;> rfl) (fun v9 A' h => ?_) (fun C A' h => ?_)
  · rcases h with ⟨v, KK, h1, rfl, h⟩ | ⟨C, h1, -⟩
    · cases h1
      refine G_i2l d_L_any_7 ?_
      refine G_lasN d_L_any_8 (ar_63 KK M o) (by decide) (by omega) (aw_63 KK M o 0 v.toInt64) ?_
      refine G_goto 18 d_L_any_9 (by decide) ?_
      refine G_iconst (v := 0) d_L_any_18 (by decide) ?_
      exact G_iret d_L_any_19 rfl (k _ _ h)
    · cases h1
  · rcases h with ⟨v, KK, h1, -⟩ | ⟨C2, h1, rfl, h⟩
    · cases h1
    · cases h1
      rcases hT C h with rfl | rfl
      · exact ⟨12, 3, 1, hc_0 (by decide) (by decide), Or.inl ⟨3, d_L_any_12, rfl, rfl⟩, by decide, G_iconst (v := 1) d_L_any_13 (by decide) (G_iret d_L_any_14 rfl (kt0 h))⟩
      · exact ⟨15, 3, 1, hc_2 (by decide) (by decide) (by decide) (by decide), Or.inl ⟨3, d_L_any_15, rfl, rfl⟩, by decide, G_iconst (v := 2) d_L_any_16 (by decide) (G_iret d_L_any_17 rfl (kt1 h))⟩
set_option maxHeartbeats 600000 in
set_option maxRecDepth 100000 in
theorem c_L_number {K : KC} {M : MC} {o : Nat → Int64} {nc ns : Nat} {d : Nat} (x1 : Int32) (S : Int32 → KC → Prop) (T : Nat → Prop) (hG : ∀ post' : mj_O → mj_H → Prop, (∀ (v : Int32) (KK : KC), S v KK → post' (.inl (some (.int v))) (hp KK M o, nc, ns)) → (∀ C, T C → post' (.inr C) (hp K M o, nc + 1, ns + 6)) → mj_G y_C_number b_C_number 2 (some .int) [] d none 0 [(0, .ref 0), (1, .int x1)] [] (hp K M o, nc, ns) post') (hT : ∀ C, T C → C = 1) {post : mj_O → mj_H → Prop} (k : ∀ (v : Int32) (KK : KC), S v KK → post (.inl (some (.int 0))) (hp KK M (vp_updL o 0 v.toInt64), nc, ns)) (kt1 : T 1 → post (.inl (some (.int 1))) (hp K M o, nc + 1, ns + 6)) : mj_G y_L_number b_L_number 4 (some .int) [(0, 9, 12, 13)] (d + 1) none 0 [(0, .ref 0), (1, .int x1), (2, .ref 63)] [] (hp K M o, nc, ns) post := by
  obtain ⟨fs, hb⟩ := ob_C K M o
  refine G_aload_n 2 d_L_number_0 rfl ?_
  refine G_iconst (v := nI 0) d_L_number_1 (by decide) ?_
  refine G_aload_n 0 d_L_number_2 rfl ?_
  refine G_iload_n 1 d_L_number_3 rfl ?_
  refine G_callvc (post' := fun out A' => (∃ (v : Int32) (KK : KC), out = .inl (some (.int v)) ∧ A' = (hp KK M o, nc, ns) ∧ S v KK) ∨ (∃ C, out = .inr C ∧ A' = (hp K M o, nc + 1, ns + 6) ∧ T C)) (As := [.int x1]) d_L_number_4 cv_L_25 cw_C_number hb np_C_number (Nat.le_of_ble_eq_true rfl) (Nat.le_of_ble_eq_true rfl) (hG _ (fun v KK h => Or.inl ⟨v, KK, rfl, rfl, h⟩) (fun C h => Or.inr ⟨C, rfl, rfl, h⟩)) (fun out A' h => by rcases h with ⟨v, KK, -, rfl, -⟩ | ⟨C, -, rfl, -⟩ <;> rfl) (fun v9 A' h => ?_) (fun C A' h => ?_)
  · rcases h with ⟨v, KK, h1, rfl, h⟩ | ⟨C, h1, -⟩
    · cases h1
      refine G_i2l d_L_number_7 ?_
      refine G_lasN d_L_number_8 (ar_63 KK M o) (by decide) (by omega) (aw_63 KK M o 0 v.toInt64) ?_
      refine G_goto 15 d_L_number_9 (by decide) ?_
      refine G_iconst (v := 0) d_L_number_15 (by decide) ?_
      exact G_iret d_L_number_16 rfl (k _ _ h)
    · cases h1
  · rcases h with ⟨v, KK, h1, -⟩ | ⟨C2, h1, rfl, h⟩
    · cases h1
    · cases h1
      rcases hT C h with rfl
      exact ⟨12, 3, 1, hc_1 (by decide) (by decide), Or.inl ⟨3, d_L_number_12, rfl, rfl⟩, by decide, G_iconst (v := 1) d_L_number_13 (by decide) (G_iret d_L_number_14 rfl (kt1 h))⟩
set_option maxHeartbeats 600000 in
set_option maxRecDepth 100000 in
theorem c_L_made {K : KC} {M : MC} {o : Nat → Int64} {nc ns : Nat} {d : Nat} (x1 x2 x3 : Int32) (S : Int32 → KC → Prop) (T : Nat → Prop) (hG : ∀ post' : mj_O → mj_H → Prop, (∀ (v : Int32) (KK : KC), S v KK → post' (.inl (some (.int v))) (hp KK M o, nc, ns)) → (∀ C, T C → post' (.inr C) (hp K M o, nc + 1, ns + 6)) → mj_G y_C_made b_C_made 6 (some .int) [] d none 0 [(0, .ref 0), (1, .int x1), (2, .int x2), (3, .int x3)] [] (hp K M o, nc, ns) post') (hT : ∀ C, T C → C = 0 ∨ C = 1) {post : mj_O → mj_H → Prop} (k : ∀ (v : Int32) (KK : KC), S v KK → post (.inl (some (.int 0))) (hp KK M (vp_updL o 0 v.toInt64), nc, ns)) (kt0 : T 0 → post (.inl (some (.int 1))) (hp K M o, nc + 1, ns + 6)) (kt1 : T 1 → post (.inl (some (.int 2))) (hp K M o, nc + 1, ns + 6)) : mj_G y_L_made b_L_made 6 (some .int) [(0, 12, 15, 19), (0, 12, 19, 13)] (d + 1) none 0 [(0, .ref 0), (1, .int x1), (2, .int x2), (3, .int x3), (4, .ref 63)] [] (hp K M o, nc, ns) post := by
  obtain ⟨fs, hb⟩ := ob_C K M o
  refine G_aload 4 d_L_made_0 rfl ?_
  refine G_iconst (v := nI 0) d_L_made_2 (by decide) ?_
  refine G_aload_n 0 d_L_made_3 rfl ?_
  refine G_iload_n 1 d_L_made_4 rfl ?_
  refine G_iload_n 2 d_L_made_5 rfl ?_
  refine G_iload_n 3 d_L_made_6 rfl ?_
  refine G_callvc (post' := fun out A' => (∃ (v : Int32) (KK : KC), out = .inl (some (.int v)) ∧ A' = (hp KK M o, nc, ns) ∧ S v KK) ∨ (∃ C, out = .inr C ∧ A' = (hp K M o, nc + 1, ns + 6) ∧ T C)) (As := [.int x1, .int x2, .int x3]) d_L_made_7 cv_L_28 cw_C_made hb np_C_made (Nat.le_of_ble_eq_true rfl) (Nat.le_of_ble_eq_true rfl) (hG _ (fun v KK h => Or.inl ⟨v, KK, rfl, rfl, h⟩) (fun C h => Or.inr ⟨C, rfl, rfl, h⟩)) (fun out A' h => by rcases h with ⟨v, KK, -, rfl, -⟩ | ⟨C, -, rfl, -⟩ <;> rfl) (fun v9 A' h => ?_) (fun C A' h => ?_)
  · rcases h with ⟨v, KK, h1, rfl, h⟩ | ⟨C, h1, -⟩
    · cases h1
      refine G_i2l d_L_made_10 ?_
      refine G_lasN d_L_made_11 (ar_63 KK M o) (by decide) (by omega) (aw_63 KK M o 0 v.toInt64) ?_
      refine G_goto 23 d_L_made_12 (by decide) ?_
      refine G_iconst (v := 0) d_L_made_23 (by decide) ?_
      exact G_iret d_L_made_24 rfl (k _ _ h)
    · cases h1
  · rcases h with ⟨v, KK, h1, -⟩ | ⟨C2, h1, rfl, h⟩
    · cases h1
    · cases h1
      rcases hT C h with rfl | rfl
      · exact ⟨15, 5, 2, hc_0 (by decide) (by decide), Or.inr ⟨d_L_made_15, rfl⟩, by decide, G_iconst (v := 1) d_L_made_17 (by decide) (G_iret d_L_made_18 rfl (kt0 h))⟩
      · exact ⟨19, 5, 2, hc_2 (by decide) (by decide) (by decide) (by decide), Or.inr ⟨d_L_made_19, rfl⟩, by decide, G_iconst (v := 2) d_L_made_21 (by decide) (G_iret d_L_made_22 rfl (kt1 h))⟩
set_option maxHeartbeats 600000 in
set_option maxRecDepth 100000 in
theorem c_L_begin {K : KC} {M : MC} {o : Nat → Int64} {nc ns : Nat} {d : Nat} (x1 : Int32) (S : Int32 → KC → Prop) (T : Nat → Prop) (hG : ∀ post' : mj_O → mj_H → Prop, (∀ (v : Int32) (KK : KC), S v KK → post' (.inl none) (hp KK M o, nc, ns)) → (∀ C, T C → post' (.inr C) (hp K M o, nc + 1, ns + 6)) → mj_G y_C_begin b_C_begin 2 none [] d none 0 [(0, .ref 0), (1, .int x1)] [] (hp K M o, nc, ns) post') (hT : ∀ C, T C → C = 0) {post : mj_O → mj_H → Prop} (k : ∀ (v : Int32) (KK : KC), S v KK → post (.inl (some (.int 0))) (hp KK M o, nc, ns)) (kt0 : T 0 → post (.inl (some (.int 1))) (hp K M o, nc + 1, ns + 6)) : mj_G y_L_begin b_L_begin 3 (some .int) [(0, 5, 8, 19)] (d + 1) none 0 [(0, .ref 0), (1, .int x1)] [] (hp K M o, nc, ns) post := by
  obtain ⟨fs, hb⟩ := ob_C K M o
  refine G_aload_n 0 d_L_begin_0 rfl ?_
  refine G_iload_n 1 d_L_begin_1 rfl ?_
  refine G_callvc (post' := fun out A' => (∃ (v : Int32) (KK : KC), out = .inl none ∧ A' = (hp KK M o, nc, ns) ∧ S v KK) ∨ (∃ C, out = .inr C ∧ A' = (hp K M o, nc + 1, ns + 6) ∧ T C)) (As := [.int x1]) d_L_begin_2 cv_L_32 cw_C_begin hb np_C_begin (Nat.le_of_ble_eq_true rfl) (Nat.le_of_ble_eq_true rfl) (hG _ (fun v KK h => Or.inl ⟨v, KK, rfl, rfl, h⟩) (fun C h => Or.inr ⟨C, rfl, rfl, h⟩)) (fun out A' h => by rcases h with ⟨v, KK, -, rfl, -⟩ | ⟨C, -, rfl, -⟩ <;> rfl) (fun v9 A' h => ?_) (fun C A' h => ?_)
  · rcases h with ⟨v, KK, h1, rfl, h⟩ | ⟨C, h1, -⟩
    · cases h1
      refine G_goto 11 d_L_begin_5 (by decide) ?_
      refine G_iconst (v := 0) d_L_begin_11 (by decide) ?_
      exact G_iret d_L_begin_12 rfl (k _ _ h)
    · cases h1
  · rcases h with ⟨v, KK, h1, -⟩ | ⟨C2, h1, rfl, h⟩
    · cases h1
    · cases h1
      rcases hT C h with rfl
      exact ⟨8, 2, 1, hc_0 (by decide) (by decide), Or.inl ⟨2, d_L_begin_8, rfl, rfl⟩, by decide, G_iconst (v := 1) d_L_begin_9 (by decide) (G_iret d_L_begin_10 rfl (kt0 h))⟩
set_option maxHeartbeats 600000 in
set_option maxRecDepth 100000 in
theorem c_L_clause {K : KC} {M : MC} {o : Nat → Int64} {nc ns : Nat} {d : Nat} (x1 : Int32) (S : Int32 → KC → Prop) (T : Nat → Prop) (hG : ∀ post' : mj_O → mj_H → Prop, (∀ (v : Int32) (KK : KC), S v KK → post' (.inl (some (.int v))) (hp KK M o, nc, ns)) → (∀ C, T C → post' (.inr C) (hp K M o, nc + 1, ns + 6)) → mj_G y_C_clause b_C_clause 2 (some .boolean) [] d none 0 [(0, .ref 0), (1, .int x1)] [] (hp K M o, nc, ns) post') (hT : ∀ C, T C → C = 0 ∨ C = 1) (hz : ∀ (v : Int32) (KK : KC), S v KK → v = 1 ∨ v = 0) {post : mj_O → mj_H → Prop} (k : ∀ (v : Int32) (KK : KC), S v KK → post (.inl (some (.int 0))) (hp KK M (vp_updL o 0 v.toInt64), nc, ns)) (kt0 : T 0 → post (.inl (some (.int 1))) (hp K M o, nc + 1, ns + 6)) (kt1 : T 1 → post (.inl (some (.int 2))) (hp K M o, nc + 1, ns + 6)) : mj_G y_L_clause b_L_clause 4 (some .int) [(0, 16, 19, 19), (0, 16, 22, 13)] (d + 1) none 0 [(0, .ref 0), (1, .int x1), (2, .ref 63)] [] (hp K M o, nc, ns) post := by
  obtain ⟨fs, hb⟩ := ob_C K M o
  refine G_aload_n 2 d_L_clause_0 rfl ?_
  refine G_iconst (v := nI 0) d_L_clause_1 (by decide) ?_
  refine G_aload_n 0 d_L_clause_2 rfl ?_
  refine G_iload_n 1 d_L_clause_3 rfl ?_
  refine G_callvc (post' := fun out A' => (∃ (v : Int32) (KK : KC), out = .inl (some (.int v)) ∧ A' = (hp KK M o, nc, ns) ∧ S v KK) ∨ (∃ C, out = .inr C ∧ A' = (hp K M o, nc + 1, ns + 6) ∧ T C)) (As := [.int x1]) d_L_clause_4 cv_L_36 cw_C_clause hb np_C_clause (Nat.le_of_ble_eq_true rfl) (Nat.le_of_ble_eq_true rfl) (hG _ (fun v KK h => Or.inl ⟨v, KK, rfl, rfl, h⟩) (fun C h => Or.inr ⟨C, rfl, rfl, h⟩)) (fun out A' h => by rcases h with ⟨v, KK, -, rfl, -⟩ | ⟨C, -, rfl, -⟩ <;> rfl) (fun v9 A' h => ?_) (fun C A' h => ?_)
  · rcases h with ⟨v, KK, h1, rfl, h⟩ | ⟨C, h1, -⟩
    · cases h1
      rcases hz v KK h with rfl | rfl
      · refine G_ifeq 14 d_L_clause_7 (by decide) (fun h => absurd h (by decide)) (fun _ => ?_)
        refine G_lconst (v := 1) d_L_clause_10 (by decide) ?_
        refine G_goto 15 d_L_clause_11 (by decide) ?_
        refine G_lasN d_L_clause_15 (ar_63 KK M o) (by decide) (by omega) (aw_63 KK M o 0 1) ?_
        refine G_goto 25 d_L_clause_16 (by decide) ?_
        refine G_iconst (v := 0) d_L_clause_25 (by decide) ?_
        exact G_iret d_L_clause_26 rfl (k _ _ h)
      · refine G_ifeq 14 d_L_clause_7 (by decide) (fun _ => ?_) (fun h => absurd h (by decide))
        refine G_lconst (v := 0) d_L_clause_14 (by decide) ?_
        refine G_lasN d_L_clause_15 (ar_63 KK M o) (by decide) (by omega) (aw_63 KK M o 0 0) ?_
        refine G_goto 25 d_L_clause_16 (by decide) ?_
        refine G_iconst (v := 0) d_L_clause_25 (by decide) ?_
        exact G_iret d_L_clause_26 rfl (k _ _ h)
    · cases h1
  · rcases h with ⟨v, KK, h1, -⟩ | ⟨C2, h1, rfl, h⟩
    · cases h1
    · cases h1
      rcases hT C h with rfl | rfl
      · exact ⟨19, 3, 1, hc_0 (by decide) (by decide), Or.inl ⟨3, d_L_clause_19, rfl, rfl⟩, by decide, G_iconst (v := 1) d_L_clause_20 (by decide) (G_iret d_L_clause_21 rfl (kt0 h))⟩
      · exact ⟨22, 3, 1, hc_2 (by decide) (by decide) (by decide) (by decide), Or.inl ⟨3, d_L_clause_22, rfl, rfl⟩, by decide, G_iconst (v := 2) d_L_clause_23 (by decide) (G_iret d_L_clause_24 rfl (kt1 h))⟩
set_option maxHeartbeats 600000 in
set_option maxRecDepth 100000 in
theorem c_L_takes {K : KC} {M : MC} {o : Nat → Int64} {nc ns : Nat} {d : Nat} (x1 : Int32) (S : Int32 → KC → Prop) (T : Nat → Prop) (hG : ∀ post' : mj_O → mj_H → Prop, (∀ (v : Int32) (KK : KC), S v KK → post' (.inl (some (.int v))) (hp KK M o, nc, ns)) → (∀ C, T C → post' (.inr C) (hp K M o, nc + 1, ns + 6)) → mj_G y_C_takes b_C_takes 2 (some .boolean) [] d none 0 [(0, .ref 0), (1, .int x1)] [] (hp K M o, nc, ns) post') (hT : ∀ C, T C → C = 0) (hz : ∀ (v : Int32) (KK : KC), S v KK → v = 1 ∨ v = 0) {post : mj_O → mj_H → Prop} (k : ∀ (v : Int32) (KK : KC), S v KK → post (.inl (some (.int 0))) (hp KK M (vp_updL o 0 v.toInt64), nc, ns)) (kt0 : T 0 → post (.inl (some (.int 1))) (hp K M o, nc + 1, ns + 6)) : mj_G y_L_takes b_L_takes 4 (some .int) [(0, 16, 19, 19)] (d + 1) none 0 [(0, .ref 0), (1, .int x1), (2, .ref 63)] [] (hp K M o, nc, ns) post := by
  obtain ⟨fs, hb⟩ := ob_C K M o
  refine G_aload_n 2 d_L_takes_0 rfl ?_
  refine G_iconst (v := nI 0) d_L_takes_1 (by decide) ?_
  refine G_aload_n 0 d_L_takes_2 rfl ?_
  refine G_iload_n 1 d_L_takes_3 rfl ?_
  refine G_callvc (post' := fun out A' => (∃ (v : Int32) (KK : KC), out = .inl (some (.int v)) ∧ A' = (hp KK M o, nc, ns) ∧ S v KK) ∨ (∃ C, out = .inr C ∧ A' = (hp K M o, nc + 1, ns + 6) ∧ T C)) (As := [.int x1]) d_L_takes_4 cv_L_40 cw_C_takes hb np_C_takes (Nat.le_of_ble_eq_true rfl) (Nat.le_of_ble_eq_true rfl) (hG _ (fun v KK h => Or.inl ⟨v, KK, rfl, rfl, h⟩) (fun C h => Or.inr ⟨C, rfl, rfl, h⟩)) (fun out A' h => by rcases h with ⟨v, KK, -, rfl, -⟩ | ⟨C, -, rfl, -⟩ <;> rfl) (fun v9 A' h => ?_) (fun C A' h => ?_)
  · rcases h with ⟨v, KK, h1, rfl, h⟩ | ⟨C, h1, -⟩
    · cases h1
      rcases hz v KK h with rfl | rfl
      · refine G_ifeq 14 d_L_takes_7 (by decide) (fun h => absurd h (by decide)) (fun _ => ?_)
        refine G_lconst (v := 1) d_L_takes_10 (by decide) ?_
        refine G_goto 15 d_L_takes_11 (by decide) ?_
        refine G_lasN d_L_takes_15 (ar_63 KK M o) (by decide) (by omega) (aw_63 KK M o 0 1) ?_
        refine G_goto 22 d_L_takes_16 (by decide) ?_
        refine G_iconst (v := 0) d_L_takes_22 (by decide) ?_
        exact G_iret d_L_takes_23 rfl (k _ _ h)
      · refine G_ifeq 14 d_L_takes_7 (by decide) (fun _ => ?_) (fun h => absurd h (by decide))
        refine G_lconst (v := 0) d_L_takes_14 (by decide) ?_
        refine G_lasN d_L_takes_15 (ar_63 KK M o) (by decide) (by omega) (aw_63 KK M o 0 0) ?_
        refine G_goto 22 d_L_takes_16 (by decide) ?_
        refine G_iconst (v := 0) d_L_takes_22 (by decide) ?_
        exact G_iret d_L_takes_23 rfl (k _ _ h)
    · cases h1
  · rcases h with ⟨v, KK, h1, -⟩ | ⟨C2, h1, rfl, h⟩
    · cases h1
    · cases h1
      rcases hT C h with rfl
      exact ⟨19, 3, 1, hc_0 (by decide) (by decide), Or.inl ⟨3, d_L_takes_19, rfl, rfl⟩, by decide, G_iconst (v := 1) d_L_takes_20 (by decide) (G_iret d_L_takes_21 rfl (kt0 h))⟩
set_option maxHeartbeats 600000 in
set_option maxRecDepth 100000 in
theorem c_L_covers {K : KC} {M : MC} {o : Nat → Int64} {nc ns : Nat} {d : Nat} (x1 x2 : Int32) (S : Int32 → KC → Prop) (T : Nat → Prop) (hG : ∀ post' : mj_O → mj_H → Prop, (∀ (v : Int32) (KK : KC), S v KK → post' (.inl (some (.int v))) (hp KK M o, nc, ns)) → (∀ C, T C → post' (.inr C) (hp K M o, nc + 1, ns + 6)) → mj_G y_C_covers b_C_covers 3 (some .boolean) [] d none 0 [(0, .ref 0), (1, .int x1), (2, .int x2)] [] (hp K M o, nc, ns) post') (hT : ∀ C, T C → C = 0) (hz : ∀ (v : Int32) (KK : KC), S v KK → v = 1 ∨ v = 0) {post : mj_O → mj_H → Prop} (k : ∀ (v : Int32) (KK : KC), S v KK → post (.inl (some (.int 0))) (hp KK M (vp_updL o 0 v.toInt64), nc, ns)) (kt0 : T 0 → post (.inl (some (.int 1))) (hp K M o, nc + 1, ns + 6)) : mj_G y_L_covers b_L_covers 5 (some .int) [(0, 17, 20, 19)] (d + 1) none 0 [(0, .ref 0), (1, .int x1), (2, .int x2), (3, .ref 63)] [] (hp K M o, nc, ns) post := by
  obtain ⟨fs, hb⟩ := ob_C K M o
  refine G_aload_n 3 d_L_covers_0 rfl ?_
  refine G_iconst (v := nI 0) d_L_covers_1 (by decide) ?_
  refine G_aload_n 0 d_L_covers_2 rfl ?_
  refine G_iload_n 1 d_L_covers_3 rfl ?_
  refine G_iload_n 2 d_L_covers_4 rfl ?_
  refine G_callvc (post' := fun out A' => (∃ (v : Int32) (KK : KC), out = .inl (some (.int v)) ∧ A' = (hp KK M o, nc, ns) ∧ S v KK) ∨ (∃ C, out = .inr C ∧ A' = (hp K M o, nc + 1, ns + 6) ∧ T C)) (As := [.int x1, .int x2]) d_L_covers_5 cv_L_43 cw_C_covers hb np_C_covers (Nat.le_of_ble_eq_true rfl) (Nat.le_of_ble_eq_true rfl) (hG _ (fun v KK h => Or.inl ⟨v, KK, rfl, rfl, h⟩) (fun C h => Or.inr ⟨C, rfl, rfl, h⟩)) (fun out A' h => by rcases h with ⟨v, KK, -, rfl, -⟩ | ⟨C, -, rfl, -⟩ <;> rfl) (fun v9 A' h => ?_) (fun C A' h => ?_)
  · rcases h with ⟨v, KK, h1, rfl, h⟩ | ⟨C, h1, -⟩
    · cases h1
      rcases hz v KK h with rfl | rfl
      · refine G_ifeq 15 d_L_covers_8 (by decide) (fun h => absurd h (by decide)) (fun _ => ?_)
        refine G_lconst (v := 1) d_L_covers_11 (by decide) ?_
        refine G_goto 16 d_L_covers_12 (by decide) ?_
        refine G_lasN d_L_covers_16 (ar_63 KK M o) (by decide) (by omega) (aw_63 KK M o 0 1) ?_
        refine G_goto 24 d_L_covers_17 (by decide) ?_
        refine G_iconst (v := 0) d_L_covers_24 (by decide) ?_
        exact G_iret d_L_covers_25 rfl (k _ _ h)
      · refine G_ifeq 15 d_L_covers_8 (by decide) (fun _ => ?_) (fun h => absurd h (by decide))
        refine G_lconst (v := 0) d_L_covers_15 (by decide) ?_
        refine G_lasN d_L_covers_16 (ar_63 KK M o) (by decide) (by omega) (aw_63 KK M o 0 0) ?_
        refine G_goto 24 d_L_covers_17 (by decide) ?_
        refine G_iconst (v := 0) d_L_covers_24 (by decide) ?_
        exact G_iret d_L_covers_25 rfl (k _ _ h)
    · cases h1
  · rcases h with ⟨v, KK, h1, -⟩ | ⟨C2, h1, rfl, h⟩
    · cases h1
    · cases h1
      rcases hT C h with rfl
      exact ⟨20, 4, 2, hc_0 (by decide) (by decide), Or.inr ⟨d_L_covers_20, rfl⟩, by decide, G_iconst (v := 1) d_L_covers_22 (by decide) (G_iret d_L_covers_23 rfl (kt0 h))⟩
set_option maxHeartbeats 600000 in
set_option maxRecDepth 100000 in
theorem c_L_meets {K : KC} {M : MC} {o : Nat → Int64} {nc ns : Nat} {d : Nat} (x1 x2 : Int32) (S : Int32 → KC → Prop) (T : Nat → Prop) (hG : ∀ post' : mj_O → mj_H → Prop, (∀ (v : Int32) (KK : KC), S v KK → post' (.inl (some (.int v))) (hp KK M o, nc, ns)) → (∀ C, T C → post' (.inr C) (hp K M o, nc + 1, ns + 6)) → mj_G y_C_meets b_C_meets 3 (some .boolean) [] d none 0 [(0, .ref 0), (1, .int x1), (2, .int x2)] [] (hp K M o, nc, ns) post') (hT : ∀ C, T C → C = 0) (hz : ∀ (v : Int32) (KK : KC), S v KK → v = 1 ∨ v = 0) {post : mj_O → mj_H → Prop} (k : ∀ (v : Int32) (KK : KC), S v KK → post (.inl (some (.int 0))) (hp KK M (vp_updL o 0 v.toInt64), nc, ns)) (kt0 : T 0 → post (.inl (some (.int 1))) (hp K M o, nc + 1, ns + 6)) : mj_G y_L_meets b_L_meets 5 (some .int) [(0, 17, 20, 19)] (d + 1) none 0 [(0, .ref 0), (1, .int x1), (2, .int x2), (3, .ref 63)] [] (hp K M o, nc, ns) post := by
  obtain ⟨fs, hb⟩ := ob_C K M o
  refine G_aload_n 3 d_L_meets_0 rfl ?_
  refine G_iconst (v := nI 0) d_L_meets_1 (by decide) ?_
  refine G_aload_n 0 d_L_meets_2 rfl ?_
  refine G_iload_n 1 d_L_meets_3 rfl ?_
  refine G_iload_n 2 d_L_meets_4 rfl ?_
  refine G_callvc (post' := fun out A' => (∃ (v : Int32) (KK : KC), out = .inl (some (.int v)) ∧ A' = (hp KK M o, nc, ns) ∧ S v KK) ∨ (∃ C, out = .inr C ∧ A' = (hp K M o, nc + 1, ns + 6) ∧ T C)) (As := [.int x1, .int x2]) d_L_meets_5 cv_L_47 cw_C_meets hb np_C_meets (Nat.le_of_ble_eq_true rfl) (Nat.le_of_ble_eq_true rfl) (hG _ (fun v KK h => Or.inl ⟨v, KK, rfl, rfl, h⟩) (fun C h => Or.inr ⟨C, rfl, rfl, h⟩)) (fun out A' h => by rcases h with ⟨v, KK, -, rfl, -⟩ | ⟨C, -, rfl, -⟩ <;> rfl) (fun v9 A' h => ?_) (fun C A' h => ?_)
  · rcases h with ⟨v, KK, h1, rfl, h⟩ | ⟨C, h1, -⟩
    · cases h1
      rcases hz v KK h with rfl | rfl
      · refine G_ifeq 15 d_L_meets_8 (by decide) (fun h => absurd h (by decide)) (fun _ => ?_)
        refine G_lconst (v := 1) d_L_meets_11 (by decide) ?_
        refine G_goto 16 d_L_meets_12 (by decide) ?_
        refine G_lasN d_L_meets_16 (ar_63 KK M o) (by decide) (by omega) (aw_63 KK M o 0 1) ?_
        refine G_goto 24 d_L_meets_17 (by decide) ?_
        refine G_iconst (v := 0) d_L_meets_24 (by decide) ?_
        exact G_iret d_L_meets_25 rfl (k _ _ h)
      · refine G_ifeq 15 d_L_meets_8 (by decide) (fun _ => ?_) (fun h => absurd h (by decide))
        refine G_lconst (v := 0) d_L_meets_15 (by decide) ?_
        refine G_lasN d_L_meets_16 (ar_63 KK M o) (by decide) (by omega) (aw_63 KK M o 0 0) ?_
        refine G_goto 24 d_L_meets_17 (by decide) ?_
        refine G_iconst (v := 0) d_L_meets_24 (by decide) ?_
        exact G_iret d_L_meets_25 rfl (k _ _ h)
    · cases h1
  · rcases h with ⟨v, KK, h1, -⟩ | ⟨C2, h1, rfl, h⟩
    · cases h1
    · cases h1
      rcases hT C h with rfl
      exact ⟨20, 4, 2, hc_0 (by decide) (by decide), Or.inr ⟨d_L_meets_20, rfl⟩, by decide, G_iconst (v := 1) d_L_meets_22 (by decide) (G_iret d_L_meets_23 rfl (kt0 h))⟩
set_option maxHeartbeats 600000 in
set_option maxRecDepth 100000 in
theorem c_L_lives {K : KC} {M : MC} {o : Nat → Int64} {nc ns : Nat} {d : Nat} (x1 : Int32) (S : Int32 → KC → Prop) (T : Nat → Prop) (hG : ∀ post' : mj_O → mj_H → Prop, (∀ (v : Int32) (KK : KC), S v KK → post' (.inl (some (.int v))) (hp KK M o, nc, ns)) → (∀ C, T C → post' (.inr C) (hp K M o, nc + 1, ns + 6)) → mj_G y_C_lives b_C_lives 2 (some .boolean) [] d none 0 [(0, .ref 0), (1, .int x1)] [] (hp K M o, nc, ns) post') (hT : ∀ C, T C → C = 0) (hz : ∀ (v : Int32) (KK : KC), S v KK → v = 1 ∨ v = 0) {post : mj_O → mj_H → Prop} (k : ∀ (v : Int32) (KK : KC), S v KK → post (.inl (some (.int 0))) (hp KK M (vp_updL o 0 v.toInt64), nc, ns)) (kt0 : T 0 → post (.inl (some (.int 1))) (hp K M o, nc + 1, ns + 6)) : mj_G y_L_lives b_L_lives 4 (some .int) [(0, 16, 19, 19)] (d + 1) none 0 [(0, .ref 0), (1, .int x1), (2, .ref 63)] [] (hp K M o, nc, ns) post := by
  obtain ⟨fs, hb⟩ := ob_C K M o
  refine G_aload_n 2 d_L_lives_0 rfl ?_
  refine G_iconst (v := nI 0) d_L_lives_1 (by decide) ?_
  refine G_aload_n 0 d_L_lives_2 rfl ?_
  refine G_iload_n 1 d_L_lives_3 rfl ?_
  refine G_callvc (post' := fun out A' => (∃ (v : Int32) (KK : KC), out = .inl (some (.int v)) ∧ A' = (hp KK M o, nc, ns) ∧ S v KK) ∨ (∃ C, out = .inr C ∧ A' = (hp K M o, nc + 1, ns + 6) ∧ T C)) (As := [.int x1]) d_L_lives_4 cv_L_50 cw_C_lives hb np_C_lives (Nat.le_of_ble_eq_true rfl) (Nat.le_of_ble_eq_true rfl) (hG _ (fun v KK h => Or.inl ⟨v, KK, rfl, rfl, h⟩) (fun C h => Or.inr ⟨C, rfl, rfl, h⟩)) (fun out A' h => by rcases h with ⟨v, KK, -, rfl, -⟩ | ⟨C, -, rfl, -⟩ <;> rfl) (fun v9 A' h => ?_) (fun C A' h => ?_)
  · rcases h with ⟨v, KK, h1, rfl, h⟩ | ⟨C, h1, -⟩
    · cases h1
      rcases hz v KK h with rfl | rfl
      · refine G_ifeq 14 d_L_lives_7 (by decide) (fun h => absurd h (by decide)) (fun _ => ?_)
        refine G_lconst (v := 1) d_L_lives_10 (by decide) ?_
        refine G_goto 15 d_L_lives_11 (by decide) ?_
        refine G_lasN d_L_lives_15 (ar_63 KK M o) (by decide) (by omega) (aw_63 KK M o 0 1) ?_
        refine G_goto 22 d_L_lives_16 (by decide) ?_
        refine G_iconst (v := 0) d_L_lives_22 (by decide) ?_
        exact G_iret d_L_lives_23 rfl (k _ _ h)
      · refine G_ifeq 14 d_L_lives_7 (by decide) (fun _ => ?_) (fun h => absurd h (by decide))
        refine G_lconst (v := 0) d_L_lives_14 (by decide) ?_
        refine G_lasN d_L_lives_15 (ar_63 KK M o) (by decide) (by omega) (aw_63 KK M o 0 0) ?_
        refine G_goto 22 d_L_lives_16 (by decide) ?_
        refine G_iconst (v := 0) d_L_lives_22 (by decide) ?_
        exact G_iret d_L_lives_23 rfl (k _ _ h)
    · cases h1
  · rcases h with ⟨v, KK, h1, -⟩ | ⟨C2, h1, rfl, h⟩
    · cases h1
    · cases h1
      rcases hT C h with rfl
      exact ⟨19, 3, 1, hc_0 (by decide) (by decide), Or.inl ⟨3, d_L_lives_19, rfl, rfl⟩, by decide, G_iconst (v := 1) d_L_lives_20 (by decide) (G_iret d_L_lives_21 rfl (kt0 h))⟩
