/-! the class's Patterns -/
def rP (K : KC) (R : MC) : Prop := K.1 4 = R.1 3 ∧ ∀ p, p < mP R → K.2.1 8 p = R.2 43 p ∧ K.2.1 9 p = R.2 44 p ∧ K.2.1 10 p = R.2 45 p ∧ K.2.1 13 p = R.2 48 p ∧ (pk R p = 2 → K.2.1 11 p = R.2 46 p ∧ K.2.1 12 p = R.2 47 p)
def patK (K : KC) (n : Nat) (x1 x2 x3 x4 : Int32) : KC := ki (ka (ka (ka (ka K 8 n x1) 9 n x2) 10 n x3) 13 n x4) 4 (nI (n + 1))
set_option maxHeartbeats 600000 in
set_option maxRecDepth 100000 in
theorem c_P_hasPattern {K : KC} {M : MC} {o : Nat → Int64} {nc ns : Nat} {d : Nat} (x : Int32) {post : mj_O → mj_H → Prop} (k1 : 0 ≤ x ∧ x < K.1 4 → post (.inl (some (.int 1))) (hp K M o, nc, ns)) (k0 : ¬ (0 ≤ x ∧ x < K.1 4) → post (.inl (some (.int 0))) (hp K M o, nc, ns)) : mj_G y_P_hasPattern b_P_hasPattern 2 (some .boolean) [] d none 0 [(0, .ref 7), (1, .int x)] [] (hp K M o, nc, ns) post := by
  refine G_iload_n 1 d_P_hasPattern_0 rfl ?_
  refine G_iflt 16 d_P_hasPattern_1 (by decide) (fun h1 => ?_) (fun h1 => ?_)
  · refine G_iconst (v := 0) d_P_hasPattern_16 (by decide) ?_
    exact G_zret d_P_hasPattern_17 rfl rfl (k0 (fun z => (Int32.not_lt.mpr z.1) h1))
  · refine G_iload_n 1 d_P_hasPattern_4 rfl ?_
    refine G_aload_n 0 d_P_hasPattern_5 rfl ?_
    refine G_gt d_P_hasPattern_6 fr_P_9 (rd_P_patternCount K M o) ?_
    refine G_icge 16 d_P_hasPattern_9 (by decide) (fun h9 => ?_) (fun h9 => ?_)
    · refine G_iconst (v := 0) d_P_hasPattern_16 (by decide) ?_
      exact G_zret d_P_hasPattern_17 rfl rfl (k0 (fun z => (Int32.not_le.mpr z.2) h9))
    · refine G_iconst (v := 1) d_P_hasPattern_12 (by decide) ?_
      refine G_goto 17 d_P_hasPattern_13 (by decide) ?_
      exact G_zret d_P_hasPattern_17 rfl rfl (k1 ⟨Int32.not_lt.mp h1, Int32.not_le.mp h9⟩)
set_option maxHeartbeats 600000 in
set_option maxRecDepth 100000 in
theorem c_P_partOf0 {K : KC} {M : MC} {o : Nat → Int64} {nc ns : Nat} {d c : Nat} {v : Int32} (hc : c < 200) (h : K.2.1 11 c = v) {post : mj_O → mj_H → Prop} (k : post (.inl (some (.int v))) (hp K M o, nc, ns)) : mj_G y_P_partOf b_P_partOf 3 (some .int) [] d none 0 [(0, .ref 7), (1, .int (nI c)), (2, .int (nI 0))] [] (hp K M o, nc, ns) post := by
  refine G_iload_n 2 d_P_partOf_0 rfl ?_
  refine G_ifne 13 d_P_partOf_1 (by decide) (fun h => absurd h (by decide)) (fun _ => ?_)
  refine G_aload_n 0 d_P_partOf_4 rfl ?_
  refine G_gt d_P_partOf_5 fr_P_25 (rd_P_first K M o) ?_
  refine G_iload_n 1 d_P_partOf_8 rfl ?_
  refine G_ialN d_P_partOf_9 (ar_11 K M o) (by decide) (by omega) ?_
  rw [h]
  refine G_goto 19 d_P_partOf_10 (by decide) ?_
  exact G_iret d_P_partOf_19 rfl k
set_option maxHeartbeats 600000 in
set_option maxRecDepth 100000 in
theorem c_P_partOf1 {K : KC} {M : MC} {o : Nat → Int64} {nc ns : Nat} {d c : Nat} {v : Int32} (hc : c < 200) (h : K.2.1 12 c = v) {post : mj_O → mj_H → Prop} (k : post (.inl (some (.int v))) (hp K M o, nc, ns)) : mj_G y_P_partOf b_P_partOf 3 (some .int) [] d none 0 [(0, .ref 7), (1, .int (nI c)), (2, .int (nI 1))] [] (hp K M o, nc, ns) post := by
  refine G_iload_n 2 d_P_partOf_0 rfl ?_
  refine G_ifne 13 d_P_partOf_1 (by decide) (fun _ => ?_) (fun h => absurd h (by decide))
  refine G_aload_n 0 d_P_partOf_13 rfl ?_
  refine G_gt d_P_partOf_14 fr_P_28 (rd_P_second K M o) ?_
  refine G_iload_n 1 d_P_partOf_17 rfl ?_
  refine G_ialN d_P_partOf_18 (ar_12 K M o) (by decide) (by omega) ?_
  rw [h]
  exact G_iret d_P_partOf_19 rfl k
set_option maxHeartbeats 600000 in
set_option maxRecDepth 100000 in
theorem c_P_addPattern {K : KC} {M : MC} {o : Nat → Int64} {nc ns : Nat} {d n : Nat} (x1 x2 x3 x4 : Int32) (hn : K.1 4 = nI n) (hb : n < 200) {post : mj_O → mj_H → Prop} (k : post (.inl (some (.int (nI n)))) (hp (patK K n x1 x2 x3 x4) M o, nc, ns)) : mj_G y_P_addPattern b_P_addPattern 6 (some .int) [] d none 0 [(0, .ref 7), (1, .int x1), (2, .int x2), (3, .int x3), (4, .int x4)] [] (hp K M o, nc, ns) post := by
  refine G_aload_n 0 d_P_addPattern_0 rfl ?_
  refine G_gt d_P_addPattern_1 fr_P_9 (rd_P_patternCount K M o) ?_
  rw [show K.1 4 = nI n from hn]
  refine G_istore (ls' := [(5, .int (nI n)), (0, .ref 7), (1, .int x1), (2, .int x2), (3, .int x3), (4, .int x4)]) d_P_addPattern_4 (by decide) rfl ?_
  refine G_aload_n 1 d_P_addPattern_6 rfl ?_
  refine G_gt d_P_addPattern_7 fr_P_15 (rd_P_kind K M o) ?_
  refine G_iload 0 d_P_addPattern_10 rfl ?_
  refine G_iload_n 2 d_P_addPattern_12 rfl ?_
  refine G_iasN d_P_addPattern_13 (ar_8 K M o) (by decide) (by omega) (aw_8 K M o n x1) ?_
  refine G_aload_n 1 d_P_addPattern_14 rfl ?_
  refine G_gt d_P_addPattern_15 fr_P_19 (rd_P_sort (ka K 8 n x1) M o) ?_
  refine G_iload 0 d_P_addPattern_18 rfl ?_
  refine G_iload_n 3 d_P_addPattern_20 rfl ?_
  refine G_iasN d_P_addPattern_21 (ar_9 (ka K 8 n x1) M o) (by decide) (by omega) (aw_9 (ka K 8 n x1) M o n x2) ?_
  refine G_aload_n 1 d_P_addPattern_22 rfl ?_
  refine G_gt d_P_addPattern_23 fr_P_22 (rd_P_top (ka (ka K 8 n x1) 9 n x2) M o) ?_
  refine G_iload 0 d_P_addPattern_26 rfl ?_
  refine G_iload_n 4 d_P_addPattern_28 rfl ?_
  refine G_iasN d_P_addPattern_29 (ar_10 (ka (ka K 8 n x1) 9 n x2) M o) (by decide) (by omega) (aw_10 (ka (ka K 8 n x1) 9 n x2) M o n x3) ?_
  refine G_aload_n 1 d_P_addPattern_30 rfl ?_
  refine G_gt d_P_addPattern_31 fr_P_31 (rd_P_size (ka (ka (ka K 8 n x1) 9 n x2) 10 n x3) M o) ?_
  refine G_iload 0 d_P_addPattern_34 rfl ?_
  refine G_iload 5 d_P_addPattern_36 rfl ?_
  refine G_iasN d_P_addPattern_38 (ar_13 (ka (ka (ka K 8 n x1) 9 n x2) 10 n x3) M o) (by decide) (by omega) (aw_13 (ka (ka (ka K 8 n x1) 9 n x2) 10 n x3) M o n x4) ?_
  refine G_aload_n 1 d_P_addPattern_39 rfl ?_
  refine G_dup d_P_addPattern_40 rfl ?_
  refine G_gt d_P_addPattern_41 fr_P_9 (rd_P_patternCount (ka (ka (ka (ka K 8 n x1) 9 n x2) 10 n x3) 13 n x4) M o) ?_
  rw [show (ka (ka (ka (ka K 8 n x1) 9 n x2) 10 n x3) 13 n x4).1 4 = nI n from hn]
  refine G_iconst (v := 1) d_P_addPattern_44 (by decide) ?_
  refine G_iadd d_P_addPattern_45 ?_
  rw [nI_1]
  refine G_pt d_P_addPattern_46 fp_P_9 (wr_P_patternCount (ka (ka (ka (ka K 8 n x1) 9 n x2) 10 n x3) 13 n x4) M o (nI (n + 1))) ?_
  refine G_iload 0 d_P_addPattern_49 rfl ?_
  exact G_iret d_P_addPattern_51 rfl k
set_option maxHeartbeats 600000 in
set_option maxRecDepth 100000 in
theorem c_P_addAny {K : KC} {M : MC} {o : Nat → Int64} {nc ns : Nat} {d n : Nat} (x : Int32) (hn : K.1 4 = nI n) (hb : n < 200) {post : mj_O → mj_H → Prop} (k : post (.inl (some (.int (nI n)))) (hp (patK K n 0 x 0 0) M o, nc, ns)) : mj_G y_P_addAny b_P_addAny 2 (some .int) [] (d + 1) none 0 [(0, .ref 7), (1, .int x)] [] (hp K M o, nc, ns) post := by
  refine G_aload_n 0 d_P_addAny_0 rfl ?_
  refine G_iconst (v := 0) d_P_addAny_1 (by decide) ?_
  refine G_iload_n 1 d_P_addAny_2 rfl ?_
  refine G_iconst (v := 0) d_P_addAny_3 (by decide) ?_
  refine G_iconst (v := 0) d_P_addAny_4 (by decide) ?_
  refine G_cv1 (some (.int (nI n))) (hp (patK K n 0 x 0 0) M o, nc, ns) (As := [.int 0, .int x, .int 0, .int 0]) d_P_addAny_5 cv_P_34 cw_P_addPattern (ob_P K M o) np_P_addPattern (Nat.le_of_ble_eq_true rfl) (Nat.le_of_ble_eq_true rfl) (fun post2 k2 => c_P_addPattern (K := K) 0 x 0 0 hn hb k2) rfl ?_
  exact G_iret d_P_addAny_8 rfl k
set_option maxHeartbeats 600000 in
set_option maxRecDepth 100000 in
theorem c_P_addNumber {K : KC} {M : MC} {o : Nat → Int64} {nc ns : Nat} {d n : Nat} (x : Int32) (hn : K.1 4 = nI n) (hb : n < 200) {post : mj_O → mj_H → Prop} (k : post (.inl (some (.int (nI n)))) (hp (patK K n 1 0 x 1) M o, nc, ns)) : mj_G y_P_addNumber b_P_addNumber 2 (some .int) [] (d + 1) none 0 [(0, .ref 7), (1, .int x)] [] (hp K M o, nc, ns) post := by
  refine G_aload_n 0 d_P_addNumber_0 rfl ?_
  refine G_iconst (v := 1) d_P_addNumber_1 (by decide) ?_
  refine G_iconst (v := 0) d_P_addNumber_2 (by decide) ?_
  refine G_iload_n 1 d_P_addNumber_3 rfl ?_
  refine G_iconst (v := 1) d_P_addNumber_4 (by decide) ?_
  refine G_cv1 (some (.int (nI n))) (hp (patK K n 1 0 x 1) M o, nc, ns) (As := [.int 1, .int 0, .int x, .int 1]) d_P_addNumber_5 cv_P_34 cw_P_addPattern (ob_P K M o) np_P_addPattern (Nat.le_of_ble_eq_true rfl) (Nat.le_of_ble_eq_true rfl) (fun post2 k2 => c_P_addPattern (K := K) 1 0 x 1 hn hb k2) rfl ?_
  exact G_iret d_P_addNumber_8 rfl k
set_option maxHeartbeats 600000 in
set_option maxRecDepth 100000 in
theorem c_P_addMade {K : KC} {M : MC} {o : Nat → Int64} {nc ns : Nat} {d n : Nat} (x1 x2 x3 x4 x5 : Int32) (hn : K.1 4 = nI n) (hb : n < 200) {post : mj_O → mj_H → Prop} (k : post (.inl (some (.int (nI n)))) (hp (ka (ka (patK K n 2 x1 x2 x5) 11 n x3) 12 n x4) M o, nc, ns)) : mj_G y_P_addMade b_P_addMade 7 (some .int) [] (d + 1) none 0 [(0, .ref 7), (1, .int x1), (2, .int x2), (3, .int x3), (4, .int x4), (5, .int x5)] [] (hp K M o, nc, ns) post := by
  refine G_aload_n 0 d_P_addMade_0 rfl ?_
  refine G_iconst (v := 2) d_P_addMade_1 (by decide) ?_
  refine G_iload_n 1 d_P_addMade_2 rfl ?_
  refine G_iload_n 2 d_P_addMade_3 rfl ?_
  refine G_iload 5 d_P_addMade_4 rfl ?_
  refine G_cv1 (some (.int (nI n))) (hp (patK K n 2 x1 x2 x5) M o, nc, ns) (As := [.int 2, .int x1, .int x2, .int x5]) d_P_addMade_6 cv_P_34 cw_P_addPattern (ob_P K M o) np_P_addPattern (Nat.le_of_ble_eq_true rfl) (Nat.le_of_ble_eq_true rfl) (fun post2 k2 => c_P_addPattern (K := K) 2 x1 x2 x5 hn hb k2) rfl ?_
  refine G_istore (ls' := [(6, .int (nI n)), (0, .ref 7), (1, .int x1), (2, .int x2), (3, .int x3), (4, .int x4), (5, .int x5)]) d_P_addMade_9 (by decide) rfl ?_
  refine G_aload_n 1 d_P_addMade_11 rfl ?_
  refine G_gt d_P_addMade_12 fr_P_25 (rd_P_first (patK K n 2 x1 x2 x5) M o) ?_
  refine G_iload 0 d_P_addMade_15 rfl ?_
  refine G_iload_n 4 d_P_addMade_17 rfl ?_
  refine G_iasN d_P_addMade_18 (ar_11 (patK K n 2 x1 x2 x5) M o) (by decide) (by omega) (aw_11 (patK K n 2 x1 x2 x5) M o n x3) ?_
  refine G_aload_n 1 d_P_addMade_19 rfl ?_
  refine G_gt d_P_addMade_20 fr_P_28 (rd_P_second (ka (patK K n 2 x1 x2 x5) 11 n x3) M o) ?_
  refine G_iload 0 d_P_addMade_23 rfl ?_
  refine G_iload 5 d_P_addMade_25 rfl ?_
  refine G_iasN d_P_addMade_27 (ar_12 (ka (patK K n 2 x1 x2 x5) 11 n x3) M o) (by decide) (by omega) (aw_12 (ka (patK K n 2 x1 x2 x5) 11 n x3) M o n x4) ?_
  refine G_iload 0 d_P_addMade_28 rfl ?_
  exact G_iret d_P_addMade_30 rfl k
