/-! the reference's plain methods -/
def iS (M : MC) (x : Int32) : Prop := 0 ≤ x ∧ x < M.1 1
def iP (M : MC) (x : Int32) : Prop := 0 ≤ x ∧ x < M.1 3
theorem ix_of {x : Int32} {n : Nat} (hn : n < 2 ^ 31) (h : 0 ≤ x ∧ x < nI n) : ∃ j, j < n ∧ x = nI j := by
  rcases pk_ix x hn with q | q | q
  · exact absurd h.1 (Int32.not_le.mpr q)
  · exact absurd h.2 (Int32.not_lt.mpr q)
  · exact q
theorem iS_of {M : MC} {x : Int32} (hS : wfS M) (h : iS M x) : ∃ j, j < mS M ∧ x = nI j := by
  unfold iS at h
  rw [hS.1] at h
  exact ix_of (by have := hS.2.2; omega) h
theorem iP_of {M : MC} {x : Int32} (hP : wfP M) (h : iP M x) : ∃ j, j < mP M ∧ x = nI j := by
  unfold iP at h
  rw [hP.1] at h
  exact ix_of (by have := hP.2.1; omega) h
theorem iP_nI {M : MC} {p : Nat} (hP : wfP M) (h : p < mP M) : iP M (nI p) := by
  unfold iP
  have := hP.2.1
  rw [hP.1]
  exact ⟨nI_pos' (by omega), nI_lt h (by omega)⟩
theorem iS_nI {M : MC} {p : Nat} (hS : wfS M) (h : p < mS M) : iS M (nI p) := by
  unfold iS
  have := hS.2.2
  rw [hS.1]
  exact ⟨nI_pos' (by omega), nI_lt h (by omega)⟩
set_option maxHeartbeats 600000 in
set_option maxRecDepth 100000 in
theorem c_M_thrown {K : KC} {M : MC} {o : Nat → Int64} {nc ns : Nat} {d : Nat} {post : mj_O → mj_H → Prop} (k : post (.inl (some (.int (M.1 0)))) (hp K M o, nc, ns)) : mj_G y_M_thrown b_M_thrown 1 (some .int) [] d none 0 [(0, .ref 38)] [] (hp K M o, nc, ns) post := by
  refine G_aload_n 0 d_M_thrown_0 rfl ?_
  refine G_gt d_M_thrown_1 fr_M_87 (rd_M_thrown K M o) ?_
  exact G_iret d_M_thrown_4 rfl k
set_option maxHeartbeats 600000 in
set_option maxRecDepth 100000 in
theorem c_M_sort {K : KC} {M : MC} {o : Nat → Int64} {nc ns : Nat} {d : Nat} (hS : wfS M) {post : mj_O → mj_H → Prop} (k1 : mS M = 12 → post (.inl (some (.int 0))) (hp K (mi M 0 1) o, nc, ns)) (k0 : mS M ≠ 12 → post (.inl (some (.int (nI (mS M))))) (hp K (mi (mi M 0 0) 1 (nI (mS M + 1))) o, nc, ns)) : mj_G y_M_sort b_M_sort 1 (some .int) [] d none 0 [(0, .ref 38)] [] (hp K M o, nc, ns) post := by
  have q12 := hS.2.2
  refine G_aload_n 0 d_M_sort_0 rfl ?_
  refine G_aload_n 0 d_M_sort_1 rfl ?_
  refine G_gt d_M_sort_2 fr_M_7 (rd_M_sorts K M o) ?_
  rw [show M.1 1 = nI (mS M) from hS.1]
  refine G_bipush (v := nI 12) d_M_sort_5 (by decide) ?_
  refine G_icne 14 d_M_sort_7 (by decide) (fun h7 => ?_) (fun h7 => ?_)
  · have h7 := (nI_ne (by omega) (by omega)).mp h7
    refine G_iconst (v := 0) d_M_sort_14 (by decide) ?_
    refine G_pt d_M_sort_15 fp_M_87 (wr_M_thrown K M o 0) ?_
    refine G_aload_n 0 d_M_sort_18 rfl ?_
    refine G_gt d_M_sort_19 fr_M_87 (rd_M_thrown K (mi M 0 0) o) ?_
    rw [show (mi M 0 0).1 0 = 0 from rfl]
    refine G_ifle 27 d_M_sort_22 (by decide) (fun _ => ?_) (fun h => absurd h (by decide))
    refine G_aload_n 0 d_M_sort_27 rfl ?_
    refine G_dup d_M_sort_28 rfl ?_
    refine G_gt d_M_sort_29 fr_M_7 (rd_M_sorts K (mi M 0 0) o) ?_
    rw [show (mi M 0 0).1 1 = nI (mS M) from hS.1]
    refine G_iconst (v := 1) d_M_sort_32 (by decide) ?_
    refine G_iadd d_M_sort_33 ?_
    rw [nI_1]
    refine G_pt d_M_sort_34 fp_M_7 (wr_M_sorts K (mi M 0 0) o (nI (mS M + 1))) ?_
    refine G_aload_n 0 d_M_sort_37 rfl ?_
    refine G_gt d_M_sort_38 fr_M_7 (rd_M_sorts K (mi (mi M 0 0) 1 (nI (mS M + 1))) o) ?_
    rw [show (mi (mi M 0 0) 1 (nI (mS M + 1))).1 1 = nI (mS M + 1) from rfl]
    refine G_iconst (v := 1) d_M_sort_41 (by decide) ?_
    refine G_isub d_M_sort_42 ?_
    rw [nI_pred]
    exact G_iret d_M_sort_43 rfl (k0 h7)
  · have h7 := (nI_eq (by omega) (by omega)).mp h7
    refine G_iconst (v := 1) d_M_sort_10 (by decide) ?_
    refine G_goto 15 d_M_sort_11 (by decide) ?_
    refine G_pt d_M_sort_15 fp_M_87 (wr_M_thrown K M o 1) ?_
    refine G_aload_n 0 d_M_sort_18 rfl ?_
    refine G_gt d_M_sort_19 fr_M_87 (rd_M_thrown K (mi M 0 1) o) ?_
    rw [show (mi M 0 1).1 0 = 1 from rfl]
    refine G_ifle 27 d_M_sort_22 (by decide) (fun h => absurd h (by decide)) (fun _ => ?_)
    refine G_iconst (v := 0) d_M_sort_25 (by decide) ?_
    exact G_iret d_M_sort_26 rfl (k1 h7)
set_option maxHeartbeats 600000 in
set_option maxRecDepth 100000 in
theorem c_M_any {K : KC} {M : MC} {o : Nat → Int64} {nc ns : Nat} {d : Nat} (x : Int32) (hP : wfP M) {post : mj_O → mj_H → Prop} (k1 : ¬ iS M x → post (.inl (some (.int 0))) (hp K (mi M 0 1) o, nc, ns)) (k2 : iS M x → mP M = 200 → post (.inl (some (.int 0))) (hp K (mi M 0 2) o, nc, ns)) (k0 : iS M x → mP M ≠ 200 → post (.inl (some (.int (nI (mP M))))) (hp K (patM (mi M 0 0) (mP M) 0 x 0 0 0 0) o, nc, ns)) : mj_G y_M_any b_M_any 2 (some .int) [] (d + 1) none 0 [(0, .ref 38), (1, .int x)] [] (hp K M o, nc, ns) post := by
  have q200 := hP.2.1
  refine G_aload_n 0 d_M_any_0 rfl ?_
  refine G_aload_n 0 d_M_any_1 rfl ?_
  refine G_iload_n 1 d_M_any_2 rfl ?_
  refine G_cvB (iS M x) (As := [.int x]) d_M_any_3 cv_M_93 cw_M_isSort (ob_M K M o) np_M_isSort (Nat.le_of_ble_eq_true rfl) (Nat.le_of_ble_eq_true rfl) (fun post2 k1 k0 => c_M_isSort x k1 k0) (fun u3 => ?_) (fun u3 => ?_)
  · refine G_ifne 13 d_M_any_6 (by decide) (fun _ => ?_) (fun h => absurd h (by decide))
    refine G_aload_n 0 d_M_any_13 rfl ?_
    refine G_gt d_M_any_14 fr_M_90 (rd_M_patterns K M o) ?_
    rw [show M.1 3 = nI (mP M) from hP.1]
    refine G_sipush (v := nI 200) d_M_any_17 (by decide) ?_
    refine G_icne 27 d_M_any_20 (by decide) (fun h20 => ?_) (fun h20 => ?_)
    · have h20 := (nI_ne (by omega) (by omega)).mp h20
      refine G_iconst (v := 0) d_M_any_27 (by decide) ?_
      refine G_pt d_M_any_28 fp_M_87 (wr_M_thrown K M o 0) ?_
      refine G_aload_n 0 d_M_any_31 rfl ?_
      refine G_gt d_M_any_32 fr_M_87 (rd_M_thrown K (mi M 0 0) o) ?_
      rw [show (mi M 0 0).1 0 = 0 from rfl]
      refine G_ifle 42 d_M_any_35 (by decide) (fun _ => ?_) (fun h => absurd h (by decide))
      refine G_aload_n 0 d_M_any_42 rfl ?_
      refine G_iconst (v := 0) d_M_any_43 (by decide) ?_
      refine G_iload_n 1 d_M_any_44 rfl ?_
      refine G_iconst (v := 0) d_M_any_45 (by decide) ?_
      refine G_iconst (v := 0) d_M_any_46 (by decide) ?_
      refine G_iconst (v := 0) d_M_any_47 (by decide) ?_
      refine G_iconst (v := 0) d_M_any_48 (by decide) ?_
      refine G_cv1 (some (.int (nI (mP M)))) (hp K (patM (mi M 0 0) (mP M) 0 x 0 0 0 0) o, nc, ns) (As := [.int 0, .int x, .int 0, .int 0, .int 0, .int 0]) d_M_any_49 cv_M_100 cw_M_pattern (ob_M K (mi M 0 0) o) np_M_pattern (Nat.le_of_ble_eq_true rfl) (Nat.le_of_ble_eq_true rfl) (fun post2 k2 => c_M_pattern (M := mi M 0 0) 0 x 0 0 0 0 (mP M) hP.1 (by omega) k2) rfl ?_
      exact G_iret d_M_any_52 rfl (k0 u3 h20)
    · have h20 := (nI_eq (by omega) (by omega)).mp h20
      refine G_iconst (v := 2) d_M_any_23 (by decide) ?_
      refine G_goto 28 d_M_any_24 (by decide) ?_
      refine G_pt d_M_any_28 fp_M_87 (wr_M_thrown K M o 2) ?_
      refine G_aload_n 0 d_M_any_31 rfl ?_
      refine G_gt d_M_any_32 fr_M_87 (rd_M_thrown K (mi M 0 2) o) ?_
      rw [show (mi M 0 2).1 0 = 2 from rfl]
      refine G_ifle 42 d_M_any_35 (by decide) (fun h => absurd h (by decide)) (fun _ => ?_)
      refine G_iconst (v := 0) d_M_any_38 (by decide) ?_
      refine G_goto 52 d_M_any_39 (by decide) ?_
      exact G_iret d_M_any_52 rfl (k2 u3 h20)
  · refine G_ifne 13 d_M_any_6 (by decide) (fun h => absurd h (by decide)) (fun _ => ?_)
    refine G_iconst (v := 1) d_M_any_9 (by decide) ?_
    refine G_goto 28 d_M_any_10 (by decide) ?_
    refine G_pt d_M_any_28 fp_M_87 (wr_M_thrown K M o 1) ?_
    refine G_aload_n 0 d_M_any_31 rfl ?_
    refine G_gt d_M_any_32 fr_M_87 (rd_M_thrown K (mi M 0 1) o) ?_
    rw [show (mi M 0 1).1 0 = 1 from rfl]
    refine G_ifle 42 d_M_any_35 (by decide) (fun h => absurd h (by decide)) (fun _ => ?_)
    refine G_iconst (v := 0) d_M_any_38 (by decide) ?_
    refine G_goto 52 d_M_any_39 (by decide) ?_
    exact G_iret d_M_any_52 rfl (k1 u3)
set_option maxHeartbeats 600000 in
set_option maxRecDepth 100000 in
theorem c_M_number {K : KC} {M : MC} {o : Nat → Int64} {nc ns : Nat} {d : Nat} (x : Int32) (hP : wfP M) {post : mj_O → mj_H → Prop} (k1 : mP M = 200 → post (.inl (some (.int 0))) (hp K (mi M 0 1) o, nc, ns)) (k0 : mP M ≠ 200 → post (.inl (some (.int (nI (mP M))))) (hp K (patM (mi M 0 0) (mP M) 1 0 x 0 0 1) o, nc, ns)) : mj_G y_M_number b_M_number 2 (some .int) [] (d + 1) none 0 [(0, .ref 38), (1, .int x)] [] (hp K M o, nc, ns) post := by
  have q200 := hP.2.1
  refine G_aload_n 0 d_M_number_0 rfl ?_
  refine G_aload_n 0 d_M_number_1 rfl ?_
  refine G_gt d_M_number_2 fr_M_90 (rd_M_patterns K M o) ?_
  rw [show M.1 3 = nI (mP M) from hP.1]
  refine G_sipush (v := nI 200) d_M_number_5 (by decide) ?_
  refine G_icne 15 d_M_number_8 (by decide) (fun h8 => ?_) (fun h8 => ?_)
  · have h8 := (nI_ne (by omega) (by omega)).mp h8
    refine G_iconst (v := 0) d_M_number_15 (by decide) ?_
    refine G_pt d_M_number_16 fp_M_87 (wr_M_thrown K M o 0) ?_
    refine G_aload_n 0 d_M_number_19 rfl ?_
    refine G_gt d_M_number_20 fr_M_87 (rd_M_thrown K (mi M 0 0) o) ?_
    rw [show (mi M 0 0).1 0 = 0 from rfl]
    refine G_ifle 30 d_M_number_23 (by decide) (fun _ => ?_) (fun h => absurd h (by decide))
    refine G_aload_n 0 d_M_number_30 rfl ?_
    refine G_iconst (v := 1) d_M_number_31 (by decide) ?_
    refine G_iconst (v := 0) d_M_number_32 (by decide) ?_
    refine G_iload_n 1 d_M_number_33 rfl ?_
    refine G_iconst (v := 0) d_M_number_34 (by decide) ?_
    refine G_iconst (v := 0) d_M_number_35 (by decide) ?_
    refine G_iconst (v := 1) d_M_number_36 (by decide) ?_
    refine G_cv1 (some (.int (nI (mP M)))) (hp K (patM (mi M 0 0) (mP M) 1 0 x 0 0 1) o, nc, ns) (As := [.int 1, .int 0, .int x, .int 0, .int 0, .int 1]) d_M_number_37 cv_M_100 cw_M_pattern (ob_M K (mi M 0 0) o) np_M_pattern (Nat.le_of_ble_eq_true rfl) (Nat.le_of_ble_eq_true rfl) (fun post2 k2 => c_M_pattern (M := mi M 0 0) 1 0 x 0 0 1 (mP M) hP.1 (by omega) k2) rfl ?_
    exact G_iret d_M_number_40 rfl (k0 h8)
  · have h8 := (nI_eq (by omega) (by omega)).mp h8
    refine G_iconst (v := 1) d_M_number_11 (by decide) ?_
    refine G_goto 16 d_M_number_12 (by decide) ?_
    refine G_pt d_M_number_16 fp_M_87 (wr_M_thrown K M o 1) ?_
    refine G_aload_n 0 d_M_number_19 rfl ?_
    refine G_gt d_M_number_20 fr_M_87 (rd_M_thrown K (mi M 0 1) o) ?_
    rw [show (mi M 0 1).1 0 = 1 from rfl]
    refine G_ifle 30 d_M_number_23 (by decide) (fun h => absurd h (by decide)) (fun _ => ?_)
    refine G_iconst (v := 0) d_M_number_26 (by decide) ?_
    refine G_goto 40 d_M_number_27 (by decide) ?_
    exact G_iret d_M_number_40 rfl (k1 h8)
set_option maxHeartbeats 600000 in
set_option maxRecDepth 100000 in
theorem c_M_begin {K : KC} {M : MC} {o : Nat → Int64} {nc ns : Nat} {d : Nat} (x : Int32) {post : mj_O → mj_H → Prop} (k1 : ¬ iS M x → post (.inl none) (hp K (mi M 0 1) o, nc, ns)) (k0 : iS M x → post (.inl none) (hp K (mi (mi (mi M 0 0) 4 (nI 0)) 5 x) o, nc, ns)) : mj_G y_M_begin b_M_begin 2 none [] (d + 1) none 0 [(0, .ref 38), (1, .int x)] [] (hp K M o, nc, ns) post := by
  refine G_aload_n 0 d_M_begin_0 rfl ?_
  refine G_aload_n 0 d_M_begin_1 rfl ?_
  refine G_iload_n 1 d_M_begin_2 rfl ?_
  refine G_cvB (iS M x) (As := [.int x]) d_M_begin_3 cv_M_93 cw_M_isSort (ob_M K M o) np_M_isSort (Nat.le_of_ble_eq_true rfl) (Nat.le_of_ble_eq_true rfl) (fun post2 k1 k0 => c_M_isSort x k1 k0) (fun u3 => ?_) (fun u3 => ?_)
  · refine G_ifeq 13 d_M_begin_6 (by decide) (fun h => absurd h (by decide)) (fun _ => ?_)
    refine G_iconst (v := 0) d_M_begin_9 (by decide) ?_
    refine G_goto 14 d_M_begin_10 (by decide) ?_
    refine G_pt d_M_begin_14 fp_M_87 (wr_M_thrown K M o 0) ?_
    refine G_aload_n 0 d_M_begin_17 rfl ?_
    refine G_gt d_M_begin_18 fr_M_87 (rd_M_thrown K (mi M 0 0) o) ?_
    rw [show (mi M 0 0).1 0 = 0 from rfl]
    refine G_ifle 25 d_M_begin_21 (by decide) (fun _ => ?_) (fun h => absurd h (by decide))
    refine G_aload_n 0 d_M_begin_25 rfl ?_
    refine G_iconst (v := nI 0) d_M_begin_26 (by decide) ?_
    refine G_pt d_M_begin_27 fp_M_107 (wr_M_clauses K (mi M 0 0) o (nI 0)) ?_
    refine G_aload_n 0 d_M_begin_30 rfl ?_
    refine G_iload_n 1 d_M_begin_31 rfl ?_
    refine G_pt d_M_begin_32 fp_M_110 (wr_M_clauseSort K (mi (mi M 0 0) 4 (nI 0)) o x) ?_
    exact G_ret d_M_begin_35 rfl (k0 u3)
  · refine G_ifeq 13 d_M_begin_6 (by decide) (fun _ => ?_) (fun h => absurd h (by decide))
    refine G_iconst (v := 1) d_M_begin_13 (by decide) ?_
    refine G_pt d_M_begin_14 fp_M_87 (wr_M_thrown K M o 1) ?_
    refine G_aload_n 0 d_M_begin_17 rfl ?_
    refine G_gt d_M_begin_18 fr_M_87 (rd_M_thrown K (mi M 0 1) o) ?_
    rw [show (mi M 0 1).1 0 = 1 from rfl]
    refine G_ifle 25 d_M_begin_21 (by decide) (fun h => absurd h (by decide)) (fun _ => ?_)
    exact G_ret d_M_begin_24 rfl (k1 u3)
def aL (M : MC) (x1 x2 : Int32) : Prop := iP M x1 ∧ iP M x2 ∧ M.2 44 x1.toNatClampNeg = M.2 44 x2.toNatClampNeg
set_option maxHeartbeats 600000 in
set_option maxRecDepth 100000 in
theorem c_M_areLike {K : KC} {M : MC} {o : Nat → Int64} {nc ns : Nat} {d : Nat} (x1 x2 : Int32) (hP : wfP M) {post : mj_O → mj_H → Prop} (k1 : aL M x1 x2 → post (.inl (some (.int 1))) (hp K M o, nc, ns)) (k0 : ¬ aL M x1 x2 → post (.inl (some (.int 0))) (hp K M o, nc, ns)) : mj_G y_M_areLike b_M_areLike 3 (some .boolean) [] (d + 1) none 0 [(0, .ref 38), (1, .int x1), (2, .int x2)] [] (hp K M o, nc, ns) post := by
  refine G_aload_n 0 d_M_areLike_0 rfl ?_
  refine G_iload_n 1 d_M_areLike_1 rfl ?_
  refine G_cvB (iP M x1) (As := [.int x1]) d_M_areLike_2 cv_M_104 cw_M_isPattern (ob_M K M o) np_M_isPattern (Nat.le_of_ble_eq_true rfl) (Nat.le_of_ble_eq_true rfl) (fun post2 k1 k0 => c_M_isPattern x1 k1 k0) (fun u2 => ?_) (fun u2 => ?_)
  · refine G_ifeq 35 d_M_areLike_5 (by decide) (fun h => absurd h (by decide)) (fun _ => ?_)
    refine G_aload_n 0 d_M_areLike_8 rfl ?_
    refine G_iload_n 2 d_M_areLike_9 rfl ?_
    refine G_cvB (iP M x2) (As := [.int x2]) d_M_areLike_10 cv_M_104 cw_M_isPattern (ob_M K M o) np_M_isPattern (Nat.le_of_ble_eq_true rfl) (Nat.le_of_ble_eq_true rfl) (fun post2 k1 k0 => c_M_isPattern x2 k1 k0) (fun u10 => ?_) (fun u10 => ?_)
    · obtain ⟨p1, hp1, rfl⟩ := iP_of hP u2
      have q200 := hP.2.1
      obtain ⟨p2, hp2, rfl⟩ := iP_of hP u10
      have q200 := hP.2.1
      refine G_ifeq 35 d_M_areLike_13 (by decide) (fun h => absurd h (by decide)) (fun _ => ?_)
      refine G_aload_n 0 d_M_areLike_16 rfl ?_
      refine G_gt d_M_areLike_17 fr_M_29 (rd_M_sortOf K M o) ?_
      refine G_iload_n 1 d_M_areLike_20 rfl ?_
      refine G_ialN d_M_areLike_21 (ar_44 K M o) (by decide) (by omega) ?_
      refine G_aload_n 0 d_M_areLike_22 rfl ?_
      refine G_gt d_M_areLike_23 fr_M_29 (rd_M_sortOf K M o) ?_
      refine G_iload_n 2 d_M_areLike_26 rfl ?_
      refine G_ialN d_M_areLike_27 (ar_44 K M o) (by decide) (by omega) ?_
      refine G_icne 35 d_M_areLike_28 (by decide) (fun h28 => ?_) (fun h28 => ?_)
      · refine G_iconst (v := 0) d_M_areLike_35 (by decide) ?_
        exact G_zret d_M_areLike_36 rfl rfl (k0 (fun z => h28 (by have z := z.2.2; rw [nI_clamp (by omega), nI_clamp (by omega)] at z; exact z)))
      · refine G_iconst (v := 1) d_M_areLike_31 (by decide) ?_
        refine G_goto 36 d_M_areLike_32 (by decide) ?_
        exact G_zret d_M_areLike_36 rfl rfl (k1 ⟨u2, u10, by rw [nI_clamp (by omega), nI_clamp (by omega)]; exact h28⟩)
    · refine G_ifeq 35 d_M_areLike_13 (by decide) (fun _ => ?_) (fun h => absurd h (by decide))
      refine G_iconst (v := 0) d_M_areLike_35 (by decide) ?_
      exact G_zret d_M_areLike_36 rfl rfl (k0 (fun z => u10 z.2.1))
  · refine G_ifeq 35 d_M_areLike_5 (by decide) (fun _ => ?_) (fun h => absurd h (by decide))
    refine G_iconst (v := 0) d_M_areLike_35 (by decide) ?_
    exact G_zret d_M_areLike_36 rfl rfl (k0 (fun z => u2 z.1))
def rC (M : MC) (x1 x2 x3 x4 : Int32) : Prop := ¬ x1 ≤ 0 ∧ iS M x1 ∧ ¬ x2 < 0 ∧ ¬ 2 < x2 ∧ (x2 < 1 ∨ iS M x3) ∧ (x2 < 2 ∨ iS M x4)
def conM (M : MC) (n : Nat) (x1 x2 x3 x4 : Int32) : MC := mi (ma (ma (ma (ma M 39 n x1) 40 n x2) 41 n x3) 42 n x4) 2 (nI (n + 1))
set_option maxHeartbeats 600000 in
set_option maxRecDepth 100000 in
theorem c_M_con {K : KC} {M : MC} {o : Nat → Int64} {nc ns : Nat} {d : Nat} (x1 x2 x3 x4 : Int32) (hC : wfC M) {post : mj_O → mj_H → Prop} (k1 : ¬ rC M x1 x2 x3 x4 → post (.inl (some (.int 0))) (hp K (mi M 0 1) o, nc, ns)) (k2 : rC M x1 x2 x3 x4 → mC M = 30 → post (.inl (some (.int 0))) (hp K (mi M 0 2) o, nc, ns)) (k0 : rC M x1 x2 x3 x4 → mC M ≠ 30 → post (.inl (some (.int (nI (mC M))))) (hp K (conM (mi M 0 0) (mC M) x1 x2 x3 x4) o, nc, ns)) : mj_G y_M_con b_M_con 6 (some .int) [] (d + 1) none 0 [(0, .ref 38), (1, .int x1), (2, .int x2), (3, .int x3), (4, .int x4)] [] (hp K M o, nc, ns) post := by
  have q30 := hC.2.1
  refine G_iload_n 1 d_M_con_0 rfl ?_
  refine G_ifle 52 d_M_con_1 (by decide) (fun h1 => ?_) (fun h1 => ?_)
  · refine G_iconst (v := 0) d_M_con_52 (by decide) ?_
    refine G_istore (ls' := [(5, .int 0), (0, .ref 38), (1, .int x1), (2, .int x2), (3, .int x3), (4, .int x4)]) d_M_con_53 (by decide) rfl ?_
    refine G_aload_n 1 d_M_con_55 rfl ?_
    refine G_iload 0 d_M_con_56 rfl ?_
    refine G_ifne 65 d_M_con_58 (by decide) (fun h => absurd h (by decide)) (fun _ => ?_)
    refine G_iconst (v := 1) d_M_con_61 (by decide) ?_
    refine G_goto 79 d_M_con_62 (by decide) ?_
    refine G_pt d_M_con_79 fp_M_87 (wr_M_thrown K M o 1) ?_
    refine G_aload_n 1 d_M_con_82 rfl ?_
    refine G_gt d_M_con_83 fr_M_87 (rd_M_thrown K (mi M 0 1) o) ?_
    rw [show (mi M 0 1).1 0 = 1 from rfl]
    refine G_ifle 91 d_M_con_86 (by decide) (fun h => absurd h (by decide)) (fun _ => ?_)
    refine G_iconst (v := 0) d_M_con_89 (by decide) ?_
    exact G_iret d_M_con_90 rfl (k1 (fun z => z.1 h1))
  · refine G_aload_n 0 d_M_con_4 rfl ?_
    refine G_iload_n 1 d_M_con_5 rfl ?_
    refine G_cvB (iS M x1) (As := [.int x1]) d_M_con_6 cv_M_93 cw_M_isSort (ob_M K M o) np_M_isSort (Nat.le_of_ble_eq_true rfl) (Nat.le_of_ble_eq_true rfl) (fun post2 k1 k0 => c_M_isSort x1 k1 k0) (fun u6 => ?_) (fun u6 => ?_)
    · refine G_ifeq 52 d_M_con_9 (by decide) (fun h => absurd h (by decide)) (fun _ => ?_)
      refine G_iload_n 2 d_M_con_12 rfl ?_
      refine G_iflt 52 d_M_con_13 (by decide) (fun h13 => ?_) (fun h13 => ?_)
      · refine G_iconst (v := 0) d_M_con_52 (by decide) ?_
        refine G_istore (ls' := [(5, .int 0), (0, .ref 38), (1, .int x1), (2, .int x2), (3, .int x3), (4, .int x4)]) d_M_con_53 (by decide) rfl ?_
        refine G_aload_n 1 d_M_con_55 rfl ?_
        refine G_iload 0 d_M_con_56 rfl ?_
        refine G_ifne 65 d_M_con_58 (by decide) (fun h => absurd h (by decide)) (fun _ => ?_)
        refine G_iconst (v := 1) d_M_con_61 (by decide) ?_
        refine G_goto 79 d_M_con_62 (by decide) ?_
        refine G_pt d_M_con_79 fp_M_87 (wr_M_thrown K M o 1) ?_
        refine G_aload_n 1 d_M_con_82 rfl ?_
        refine G_gt d_M_con_83 fr_M_87 (rd_M_thrown K (mi M 0 1) o) ?_
        rw [show (mi M 0 1).1 0 = 1 from rfl]
        refine G_ifle 91 d_M_con_86 (by decide) (fun h => absurd h (by decide)) (fun _ => ?_)
        refine G_iconst (v := 0) d_M_con_89 (by decide) ?_
        exact G_iret d_M_con_90 rfl (k1 (fun z => z.2.2.1 h13))
      · refine G_iload_n 2 d_M_con_16 rfl ?_
        refine G_iconst (v := 2) d_M_con_17 (by decide) ?_
        refine G_icgt 52 d_M_con_18 (by decide) (fun h18 => ?_) (fun h18 => ?_)
        · refine G_iconst (v := 0) d_M_con_52 (by decide) ?_
          refine G_istore (ls' := [(5, .int 0), (0, .ref 38), (1, .int x1), (2, .int x2), (3, .int x3), (4, .int x4)]) d_M_con_53 (by decide) rfl ?_
          refine G_aload_n 1 d_M_con_55 rfl ?_
          refine G_iload 0 d_M_con_56 rfl ?_
          refine G_ifne 65 d_M_con_58 (by decide) (fun h => absurd h (by decide)) (fun _ => ?_)
          refine G_iconst (v := 1) d_M_con_61 (by decide) ?_
          refine G_goto 79 d_M_con_62 (by decide) ?_
          refine G_pt d_M_con_79 fp_M_87 (wr_M_thrown K M o 1) ?_
          refine G_aload_n 1 d_M_con_82 rfl ?_
          refine G_gt d_M_con_83 fr_M_87 (rd_M_thrown K (mi M 0 1) o) ?_
          rw [show (mi M 0 1).1 0 = 1 from rfl]
          refine G_ifle 91 d_M_con_86 (by decide) (fun h => absurd h (by decide)) (fun _ => ?_)
          refine G_iconst (v := 0) d_M_con_89 (by decide) ?_
          exact G_iret d_M_con_90 rfl (k1 (fun z => z.2.2.2.1 h18))
        · refine G_iload_n 2 d_M_con_21 rfl ?_
          refine G_iconst (v := 1) d_M_con_22 (by decide) ?_
          refine G_iclt 34 d_M_con_23 (by decide) (fun h23 => ?_) (fun h23 => ?_)
          · refine G_iload_n 2 d_M_con_34 rfl ?_
            refine G_iconst (v := 2) d_M_con_35 (by decide) ?_
            refine G_iclt 48 d_M_con_36 (by decide) (fun h36 => ?_) (fun h36 => ?_)
            · refine G_iconst (v := 1) d_M_con_48 (by decide) ?_
              refine G_goto 53 d_M_con_49 (by decide) ?_
              refine G_istore (ls' := [(5, .int 1), (0, .ref 38), (1, .int x1), (2, .int x2), (3, .int x3), (4, .int x4)]) d_M_con_53 (by decide) rfl ?_
              refine G_aload_n 1 d_M_con_55 rfl ?_
              refine G_iload 0 d_M_con_56 rfl ?_
              refine G_ifne 65 d_M_con_58 (by decide) (fun _ => ?_) (fun h => absurd h (by decide))
              refine G_aload_n 1 d_M_con_65 rfl ?_
              refine G_gt d_M_con_66 fr_M_97 (rd_M_cons K M o) ?_
              rw [show M.1 2 = nI (mC M) from hC.1]
              refine G_bipush (v := nI 30) d_M_con_69 (by decide) ?_
              refine G_icne 78 d_M_con_71 (by decide) (fun h71 => ?_) (fun h71 => ?_)
              · have h71 := (nI_ne (by omega) (by omega)).mp h71
                refine G_iconst (v := 0) d_M_con_78 (by decide) ?_
                refine G_pt d_M_con_79 fp_M_87 (wr_M_thrown K M o 0) ?_
                refine G_aload_n 1 d_M_con_82 rfl ?_
                refine G_gt d_M_con_83 fr_M_87 (rd_M_thrown K (mi M 0 0) o) ?_
                rw [show (mi M 0 0).1 0 = 0 from rfl]
                refine G_ifle 91 d_M_con_86 (by decide) (fun _ => ?_) (fun h => absurd h (by decide))
                refine G_aload_n 1 d_M_con_91 rfl ?_
                refine G_gt d_M_con_92 fr_M_13 (rd_M_conSort K (mi M 0 0) o) ?_
                refine G_aload_n 1 d_M_con_95 rfl ?_
                refine G_gt d_M_con_96 fr_M_97 (rd_M_cons K (mi M 0 0) o) ?_
                rw [show (mi M 0 0).1 2 = nI (mC M) from hC.1]
                refine G_iload_n 2 d_M_con_99 rfl ?_
                refine G_iasN d_M_con_100 (ar_39 K (mi M 0 0) o) (by decide) (by omega) (aw_39 K (mi M 0 0) o (mC M) x1) ?_
                refine G_aload_n 1 d_M_con_101 rfl ?_
                refine G_gt d_M_con_102 fr_M_17 (rd_M_conParts K (ma (mi M 0 0) 39 (mC M) x1) o) ?_
                refine G_aload_n 1 d_M_con_105 rfl ?_
                refine G_gt d_M_con_106 fr_M_97 (rd_M_cons K (ma (mi M 0 0) 39 (mC M) x1) o) ?_
                rw [show (ma (mi M 0 0) 39 (mC M) x1).1 2 = nI (mC M) from hC.1]
                refine G_iload_n 3 d_M_con_109 rfl ?_
                refine G_iasN d_M_con_110 (ar_40 K (ma (mi M 0 0) 39 (mC M) x1) o) (by decide) (by omega) (aw_40 K (ma (mi M 0 0) 39 (mC M) x1) o (mC M) x2) ?_
                refine G_aload_n 1 d_M_con_111 rfl ?_
                refine G_gt d_M_con_112 fr_M_20 (rd_M_conFirst K (ma (ma (mi M 0 0) 39 (mC M) x1) 40 (mC M) x2) o) ?_
                refine G_aload_n 1 d_M_con_115 rfl ?_
                refine G_gt d_M_con_116 fr_M_97 (rd_M_cons K (ma (ma (mi M 0 0) 39 (mC M) x1) 40 (mC M) x2) o) ?_
                rw [show (ma (ma (mi M 0 0) 39 (mC M) x1) 40 (mC M) x2).1 2 = nI (mC M) from hC.1]
                refine G_iload_n 4 d_M_con_119 rfl ?_
                refine G_iasN d_M_con_120 (ar_41 K (ma (ma (mi M 0 0) 39 (mC M) x1) 40 (mC M) x2) o) (by decide) (by omega) (aw_41 K (ma (ma (mi M 0 0) 39 (mC M) x1) 40 (mC M) x2) o (mC M) x3) ?_
                refine G_aload_n 1 d_M_con_121 rfl ?_
                refine G_gt d_M_con_122 fr_M_23 (rd_M_conSecond K (ma (ma (ma (mi M 0 0) 39 (mC M) x1) 40 (mC M) x2) 41 (mC M) x3) o) ?_
                refine G_aload_n 1 d_M_con_125 rfl ?_
                refine G_gt d_M_con_126 fr_M_97 (rd_M_cons K (ma (ma (ma (mi M 0 0) 39 (mC M) x1) 40 (mC M) x2) 41 (mC M) x3) o) ?_
                rw [show (ma (ma (ma (mi M 0 0) 39 (mC M) x1) 40 (mC M) x2) 41 (mC M) x3).1 2 = nI (mC M) from hC.1]
                refine G_iload 5 d_M_con_129 rfl ?_
                refine G_iasN d_M_con_131 (ar_42 K (ma (ma (ma (mi M 0 0) 39 (mC M) x1) 40 (mC M) x2) 41 (mC M) x3) o) (by decide) (by omega) (aw_42 K (ma (ma (ma (mi M 0 0) 39 (mC M) x1) 40 (mC M) x2) 41 (mC M) x3) o (mC M) x4) ?_
                refine G_aload_n 1 d_M_con_132 rfl ?_
                refine G_dup d_M_con_133 rfl ?_
                refine G_gt d_M_con_134 fr_M_97 (rd_M_cons K (ma (ma (ma (ma (mi M 0 0) 39 (mC M) x1) 40 (mC M) x2) 41 (mC M) x3) 42 (mC M) x4) o) ?_
                rw [show (ma (ma (ma (ma (mi M 0 0) 39 (mC M) x1) 40 (mC M) x2) 41 (mC M) x3) 42 (mC M) x4).1 2 = nI (mC M) from hC.1]
                refine G_iconst (v := 1) d_M_con_137 (by decide) ?_
                refine G_iadd d_M_con_138 ?_
                rw [nI_1]
                refine G_pt d_M_con_139 fp_M_97 (wr_M_cons K (ma (ma (ma (ma (mi M 0 0) 39 (mC M) x1) 40 (mC M) x2) 41 (mC M) x3) 42 (mC M) x4) o (nI (mC M + 1))) ?_
                refine G_aload_n 1 d_M_con_142 rfl ?_
                refine G_gt d_M_con_143 fr_M_97 (rd_M_cons K (mi (ma (ma (ma (ma (mi M 0 0) 39 (mC M) x1) 40 (mC M) x2) 41 (mC M) x3) 42 (mC M) x4) 2 (nI (mC M + 1))) o) ?_
                rw [show (mi (ma (ma (ma (ma (mi M 0 0) 39 (mC M) x1) 40 (mC M) x2) 41 (mC M) x3) 42 (mC M) x4) 2 (nI (mC M + 1))).1 2 = nI (mC M + 1) from rfl]
                refine G_iconst (v := 1) d_M_con_146 (by decide) ?_
                refine G_isub d_M_con_147 ?_
                rw [nI_pred]
                exact G_iret d_M_con_148 rfl (k0 ⟨h1, u6, h13, h18, Or.inl h23, Or.inl h36⟩ h71)
              · have h71 := (nI_eq (by omega) (by omega)).mp h71
                refine G_iconst (v := 2) d_M_con_74 (by decide) ?_
                refine G_goto 79 d_M_con_75 (by decide) ?_
                refine G_pt d_M_con_79 fp_M_87 (wr_M_thrown K M o 2) ?_
                refine G_aload_n 1 d_M_con_82 rfl ?_
                refine G_gt d_M_con_83 fr_M_87 (rd_M_thrown K (mi M 0 2) o) ?_
                rw [show (mi M 0 2).1 0 = 2 from rfl]
                refine G_ifle 91 d_M_con_86 (by decide) (fun h => absurd h (by decide)) (fun _ => ?_)
                refine G_iconst (v := 0) d_M_con_89 (by decide) ?_
                exact G_iret d_M_con_90 rfl (k2 ⟨h1, u6, h13, h18, Or.inl h23, Or.inl h36⟩ h71)
            · refine G_aload_n 0 d_M_con_39 rfl ?_
              refine G_iload 4 d_M_con_40 rfl ?_
              refine G_cvB (iS M x4) (As := [.int x4]) d_M_con_42 cv_M_93 cw_M_isSort (ob_M K M o) np_M_isSort (Nat.le_of_ble_eq_true rfl) (Nat.le_of_ble_eq_true rfl) (fun post2 k1 k0 => c_M_isSort x4 k1 k0) (fun u42 => ?_) (fun u42 => ?_)
              · refine G_ifeq 52 d_M_con_45 (by decide) (fun h => absurd h (by decide)) (fun _ => ?_)
                refine G_iconst (v := 1) d_M_con_48 (by decide) ?_
                refine G_goto 53 d_M_con_49 (by decide) ?_
                refine G_istore (ls' := [(5, .int 1), (0, .ref 38), (1, .int x1), (2, .int x2), (3, .int x3), (4, .int x4)]) d_M_con_53 (by decide) rfl ?_
                refine G_aload_n 1 d_M_con_55 rfl ?_
                refine G_iload 0 d_M_con_56 rfl ?_
                refine G_ifne 65 d_M_con_58 (by decide) (fun _ => ?_) (fun h => absurd h (by decide))
                refine G_aload_n 1 d_M_con_65 rfl ?_
                refine G_gt d_M_con_66 fr_M_97 (rd_M_cons K M o) ?_
                rw [show M.1 2 = nI (mC M) from hC.1]
                refine G_bipush (v := nI 30) d_M_con_69 (by decide) ?_
                refine G_icne 78 d_M_con_71 (by decide) (fun h71 => ?_) (fun h71 => ?_)
                · have h71 := (nI_ne (by omega) (by omega)).mp h71
                  refine G_iconst (v := 0) d_M_con_78 (by decide) ?_
                  refine G_pt d_M_con_79 fp_M_87 (wr_M_thrown K M o 0) ?_
                  refine G_aload_n 1 d_M_con_82 rfl ?_
                  refine G_gt d_M_con_83 fr_M_87 (rd_M_thrown K (mi M 0 0) o) ?_
                  rw [show (mi M 0 0).1 0 = 0 from rfl]
                  refine G_ifle 91 d_M_con_86 (by decide) (fun _ => ?_) (fun h => absurd h (by decide))
                  refine G_aload_n 1 d_M_con_91 rfl ?_
                  refine G_gt d_M_con_92 fr_M_13 (rd_M_conSort K (mi M 0 0) o) ?_
                  refine G_aload_n 1 d_M_con_95 rfl ?_
                  refine G_gt d_M_con_96 fr_M_97 (rd_M_cons K (mi M 0 0) o) ?_
                  rw [show (mi M 0 0).1 2 = nI (mC M) from hC.1]
                  refine G_iload_n 2 d_M_con_99 rfl ?_
                  refine G_iasN d_M_con_100 (ar_39 K (mi M 0 0) o) (by decide) (by omega) (aw_39 K (mi M 0 0) o (mC M) x1) ?_
                  refine G_aload_n 1 d_M_con_101 rfl ?_
                  refine G_gt d_M_con_102 fr_M_17 (rd_M_conParts K (ma (mi M 0 0) 39 (mC M) x1) o) ?_
                  refine G_aload_n 1 d_M_con_105 rfl ?_
                  refine G_gt d_M_con_106 fr_M_97 (rd_M_cons K (ma (mi M 0 0) 39 (mC M) x1) o) ?_
                  rw [show (ma (mi M 0 0) 39 (mC M) x1).1 2 = nI (mC M) from hC.1]
                  refine G_iload_n 3 d_M_con_109 rfl ?_
                  refine G_iasN d_M_con_110 (ar_40 K (ma (mi M 0 0) 39 (mC M) x1) o) (by decide) (by omega) (aw_40 K (ma (mi M 0 0) 39 (mC M) x1) o (mC M) x2) ?_
                  refine G_aload_n 1 d_M_con_111 rfl ?_
                  refine G_gt d_M_con_112 fr_M_20 (rd_M_conFirst K (ma (ma (mi M 0 0) 39 (mC M) x1) 40 (mC M) x2) o) ?_
                  refine G_aload_n 1 d_M_con_115 rfl ?_
                  refine G_gt d_M_con_116 fr_M_97 (rd_M_cons K (ma (ma (mi M 0 0) 39 (mC M) x1) 40 (mC M) x2) o) ?_
                  rw [show (ma (ma (mi M 0 0) 39 (mC M) x1) 40 (mC M) x2).1 2 = nI (mC M) from hC.1]
                  refine G_iload_n 4 d_M_con_119 rfl ?_
                  refine G_iasN d_M_con_120 (ar_41 K (ma (ma (mi M 0 0) 39 (mC M) x1) 40 (mC M) x2) o) (by decide) (by omega) (aw_41 K (ma (ma (mi M 0 0) 39 (mC M) x1) 40 (mC M) x2) o (mC M) x3) ?_
                  refine G_aload_n 1 d_M_con_121 rfl ?_
                  refine G_gt d_M_con_122 fr_M_23 (rd_M_conSecond K (ma (ma (ma (mi M 0 0) 39 (mC M) x1) 40 (mC M) x2) 41 (mC M) x3) o) ?_
                  refine G_aload_n 1 d_M_con_125 rfl ?_
                  refine G_gt d_M_con_126 fr_M_97 (rd_M_cons K (ma (ma (ma (mi M 0 0) 39 (mC M) x1) 40 (mC M) x2) 41 (mC M) x3) o) ?_
                  rw [show (ma (ma (ma (mi M 0 0) 39 (mC M) x1) 40 (mC M) x2) 41 (mC M) x3).1 2 = nI (mC M) from hC.1]
                  refine G_iload 5 d_M_con_129 rfl ?_
                  refine G_iasN d_M_con_131 (ar_42 K (ma (ma (ma (mi M 0 0) 39 (mC M) x1) 40 (mC M) x2) 41 (mC M) x3) o) (by decide) (by omega) (aw_42 K (ma (ma (ma (mi M 0 0) 39 (mC M) x1) 40 (mC M) x2) 41 (mC M) x3) o (mC M) x4) ?_
                  refine G_aload_n 1 d_M_con_132 rfl ?_
                  refine G_dup d_M_con_133 rfl ?_
                  refine G_gt d_M_con_134 fr_M_97 (rd_M_cons K (ma (ma (ma (ma (mi M 0 0) 39 (mC M) x1) 40 (mC M) x2) 41 (mC M) x3) 42 (mC M) x4) o) ?_
                  rw [show (ma (ma (ma (ma (mi M 0 0) 39 (mC M) x1) 40 (mC M) x2) 41 (mC M) x3) 42 (mC M) x4).1 2 = nI (mC M) from hC.1]
                  refine G_iconst (v := 1) d_M_con_137 (by decide) ?_
                  refine G_iadd d_M_con_138 ?_
                  rw [nI_1]
                  refine G_pt d_M_con_139 fp_M_97 (wr_M_cons K (ma (ma (ma (ma (mi M 0 0) 39 (mC M) x1) 40 (mC M) x2) 41 (mC M) x3) 42 (mC M) x4) o (nI (mC M + 1))) ?_
                  refine G_aload_n 1 d_M_con_142 rfl ?_
                  refine G_gt d_M_con_143 fr_M_97 (rd_M_cons K (mi (ma (ma (ma (ma (mi M 0 0) 39 (mC M) x1) 40 (mC M) x2) 41 (mC M) x3) 42 (mC M) x4) 2 (nI (mC M + 1))) o) ?_
                  rw [show (mi (ma (ma (ma (ma (mi M 0 0) 39 (mC M) x1) 40 (mC M) x2) 41 (mC M) x3) 42 (mC M) x4) 2 (nI (mC M + 1))).1 2 = nI (mC M + 1) from rfl]
                  refine G_iconst (v := 1) d_M_con_146 (by decide) ?_
                  refine G_isub d_M_con_147 ?_
                  rw [nI_pred]
                  exact G_iret d_M_con_148 rfl (k0 ⟨h1, u6, h13, h18, Or.inl h23, Or.inr u42⟩ h71)
                · have h71 := (nI_eq (by omega) (by omega)).mp h71
                  refine G_iconst (v := 2) d_M_con_74 (by decide) ?_
                  refine G_goto 79 d_M_con_75 (by decide) ?_
                  refine G_pt d_M_con_79 fp_M_87 (wr_M_thrown K M o 2) ?_
                  refine G_aload_n 1 d_M_con_82 rfl ?_
                  refine G_gt d_M_con_83 fr_M_87 (rd_M_thrown K (mi M 0 2) o) ?_
                  rw [show (mi M 0 2).1 0 = 2 from rfl]
                  refine G_ifle 91 d_M_con_86 (by decide) (fun h => absurd h (by decide)) (fun _ => ?_)
                  refine G_iconst (v := 0) d_M_con_89 (by decide) ?_
                  exact G_iret d_M_con_90 rfl (k2 ⟨h1, u6, h13, h18, Or.inl h23, Or.inr u42⟩ h71)
              · refine G_ifeq 52 d_M_con_45 (by decide) (fun _ => ?_) (fun h => absurd h (by decide))
                refine G_iconst (v := 0) d_M_con_52 (by decide) ?_
                refine G_istore (ls' := [(5, .int 0), (0, .ref 38), (1, .int x1), (2, .int x2), (3, .int x3), (4, .int x4)]) d_M_con_53 (by decide) rfl ?_
                refine G_aload_n 1 d_M_con_55 rfl ?_
                refine G_iload 0 d_M_con_56 rfl ?_
                refine G_ifne 65 d_M_con_58 (by decide) (fun h => absurd h (by decide)) (fun _ => ?_)
                refine G_iconst (v := 1) d_M_con_61 (by decide) ?_
                refine G_goto 79 d_M_con_62 (by decide) ?_
                refine G_pt d_M_con_79 fp_M_87 (wr_M_thrown K M o 1) ?_
                refine G_aload_n 1 d_M_con_82 rfl ?_
                refine G_gt d_M_con_83 fr_M_87 (rd_M_thrown K (mi M 0 1) o) ?_
                rw [show (mi M 0 1).1 0 = 1 from rfl]
                refine G_ifle 91 d_M_con_86 (by decide) (fun h => absurd h (by decide)) (fun _ => ?_)
                refine G_iconst (v := 0) d_M_con_89 (by decide) ?_
                exact G_iret d_M_con_90 rfl (k1 (fun z => z.2.2.2.2.2.elim h36 u42))
          · refine G_aload_n 0 d_M_con_26 rfl ?_
            refine G_iload_n 3 d_M_con_27 rfl ?_
            refine G_cvB (iS M x3) (As := [.int x3]) d_M_con_28 cv_M_93 cw_M_isSort (ob_M K M o) np_M_isSort (Nat.le_of_ble_eq_true rfl) (Nat.le_of_ble_eq_true rfl) (fun post2 k1 k0 => c_M_isSort x3 k1 k0) (fun u28 => ?_) (fun u28 => ?_)
            · refine G_ifeq 52 d_M_con_31 (by decide) (fun h => absurd h (by decide)) (fun _ => ?_)
              refine G_iload_n 2 d_M_con_34 rfl ?_
              refine G_iconst (v := 2) d_M_con_35 (by decide) ?_
              refine G_iclt 48 d_M_con_36 (by decide) (fun h36 => ?_) (fun h36 => ?_)
              · refine G_iconst (v := 1) d_M_con_48 (by decide) ?_
                refine G_goto 53 d_M_con_49 (by decide) ?_
                refine G_istore (ls' := [(5, .int 1), (0, .ref 38), (1, .int x1), (2, .int x2), (3, .int x3), (4, .int x4)]) d_M_con_53 (by decide) rfl ?_
                refine G_aload_n 1 d_M_con_55 rfl ?_
                refine G_iload 0 d_M_con_56 rfl ?_
                refine G_ifne 65 d_M_con_58 (by decide) (fun _ => ?_) (fun h => absurd h (by decide))
                refine G_aload_n 1 d_M_con_65 rfl ?_
                refine G_gt d_M_con_66 fr_M_97 (rd_M_cons K M o) ?_
                rw [show M.1 2 = nI (mC M) from hC.1]
                refine G_bipush (v := nI 30) d_M_con_69 (by decide) ?_
                refine G_icne 78 d_M_con_71 (by decide) (fun h71 => ?_) (fun h71 => ?_)
                · have h71 := (nI_ne (by omega) (by omega)).mp h71
                  refine G_iconst (v := 0) d_M_con_78 (by decide) ?_
                  refine G_pt d_M_con_79 fp_M_87 (wr_M_thrown K M o 0) ?_
                  refine G_aload_n 1 d_M_con_82 rfl ?_
                  refine G_gt d_M_con_83 fr_M_87 (rd_M_thrown K (mi M 0 0) o) ?_
                  rw [show (mi M 0 0).1 0 = 0 from rfl]
                  refine G_ifle 91 d_M_con_86 (by decide) (fun _ => ?_) (fun h => absurd h (by decide))
                  refine G_aload_n 1 d_M_con_91 rfl ?_
                  refine G_gt d_M_con_92 fr_M_13 (rd_M_conSort K (mi M 0 0) o) ?_
                  refine G_aload_n 1 d_M_con_95 rfl ?_
                  refine G_gt d_M_con_96 fr_M_97 (rd_M_cons K (mi M 0 0) o) ?_
                  rw [show (mi M 0 0).1 2 = nI (mC M) from hC.1]
                  refine G_iload_n 2 d_M_con_99 rfl ?_
                  refine G_iasN d_M_con_100 (ar_39 K (mi M 0 0) o) (by decide) (by omega) (aw_39 K (mi M 0 0) o (mC M) x1) ?_
                  refine G_aload_n 1 d_M_con_101 rfl ?_
                  refine G_gt d_M_con_102 fr_M_17 (rd_M_conParts K (ma (mi M 0 0) 39 (mC M) x1) o) ?_
                  refine G_aload_n 1 d_M_con_105 rfl ?_
                  refine G_gt d_M_con_106 fr_M_97 (rd_M_cons K (ma (mi M 0 0) 39 (mC M) x1) o) ?_
                  rw [show (ma (mi M 0 0) 39 (mC M) x1).1 2 = nI (mC M) from hC.1]
                  refine G_iload_n 3 d_M_con_109 rfl ?_
                  refine G_iasN d_M_con_110 (ar_40 K (ma (mi M 0 0) 39 (mC M) x1) o) (by decide) (by omega) (aw_40 K (ma (mi M 0 0) 39 (mC M) x1) o (mC M) x2) ?_
                  refine G_aload_n 1 d_M_con_111 rfl ?_
                  refine G_gt d_M_con_112 fr_M_20 (rd_M_conFirst K (ma (ma (mi M 0 0) 39 (mC M) x1) 40 (mC M) x2) o) ?_
                  refine G_aload_n 1 d_M_con_115 rfl ?_
                  refine G_gt d_M_con_116 fr_M_97 (rd_M_cons K (ma (ma (mi M 0 0) 39 (mC M) x1) 40 (mC M) x2) o) ?_
                  rw [show (ma (ma (mi M 0 0) 39 (mC M) x1) 40 (mC M) x2).1 2 = nI (mC M) from hC.1]
                  refine G_iload_n 4 d_M_con_119 rfl ?_
                  refine G_iasN d_M_con_120 (ar_41 K (ma (ma (mi M 0 0) 39 (mC M) x1) 40 (mC M) x2) o) (by decide) (by omega) (aw_41 K (ma (ma (mi M 0 0) 39 (mC M) x1) 40 (mC M) x2) o (mC M) x3) ?_
                  refine G_aload_n 1 d_M_con_121 rfl ?_
                  refine G_gt d_M_con_122 fr_M_23 (rd_M_conSecond K (ma (ma (ma (mi M 0 0) 39 (mC M) x1) 40 (mC M) x2) 41 (mC M) x3) o) ?_
                  refine G_aload_n 1 d_M_con_125 rfl ?_
                  refine G_gt d_M_con_126 fr_M_97 (rd_M_cons K (ma (ma (ma (mi M 0 0) 39 (mC M) x1) 40 (mC M) x2) 41 (mC M) x3) o) ?_
                  rw [show (ma (ma (ma (mi M 0 0) 39 (mC M) x1) 40 (mC M) x2) 41 (mC M) x3).1 2 = nI (mC M) from hC.1]
                  refine G_iload 5 d_M_con_129 rfl ?_
                  refine G_iasN d_M_con_131 (ar_42 K (ma (ma (ma (mi M 0 0) 39 (mC M) x1) 40 (mC M) x2) 41 (mC M) x3) o) (by decide) (by omega) (aw_42 K (ma (ma (ma (mi M 0 0) 39 (mC M) x1) 40 (mC M) x2) 41 (mC M) x3) o (mC M) x4) ?_
                  refine G_aload_n 1 d_M_con_132 rfl ?_
                  refine G_dup d_M_con_133 rfl ?_
                  refine G_gt d_M_con_134 fr_M_97 (rd_M_cons K (ma (ma (ma (ma (mi M 0 0) 39 (mC M) x1) 40 (mC M) x2) 41 (mC M) x3) 42 (mC M) x4) o) ?_
                  rw [show (ma (ma (ma (ma (mi M 0 0) 39 (mC M) x1) 40 (mC M) x2) 41 (mC M) x3) 42 (mC M) x4).1 2 = nI (mC M) from hC.1]
                  refine G_iconst (v := 1) d_M_con_137 (by decide) ?_
                  refine G_iadd d_M_con_138 ?_
                  rw [nI_1]
                  refine G_pt d_M_con_139 fp_M_97 (wr_M_cons K (ma (ma (ma (ma (mi M 0 0) 39 (mC M) x1) 40 (mC M) x2) 41 (mC M) x3) 42 (mC M) x4) o (nI (mC M + 1))) ?_
                  refine G_aload_n 1 d_M_con_142 rfl ?_
                  refine G_gt d_M_con_143 fr_M_97 (rd_M_cons K (mi (ma (ma (ma (ma (mi M 0 0) 39 (mC M) x1) 40 (mC M) x2) 41 (mC M) x3) 42 (mC M) x4) 2 (nI (mC M + 1))) o) ?_
                  rw [show (mi (ma (ma (ma (ma (mi M 0 0) 39 (mC M) x1) 40 (mC M) x2) 41 (mC M) x3) 42 (mC M) x4) 2 (nI (mC M + 1))).1 2 = nI (mC M + 1) from rfl]
                  refine G_iconst (v := 1) d_M_con_146 (by decide) ?_
                  refine G_isub d_M_con_147 ?_
                  rw [nI_pred]
                  exact G_iret d_M_con_148 rfl (k0 ⟨h1, u6, h13, h18, Or.inr u28, Or.inl h36⟩ h71)
                · have h71 := (nI_eq (by omega) (by omega)).mp h71
                  refine G_iconst (v := 2) d_M_con_74 (by decide) ?_
                  refine G_goto 79 d_M_con_75 (by decide) ?_
                  refine G_pt d_M_con_79 fp_M_87 (wr_M_thrown K M o 2) ?_
                  refine G_aload_n 1 d_M_con_82 rfl ?_
                  refine G_gt d_M_con_83 fr_M_87 (rd_M_thrown K (mi M 0 2) o) ?_
                  rw [show (mi M 0 2).1 0 = 2 from rfl]
                  refine G_ifle 91 d_M_con_86 (by decide) (fun h => absurd h (by decide)) (fun _ => ?_)
                  refine G_iconst (v := 0) d_M_con_89 (by decide) ?_
                  exact G_iret d_M_con_90 rfl (k2 ⟨h1, u6, h13, h18, Or.inr u28, Or.inl h36⟩ h71)
              · refine G_aload_n 0 d_M_con_39 rfl ?_
                refine G_iload 4 d_M_con_40 rfl ?_
                refine G_cvB (iS M x4) (As := [.int x4]) d_M_con_42 cv_M_93 cw_M_isSort (ob_M K M o) np_M_isSort (Nat.le_of_ble_eq_true rfl) (Nat.le_of_ble_eq_true rfl) (fun post2 k1 k0 => c_M_isSort x4 k1 k0) (fun u42 => ?_) (fun u42 => ?_)
                · refine G_ifeq 52 d_M_con_45 (by decide) (fun h => absurd h (by decide)) (fun _ => ?_)
                  refine G_iconst (v := 1) d_M_con_48 (by decide) ?_
                  refine G_goto 53 d_M_con_49 (by decide) ?_
                  refine G_istore (ls' := [(5, .int 1), (0, .ref 38), (1, .int x1), (2, .int x2), (3, .int x3), (4, .int x4)]) d_M_con_53 (by decide) rfl ?_
                  refine G_aload_n 1 d_M_con_55 rfl ?_
                  refine G_iload 0 d_M_con_56 rfl ?_
                  refine G_ifne 65 d_M_con_58 (by decide) (fun _ => ?_) (fun h => absurd h (by decide))
                  refine G_aload_n 1 d_M_con_65 rfl ?_
                  refine G_gt d_M_con_66 fr_M_97 (rd_M_cons K M o) ?_
                  rw [show M.1 2 = nI (mC M) from hC.1]
                  refine G_bipush (v := nI 30) d_M_con_69 (by decide) ?_
                  refine G_icne 78 d_M_con_71 (by decide) (fun h71 => ?_) (fun h71 => ?_)
                  · have h71 := (nI_ne (by omega) (by omega)).mp h71
                    refine G_iconst (v := 0) d_M_con_78 (by decide) ?_
                    refine G_pt d_M_con_79 fp_M_87 (wr_M_thrown K M o 0) ?_
                    refine G_aload_n 1 d_M_con_82 rfl ?_
                    refine G_gt d_M_con_83 fr_M_87 (rd_M_thrown K (mi M 0 0) o) ?_
                    rw [show (mi M 0 0).1 0 = 0 from rfl]
                    refine G_ifle 91 d_M_con_86 (by decide) (fun _ => ?_) (fun h => absurd h (by decide))
                    refine G_aload_n 1 d_M_con_91 rfl ?_
                    refine G_gt d_M_con_92 fr_M_13 (rd_M_conSort K (mi M 0 0) o) ?_
                    refine G_aload_n 1 d_M_con_95 rfl ?_
                    refine G_gt d_M_con_96 fr_M_97 (rd_M_cons K (mi M 0 0) o) ?_
                    rw [show (mi M 0 0).1 2 = nI (mC M) from hC.1]
                    refine G_iload_n 2 d_M_con_99 rfl ?_
                    refine G_iasN d_M_con_100 (ar_39 K (mi M 0 0) o) (by decide) (by omega) (aw_39 K (mi M 0 0) o (mC M) x1) ?_
                    refine G_aload_n 1 d_M_con_101 rfl ?_
                    refine G_gt d_M_con_102 fr_M_17 (rd_M_conParts K (ma (mi M 0 0) 39 (mC M) x1) o) ?_
                    refine G_aload_n 1 d_M_con_105 rfl ?_
                    refine G_gt d_M_con_106 fr_M_97 (rd_M_cons K (ma (mi M 0 0) 39 (mC M) x1) o) ?_
                    rw [show (ma (mi M 0 0) 39 (mC M) x1).1 2 = nI (mC M) from hC.1]
                    refine G_iload_n 3 d_M_con_109 rfl ?_
                    refine G_iasN d_M_con_110 (ar_40 K (ma (mi M 0 0) 39 (mC M) x1) o) (by decide) (by omega) (aw_40 K (ma (mi M 0 0) 39 (mC M) x1) o (mC M) x2) ?_
                    refine G_aload_n 1 d_M_con_111 rfl ?_
                    refine G_gt d_M_con_112 fr_M_20 (rd_M_conFirst K (ma (ma (mi M 0 0) 39 (mC M) x1) 40 (mC M) x2) o) ?_
                    refine G_aload_n 1 d_M_con_115 rfl ?_
                    refine G_gt d_M_con_116 fr_M_97 (rd_M_cons K (ma (ma (mi M 0 0) 39 (mC M) x1) 40 (mC M) x2) o) ?_
                    rw [show (ma (ma (mi M 0 0) 39 (mC M) x1) 40 (mC M) x2).1 2 = nI (mC M) from hC.1]
                    refine G_iload_n 4 d_M_con_119 rfl ?_
                    refine G_iasN d_M_con_120 (ar_41 K (ma (ma (mi M 0 0) 39 (mC M) x1) 40 (mC M) x2) o) (by decide) (by omega) (aw_41 K (ma (ma (mi M 0 0) 39 (mC M) x1) 40 (mC M) x2) o (mC M) x3) ?_
                    refine G_aload_n 1 d_M_con_121 rfl ?_
                    refine G_gt d_M_con_122 fr_M_23 (rd_M_conSecond K (ma (ma (ma (mi M 0 0) 39 (mC M) x1) 40 (mC M) x2) 41 (mC M) x3) o) ?_
                    refine G_aload_n 1 d_M_con_125 rfl ?_
                    refine G_gt d_M_con_126 fr_M_97 (rd_M_cons K (ma (ma (ma (mi M 0 0) 39 (mC M) x1) 40 (mC M) x2) 41 (mC M) x3) o) ?_
                    rw [show (ma (ma (ma (mi M 0 0) 39 (mC M) x1) 40 (mC M) x2) 41 (mC M) x3).1 2 = nI (mC M) from hC.1]
                    refine G_iload 5 d_M_con_129 rfl ?_
                    refine G_iasN d_M_con_131 (ar_42 K (ma (ma (ma (mi M 0 0) 39 (mC M) x1) 40 (mC M) x2) 41 (mC M) x3) o) (by decide) (by omega) (aw_42 K (ma (ma (ma (mi M 0 0) 39 (mC M) x1) 40 (mC M) x2) 41 (mC M) x3) o (mC M) x4) ?_
                    refine G_aload_n 1 d_M_con_132 rfl ?_
                    refine G_dup d_M_con_133 rfl ?_
                    refine G_gt d_M_con_134 fr_M_97 (rd_M_cons K (ma (ma (ma (ma (mi M 0 0) 39 (mC M) x1) 40 (mC M) x2) 41 (mC M) x3) 42 (mC M) x4) o) ?_
                    rw [show (ma (ma (ma (ma (mi M 0 0) 39 (mC M) x1) 40 (mC M) x2) 41 (mC M) x3) 42 (mC M) x4).1 2 = nI (mC M) from hC.1]
                    refine G_iconst (v := 1) d_M_con_137 (by decide) ?_
                    refine G_iadd d_M_con_138 ?_
                    rw [nI_1]
                    refine G_pt d_M_con_139 fp_M_97 (wr_M_cons K (ma (ma (ma (ma (mi M 0 0) 39 (mC M) x1) 40 (mC M) x2) 41 (mC M) x3) 42 (mC M) x4) o (nI (mC M + 1))) ?_
                    refine G_aload_n 1 d_M_con_142 rfl ?_
                    refine G_gt d_M_con_143 fr_M_97 (rd_M_cons K (mi (ma (ma (ma (ma (mi M 0 0) 39 (mC M) x1) 40 (mC M) x2) 41 (mC M) x3) 42 (mC M) x4) 2 (nI (mC M + 1))) o) ?_
                    rw [show (mi (ma (ma (ma (ma (mi M 0 0) 39 (mC M) x1) 40 (mC M) x2) 41 (mC M) x3) 42 (mC M) x4) 2 (nI (mC M + 1))).1 2 = nI (mC M + 1) from rfl]
                    refine G_iconst (v := 1) d_M_con_146 (by decide) ?_
                    refine G_isub d_M_con_147 ?_
                    rw [nI_pred]
                    exact G_iret d_M_con_148 rfl (k0 ⟨h1, u6, h13, h18, Or.inr u28, Or.inr u42⟩ h71)
                  · have h71 := (nI_eq (by omega) (by omega)).mp h71
                    refine G_iconst (v := 2) d_M_con_74 (by decide) ?_
                    refine G_goto 79 d_M_con_75 (by decide) ?_
                    refine G_pt d_M_con_79 fp_M_87 (wr_M_thrown K M o 2) ?_
                    refine G_aload_n 1 d_M_con_82 rfl ?_
                    refine G_gt d_M_con_83 fr_M_87 (rd_M_thrown K (mi M 0 2) o) ?_
                    rw [show (mi M 0 2).1 0 = 2 from rfl]
                    refine G_ifle 91 d_M_con_86 (by decide) (fun h => absurd h (by decide)) (fun _ => ?_)
                    refine G_iconst (v := 0) d_M_con_89 (by decide) ?_
                    exact G_iret d_M_con_90 rfl (k2 ⟨h1, u6, h13, h18, Or.inr u28, Or.inr u42⟩ h71)
                · refine G_ifeq 52 d_M_con_45 (by decide) (fun _ => ?_) (fun h => absurd h (by decide))
                  refine G_iconst (v := 0) d_M_con_52 (by decide) ?_
                  refine G_istore (ls' := [(5, .int 0), (0, .ref 38), (1, .int x1), (2, .int x2), (3, .int x3), (4, .int x4)]) d_M_con_53 (by decide) rfl ?_
                  refine G_aload_n 1 d_M_con_55 rfl ?_
                  refine G_iload 0 d_M_con_56 rfl ?_
                  refine G_ifne 65 d_M_con_58 (by decide) (fun h => absurd h (by decide)) (fun _ => ?_)
                  refine G_iconst (v := 1) d_M_con_61 (by decide) ?_
                  refine G_goto 79 d_M_con_62 (by decide) ?_
                  refine G_pt d_M_con_79 fp_M_87 (wr_M_thrown K M o 1) ?_
                  refine G_aload_n 1 d_M_con_82 rfl ?_
                  refine G_gt d_M_con_83 fr_M_87 (rd_M_thrown K (mi M 0 1) o) ?_
                  rw [show (mi M 0 1).1 0 = 1 from rfl]
                  refine G_ifle 91 d_M_con_86 (by decide) (fun h => absurd h (by decide)) (fun _ => ?_)
                  refine G_iconst (v := 0) d_M_con_89 (by decide) ?_
                  exact G_iret d_M_con_90 rfl (k1 (fun z => z.2.2.2.2.2.elim h36 u42))
            · refine G_ifeq 52 d_M_con_31 (by decide) (fun _ => ?_) (fun h => absurd h (by decide))
              refine G_iconst (v := 0) d_M_con_52 (by decide) ?_
              refine G_istore (ls' := [(5, .int 0), (0, .ref 38), (1, .int x1), (2, .int x2), (3, .int x3), (4, .int x4)]) d_M_con_53 (by decide) rfl ?_
              refine G_aload_n 1 d_M_con_55 rfl ?_
              refine G_iload 0 d_M_con_56 rfl ?_
              refine G_ifne 65 d_M_con_58 (by decide) (fun h => absurd h (by decide)) (fun _ => ?_)
              refine G_iconst (v := 1) d_M_con_61 (by decide) ?_
              refine G_goto 79 d_M_con_62 (by decide) ?_
              refine G_pt d_M_con_79 fp_M_87 (wr_M_thrown K M o 1) ?_
              refine G_aload_n 1 d_M_con_82 rfl ?_
              refine G_gt d_M_con_83 fr_M_87 (rd_M_thrown K (mi M 0 1) o) ?_
              rw [show (mi M 0 1).1 0 = 1 from rfl]
              refine G_ifle 91 d_M_con_86 (by decide) (fun h => absurd h (by decide)) (fun _ => ?_)
              refine G_iconst (v := 0) d_M_con_89 (by decide) ?_
              exact G_iret d_M_con_90 rfl (k1 (fun z => z.2.2.2.2.1.elim h23 u28))
    · refine G_ifeq 52 d_M_con_9 (by decide) (fun _ => ?_) (fun h => absurd h (by decide))
      refine G_iconst (v := 0) d_M_con_52 (by decide) ?_
      refine G_istore (ls' := [(5, .int 0), (0, .ref 38), (1, .int x1), (2, .int x2), (3, .int x3), (4, .int x4)]) d_M_con_53 (by decide) rfl ?_
      refine G_aload_n 1 d_M_con_55 rfl ?_
      refine G_iload 0 d_M_con_56 rfl ?_
      refine G_ifne 65 d_M_con_58 (by decide) (fun h => absurd h (by decide)) (fun _ => ?_)
      refine G_iconst (v := 1) d_M_con_61 (by decide) ?_
      refine G_goto 79 d_M_con_62 (by decide) ?_
      refine G_pt d_M_con_79 fp_M_87 (wr_M_thrown K M o 1) ?_
      refine G_aload_n 1 d_M_con_82 rfl ?_
      refine G_gt d_M_con_83 fr_M_87 (rd_M_thrown K (mi M 0 1) o) ?_
      rw [show (mi M 0 1).1 0 = 1 from rfl]
      refine G_ifle 91 d_M_con_86 (by decide) (fun h => absurd h (by decide)) (fun _ => ?_)
      refine G_iconst (v := 0) d_M_con_89 (by decide) ?_
      exact G_iret d_M_con_90 rfl (k1 (fun z => u6 z.2.1))
