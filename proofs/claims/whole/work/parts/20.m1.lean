/-! the reference's tables, read as numbers -/
abbrev mS (M : MC) : Nat := (M.1 1).toNatClampNeg
abbrev mC (M : MC) : Nat := (M.1 2).toNatClampNeg
abbrev mP (M : MC) : Nat := (M.1 3).toNatClampNeg
abbrev cS (M : MC) (j : Nat) : Nat := (M.2 39 j).toNatClampNeg
abbrev cP (M : MC) (j : Nat) : Nat := (M.2 40 j).toNatClampNeg
abbrev cF (M : MC) (j : Nat) : Nat := (M.2 41 j).toNatClampNeg
abbrev cG (M : MC) (j : Nat) : Nat := (M.2 42 j).toNatClampNeg
def wfS (M : MC) : Prop := M.1 1 = nI (mS M) ∧ 1 ≤ mS M ∧ mS M ≤ 12
def wfC (M : MC) : Prop := M.1 2 = nI (mC M) ∧ mC M ≤ 30 ∧ ∀ j, j < mC M → (M.2 39 j = nI (cS M j) ∧ 1 ≤ cS M j ∧ cS M j < mS M) ∧ (M.2 40 j = nI (cP M j) ∧ cP M j ≤ 2) ∧ (1 ≤ cP M j → M.2 41 j = nI (cF M j) ∧ cF M j < mS M) ∧ (2 ≤ cP M j → M.2 42 j = nI (cG M j) ∧ cG M j < mS M)
def usd (M : MC) (j : Nat) : Prop := (1 ≤ cP M j → M.2 50 (cF M j) ≠ 0) ∧ (2 ≤ cP M j → M.2 50 (cG M j) ≠ 0)

set_option maxHeartbeats 4000000 in
set_option maxRecDepth 100000 in
theorem c_M_isSort {d : Nat} {K : KC} {M : MC} {o : Nat → Int64} {nc ns : Nat} (x : Int32) {post : mj_O → mj_H → Prop} (k1 : 0 ≤ x ∧ x < M.1 1 → post (.inl (some (.int 1))) (hp K M o, nc, ns)) (k0 : ¬ (0 ≤ x ∧ x < M.1 1) → post (.inl (some (.int 0))) (hp K M o, nc, ns)) : mj_G y_M_isSort b_M_isSort 2 (some .boolean) [] d none 0 [(0, .ref 38), (1, .int x)] [] (hp K M o, nc, ns) post := by
  refine G_iload_n 1 d_M_isSort_0 rfl ?_
  refine G_iflt 16 d_M_isSort_1 (by decide) (fun h1 => ?_) (fun h1 => ?_)
  · refine G_iconst (v := 0) d_M_isSort_16 (by decide) ?_
    exact G_zret d_M_isSort_17 rfl rfl (k0 (fun z => absurd h1 (Int32.not_lt.mpr z.1)))
  · refine G_iload_n 1 d_M_isSort_4 rfl ?_
    refine G_aload_n 0 d_M_isSort_5 rfl ?_
    refine G_gt d_M_isSort_6 fr_M_7 (rd_M_sorts K M o) ?_
    refine G_icge 16 d_M_isSort_9 (by decide) (fun h9 => ?_) (fun h9 => ?_)
    · refine G_iconst (v := 0) d_M_isSort_16 (by decide) ?_
      exact G_zret d_M_isSort_17 rfl rfl (k0 (fun z => absurd z.2 (Int32.not_lt.mpr h9)))
    · refine G_iconst (v := 1) d_M_isSort_12 (by decide) ?_
      refine G_goto 17 d_M_isSort_13 (by decide) ?_
      exact G_zret d_M_isSort_17 rfl rfl (k1 ⟨Int32.not_lt.mp h1, Int32.not_le.mp h9⟩)
set_option maxHeartbeats 4000000 in
set_option maxRecDepth 100000 in
theorem c_M_isPattern {d : Nat} {K : KC} {M : MC} {o : Nat → Int64} {nc ns : Nat} (x : Int32) {post : mj_O → mj_H → Prop} (k1 : 0 ≤ x ∧ x < M.1 3 → post (.inl (some (.int 1))) (hp K M o, nc, ns)) (k0 : ¬ (0 ≤ x ∧ x < M.1 3) → post (.inl (some (.int 0))) (hp K M o, nc, ns)) : mj_G y_M_isPattern b_M_isPattern 2 (some .boolean) [] d none 0 [(0, .ref 38), (1, .int x)] [] (hp K M o, nc, ns) post := by
  refine G_iload_n 1 d_M_isPattern_0 rfl ?_
  refine G_iflt 16 d_M_isPattern_1 (by decide) (fun h1 => ?_) (fun h1 => ?_)
  · refine G_iconst (v := 0) d_M_isPattern_16 (by decide) ?_
    exact G_zret d_M_isPattern_17 rfl rfl (k0 (fun z => absurd h1 (Int32.not_lt.mpr z.1)))
  · refine G_iload_n 1 d_M_isPattern_4 rfl ?_
    refine G_aload_n 0 d_M_isPattern_5 rfl ?_
    refine G_gt d_M_isPattern_6 fr_M_90 (rd_M_patterns K M o) ?_
    refine G_icge 16 d_M_isPattern_9 (by decide) (fun h9 => ?_) (fun h9 => ?_)
    · refine G_iconst (v := 0) d_M_isPattern_16 (by decide) ?_
      exact G_zret d_M_isPattern_17 rfl rfl (k0 (fun z => absurd z.2 (Int32.not_lt.mpr h9)))
    · refine G_iconst (v := 1) d_M_isPattern_12 (by decide) ?_
      refine G_goto 17 d_M_isPattern_13 (by decide) ?_
      exact G_zret d_M_isPattern_17 rfl rfl (k1 ⟨Int32.not_lt.mp h1, Int32.not_le.mp h9⟩)
set_option maxHeartbeats 4000000 in
set_option maxRecDepth 100000 in
theorem c_M_isUsed {d : Nat} {K : KC} {M : MC} {o : Nat → Int64} {nc ns : Nat} (j : Nat) (hS : wfS M) (hC : wfC M) (hj : j < mC M) {post : mj_O → mj_H → Prop} (k1 : usd M j → post (.inl (some (.int 1))) (hp K M o, nc, ns)) (k0 : ¬ usd M j → post (.inl (some (.int 0))) (hp K M o, nc, ns)) : mj_G y_M_isUsed b_M_isUsed 2 (some .boolean) [] d none 0 [(0, .ref 38), (1, .int (nI j))] [] (hp K M o, nc, ns) post := by
  obtain ⟨-, q1, q2⟩ := hS
  obtain ⟨-, q3, q4⟩ := hC
  obtain ⟨-, ⟨e40, b40⟩, hF, hG⟩ := q4 j hj
  have hj30 : j < 30 := by omega
  refine G_aload_n 0 d_M_isUsed_0 rfl ?_
  refine G_gt d_M_isUsed_1 fr_M_17 (rd_M_conParts K M o) ?_
  refine G_iload_n 1 d_M_isUsed_4 rfl ?_
  refine G_ialN d_M_isUsed_5 (ar_40 K M o) (by decide) (by omega) ?_
  rw [e40]
  refine G_iconst (v := nI 1) d_M_isUsed_6 (by decide) ?_
  refine G_iclt 24 d_M_isUsed_7 (by decide) (fun h7 => ?_) (fun h7 => ?_)
  · have h7 := (nI_ltI (by omega) (by omega)).mp h7
    have u1 : 1 ≤ cP M j → M.2 50 (cF M j) ≠ 0 := fun z => absurd z (by omega)
    refine G_aload_n 0 d_M_isUsed_24 rfl ?_
    refine G_gt d_M_isUsed_25 fr_M_17 (rd_M_conParts K M o) ?_
    refine G_iload_n 1 d_M_isUsed_28 rfl ?_
    refine G_ialN d_M_isUsed_29 (ar_40 K M o) (by decide) (by omega) ?_
    rw [e40]
    refine G_iconst (v := nI 2) d_M_isUsed_30 (by decide) ?_
    refine G_iclt 48 d_M_isUsed_31 (by decide) (fun h31 => ?_) (fun h31 => ?_)
    · have h31 := (nI_ltI (by omega) (by omega)).mp h31
      refine G_iconst (v := 1) d_M_isUsed_48 (by decide) ?_
      refine G_goto 53 d_M_isUsed_49 (by decide) ?_
      exact G_zret d_M_isUsed_53 rfl rfl (k1 ⟨u1, fun z => absurd z (by omega)⟩)
    · have h31 : ¬ _ := fun z => h31 ((nI_ltI (by omega) (by omega)).mpr z)
      obtain ⟨e42, b42⟩ := hG (by omega)
      refine G_aload_n 0 d_M_isUsed_34 rfl ?_
      refine G_gt d_M_isUsed_35 fr_M_47 (rd_M_lives K M o) ?_
      refine G_aload_n 0 d_M_isUsed_38 rfl ?_
      refine G_gt d_M_isUsed_39 fr_M_23 (rd_M_conSecond K M o) ?_
      refine G_iload_n 1 d_M_isUsed_42 rfl ?_
      refine G_ialN d_M_isUsed_43 (ar_42 K M o) (by decide) (by omega) ?_
      rw [e42]
      refine G_zalN d_M_isUsed_44 (ar_50 K M o) (by decide) (by omega) ?_
      refine G_ifeq 52 d_M_isUsed_45 (by decide) (fun h45 => ?_) (fun h45 => ?_)
      · refine G_iconst (v := 0) d_M_isUsed_52 (by decide) ?_
        exact G_zret d_M_isUsed_53 rfl rfl (k0 (fun z => z.2 (by omega) h45))
      · refine G_iconst (v := 1) d_M_isUsed_48 (by decide) ?_
        refine G_goto 53 d_M_isUsed_49 (by decide) ?_
        exact G_zret d_M_isUsed_53 rfl rfl (k1 ⟨u1, fun _ => h45⟩)
  · have h7 : ¬ _ := fun z => h7 ((nI_ltI (by omega) (by omega)).mpr z)
    obtain ⟨e41, b41⟩ := hF (by omega)
    refine G_aload_n 0 d_M_isUsed_10 rfl ?_
    refine G_gt d_M_isUsed_11 fr_M_47 (rd_M_lives K M o) ?_
    refine G_aload_n 0 d_M_isUsed_14 rfl ?_
    refine G_gt d_M_isUsed_15 fr_M_20 (rd_M_conFirst K M o) ?_
    refine G_iload_n 1 d_M_isUsed_18 rfl ?_
    refine G_ialN d_M_isUsed_19 (ar_41 K M o) (by decide) (by omega) ?_
    rw [e41]
    refine G_zalN d_M_isUsed_20 (ar_50 K M o) (by decide) (by omega) ?_
    refine G_ifeq 52 d_M_isUsed_21 (by decide) (fun h21 => ?_) (fun h21 => ?_)
    · refine G_iconst (v := 0) d_M_isUsed_52 (by decide) ?_
      exact G_zret d_M_isUsed_53 rfl rfl (k0 (fun z => z.1 (by omega) h21))
    · have u1 : 1 ≤ cP M j → M.2 50 (cF M j) ≠ 0 := fun _ => h21
      refine G_aload_n 0 d_M_isUsed_24 rfl ?_
      refine G_gt d_M_isUsed_25 fr_M_17 (rd_M_conParts K M o) ?_
      refine G_iload_n 1 d_M_isUsed_28 rfl ?_
      refine G_ialN d_M_isUsed_29 (ar_40 K M o) (by decide) (by omega) ?_
      rw [e40]
      refine G_iconst (v := nI 2) d_M_isUsed_30 (by decide) ?_
      refine G_iclt 48 d_M_isUsed_31 (by decide) (fun h31 => ?_) (fun h31 => ?_)
      · have h31 := (nI_ltI (by omega) (by omega)).mp h31
        refine G_iconst (v := 1) d_M_isUsed_48 (by decide) ?_
        refine G_goto 53 d_M_isUsed_49 (by decide) ?_
        exact G_zret d_M_isUsed_53 rfl rfl (k1 ⟨u1, fun z => absurd z (by omega)⟩)
      · have h31 : ¬ _ := fun z => h31 ((nI_ltI (by omega) (by omega)).mpr z)
        obtain ⟨e42, b42⟩ := hG (by omega)
        refine G_aload_n 0 d_M_isUsed_34 rfl ?_
        refine G_gt d_M_isUsed_35 fr_M_47 (rd_M_lives K M o) ?_
        refine G_aload_n 0 d_M_isUsed_38 rfl ?_
        refine G_gt d_M_isUsed_39 fr_M_23 (rd_M_conSecond K M o) ?_
        refine G_iload_n 1 d_M_isUsed_42 rfl ?_
        refine G_ialN d_M_isUsed_43 (ar_42 K M o) (by decide) (by omega) ?_
        rw [e42]
        refine G_zalN d_M_isUsed_44 (ar_50 K M o) (by decide) (by omega) ?_
        refine G_ifeq 52 d_M_isUsed_45 (by decide) (fun h45 => ?_) (fun h45 => ?_)
        · refine G_iconst (v := 0) d_M_isUsed_52 (by decide) ?_
          exact G_zret d_M_isUsed_53 rfl rfl (k0 (fun z => z.2 (by omega) h45))
        · refine G_iconst (v := 1) d_M_isUsed_48 (by decide) ?_
          refine G_goto 53 d_M_isUsed_49 (by decide) ?_
          exact G_zret d_M_isUsed_53 rfl rfl (k1 ⟨u1, fun _ => h45⟩)
def nodeM (M : MC) (n : Nat) (x : Int32) : MC := mi (ma (ma M 51 n 0) 52 n x) 6 (nI (n + 1))
set_option maxHeartbeats 4000000 in
set_option maxRecDepth 100000 in
theorem c_M_node {d : Nat} {K : KC} {M : MC} {o : Nat → Int64} {nc ns : Nat} (x : Int32) (n : Nat) (hn : M.1 6 = nI n) (hb : n < 270) {post : mj_O → mj_H → Prop} (k : post (.inl (some (.int (nI n)))) (hp K (nodeM M n x) o, nc, ns)) : mj_G y_M_node b_M_node 2 (some .int) [] d none 0 [(0, .ref 38), (1, .int x)] [] (hp K M o, nc, ns) post := by
  refine G_aload_n 0 d_M_node_0 rfl ?_
  refine G_gt d_M_node_1 fr_M_51 (rd_M_nodeKind K M o) ?_
  refine G_aload_n 0 d_M_node_4 rfl ?_
  refine G_gt d_M_node_5 fr_M_116 (rd_M_nodes K M o) ?_
  rw [hn]
  refine G_iconst (v := 0) d_M_node_8 (by decide) ?_
  refine G_iasN d_M_node_9 (ar_51 K M o) (by decide) (by omega) (aw_51 K M o n 0) ?_
  refine G_aload_n 0 d_M_node_10 rfl ?_
  refine G_gt d_M_node_11 fr_M_54 (rd_M_nodeSort K (ma M 51 n 0) o) ?_
  refine G_aload_n 0 d_M_node_14 rfl ?_
  refine G_gt d_M_node_15 fr_M_116 (rd_M_nodes K (ma M 51 n 0) o) ?_
  rw [show (ma M 51 n 0).1 6 = nI n from hn]
  refine G_iload_n 1 d_M_node_18 rfl ?_
  refine G_iasN d_M_node_19 (ar_52 K (ma M 51 n 0) o) (by decide) (by omega) (aw_52 K (ma M 51 n 0) o n x) ?_
  refine G_aload_n 0 d_M_node_20 rfl ?_
  refine G_dup d_M_node_21 rfl ?_
  refine G_gt d_M_node_22 fr_M_116 (rd_M_nodes K (ma (ma M 51 n 0) 52 n x) o) ?_
  rw [show (ma (ma M 51 n 0) 52 n x).1 6 = nI n from hn]
  refine G_iconst (v := 1) d_M_node_25 (by decide) ?_
  refine G_iadd d_M_node_26 ?_
  rw [show nI n + 1 = nI (n + 1) from nI_1 n]
  refine G_pt d_M_node_27 fp_M_116 (wr_M_nodes K (ma (ma M 51 n 0) 52 n x) o (nI (n + 1))) ?_
  refine G_aload_n 0 d_M_node_30 rfl ?_
  refine G_gt d_M_node_31 fr_M_116 (rd_M_nodes K (mi (ma (ma M 51 n 0) 52 n x) 6 (nI (n + 1))) o) ?_
  rw [show (mi (ma (ma M 51 n 0) 52 n x) 6 (nI (n + 1))).1 6 = nI (n + 1) from rfl]
  refine G_iconst (v := 1) d_M_node_34 (by decide) ?_
  refine G_isub d_M_node_35 ?_
  rw [show nI (n + 1) - 1 = nI n from nI_pred n]
  exact G_iret d_M_node_36 rfl k
def patM (M : MC) (n : Nat) (x1 x2 x3 x4 x5 x6 : Int32) : MC := mi (ma (ma (ma (ma (ma (ma M 43 n x1) 44 n x2) 45 n x3) 46 n x4) 47 n x5) 48 n x6) 3 (nI (n + 1))
set_option maxHeartbeats 4000000 in
set_option maxRecDepth 100000 in
theorem c_M_pattern {d : Nat} {K : KC} {M : MC} {o : Nat → Int64} {nc ns : Nat} (x1 x2 x3 x4 x5 x6 : Int32) (n : Nat) (hn : M.1 3 = nI n) (hb : n < 200) {post : mj_O → mj_H → Prop} (k : post (.inl (some (.int (nI n)))) (hp K (patM M n x1 x2 x3 x4 x5 x6) o, nc, ns)) : mj_G y_M_pattern b_M_pattern 7 (some .int) [] d none 0 [(0, .ref 38), (1, .int x1), (2, .int x2), (3, .int x3), (4, .int x4), (5, .int x5), (6, .int x6)] [] (hp K M o, nc, ns) post := by
  refine G_aload_n 0 d_M_pattern_0 rfl ?_
  refine G_gt d_M_pattern_1 fr_M_26 (rd_M_kind K M o) ?_
  refine G_aload_n 0 d_M_pattern_4 rfl ?_
  refine G_gt d_M_pattern_5 fr_M_90 (rd_M_patterns K M o) ?_
  rw [show M.1 3 = nI n from hn]
  refine G_iload_n 1 d_M_pattern_8 rfl ?_
  refine G_iasN d_M_pattern_9 (ar_43 K M o) (by decide) (by omega) (aw_43 K M o n x1) ?_
  refine G_aload_n 0 d_M_pattern_10 rfl ?_
  refine G_gt d_M_pattern_11 fr_M_29 (rd_M_sortOf K (ma M 43 n x1) o) ?_
  refine G_aload_n 0 d_M_pattern_14 rfl ?_
  refine G_gt d_M_pattern_15 fr_M_90 (rd_M_patterns K (ma M 43 n x1) o) ?_
  rw [show (ma M 43 n x1).1 3 = nI n from hn]
  refine G_iload_n 2 d_M_pattern_18 rfl ?_
  refine G_iasN d_M_pattern_19 (ar_44 K (ma M 43 n x1) o) (by decide) (by omega) (aw_44 K (ma M 43 n x1) o n x2) ?_
  refine G_aload_n 0 d_M_pattern_20 rfl ?_
  refine G_gt d_M_pattern_21 fr_M_32 (rd_M_what K (ma (ma M 43 n x1) 44 n x2) o) ?_
  refine G_aload_n 0 d_M_pattern_24 rfl ?_
  refine G_gt d_M_pattern_25 fr_M_90 (rd_M_patterns K (ma (ma M 43 n x1) 44 n x2) o) ?_
  rw [show (ma (ma M 43 n x1) 44 n x2).1 3 = nI n from hn]
  refine G_iload_n 3 d_M_pattern_28 rfl ?_
  refine G_iasN d_M_pattern_29 (ar_45 K (ma (ma M 43 n x1) 44 n x2) o) (by decide) (by omega) (aw_45 K (ma (ma M 43 n x1) 44 n x2) o n x3) ?_
  refine G_aload_n 0 d_M_pattern_30 rfl ?_
  refine G_gt d_M_pattern_31 fr_M_35 (rd_M_first K (ma (ma (ma M 43 n x1) 44 n x2) 45 n x3) o) ?_
  refine G_aload_n 0 d_M_pattern_34 rfl ?_
  refine G_gt d_M_pattern_35 fr_M_90 (rd_M_patterns K (ma (ma (ma M 43 n x1) 44 n x2) 45 n x3) o) ?_
  rw [show (ma (ma (ma M 43 n x1) 44 n x2) 45 n x3).1 3 = nI n from hn]
  refine G_iload 4 d_M_pattern_38 rfl ?_
  refine G_iasN d_M_pattern_40 (ar_46 K (ma (ma (ma M 43 n x1) 44 n x2) 45 n x3) o) (by decide) (by omega) (aw_46 K (ma (ma (ma M 43 n x1) 44 n x2) 45 n x3) o n x4) ?_
  refine G_aload_n 0 d_M_pattern_41 rfl ?_
  refine G_gt d_M_pattern_42 fr_M_38 (rd_M_second K (ma (ma (ma (ma M 43 n x1) 44 n x2) 45 n x3) 46 n x4) o) ?_
  refine G_aload_n 0 d_M_pattern_45 rfl ?_
  refine G_gt d_M_pattern_46 fr_M_90 (rd_M_patterns K (ma (ma (ma (ma M 43 n x1) 44 n x2) 45 n x3) 46 n x4) o) ?_
  rw [show (ma (ma (ma (ma M 43 n x1) 44 n x2) 45 n x3) 46 n x4).1 3 = nI n from hn]
  refine G_iload 5 d_M_pattern_49 rfl ?_
  refine G_iasN d_M_pattern_51 (ar_47 K (ma (ma (ma (ma M 43 n x1) 44 n x2) 45 n x3) 46 n x4) o) (by decide) (by omega) (aw_47 K (ma (ma (ma (ma M 43 n x1) 44 n x2) 45 n x3) 46 n x4) o n x5) ?_
  refine G_aload_n 0 d_M_pattern_52 rfl ?_
  refine G_gt d_M_pattern_53 fr_M_41 (rd_M_width K (ma (ma (ma (ma (ma M 43 n x1) 44 n x2) 45 n x3) 46 n x4) 47 n x5) o) ?_
  refine G_aload_n 0 d_M_pattern_56 rfl ?_
  refine G_gt d_M_pattern_57 fr_M_90 (rd_M_patterns K (ma (ma (ma (ma (ma M 43 n x1) 44 n x2) 45 n x3) 46 n x4) 47 n x5) o) ?_
  rw [show (ma (ma (ma (ma (ma M 43 n x1) 44 n x2) 45 n x3) 46 n x4) 47 n x5).1 3 = nI n from hn]
  refine G_iload 6 d_M_pattern_60 rfl ?_
  refine G_iasN d_M_pattern_62 (ar_48 K (ma (ma (ma (ma (ma M 43 n x1) 44 n x2) 45 n x3) 46 n x4) 47 n x5) o) (by decide) (by omega) (aw_48 K (ma (ma (ma (ma (ma M 43 n x1) 44 n x2) 45 n x3) 46 n x4) 47 n x5) o n x6) ?_
  refine G_aload_n 0 d_M_pattern_63 rfl ?_
  refine G_dup d_M_pattern_64 rfl ?_
  refine G_gt d_M_pattern_65 fr_M_90 (rd_M_patterns K (ma (ma (ma (ma (ma (ma M 43 n x1) 44 n x2) 45 n x3) 46 n x4) 47 n x5) 48 n x6) o) ?_
  rw [show (ma (ma (ma (ma (ma (ma M 43 n x1) 44 n x2) 45 n x3) 46 n x4) 47 n x5) 48 n x6).1 3 = nI n from hn]
  refine G_iconst (v := 1) d_M_pattern_68 (by decide) ?_
  refine G_iadd d_M_pattern_69 ?_
  rw [show nI n + 1 = nI (n + 1) from nI_1 n]
  refine G_pt d_M_pattern_70 fp_M_90 (wr_M_patterns K (ma (ma (ma (ma (ma (ma M 43 n x1) 44 n x2) 45 n x3) 46 n x4) 47 n x5) 48 n x6) o (nI (n + 1))) ?_
  refine G_aload_n 0 d_M_pattern_73 rfl ?_
  refine G_gt d_M_pattern_74 fr_M_90 (rd_M_patterns K (mi (ma (ma (ma (ma (ma (ma M 43 n x1) 44 n x2) 45 n x3) 46 n x4) 47 n x5) 48 n x6) 3 (nI (n + 1))) o) ?_
  rw [show (mi (ma (ma (ma (ma (ma (ma M 43 n x1) 44 n x2) 45 n x3) 46 n x4) 47 n x5) 48 n x6) 3 (nI (n + 1))).1 3 = nI (n + 1) from rfl]
  refine G_iconst (v := 1) d_M_pattern_77 (by decide) ?_
  refine G_isub d_M_pattern_78 ?_
  rw [show nI (n + 1) - 1 = nI n from nI_pred n]
  exact G_iret d_M_pattern_79 rfl k
