theorem nI_ne {a b : Nat} (ha : a < 2 ^ 31) (hb : b < 2 ^ 31) : (¬ nI a = nI b) ↔ a ≠ b := not_congr (nI_eq ha hb)
abbrev usdD (M : MC) (j : Nat) : Prop := (1 ≤ cP M j → M.2 50 (cF M j) ≠ 0) ∧ (2 ≤ cP M j → M.2 50 (cG M j) ≠ 0)
abbrev tri (M : MC) (j : Nat) : Prop := usdD M j ∧ (M.2 59 j ≠ 0 ∨ ∀ i, i < j → ¬ (cS M i = cS M j ∧ M.2 59 i = 0 ∧ usdD M i))
def optL (M : MC) (s n : Nat) : List Nat := (List.range n).filter (fun c => decide (cS M c = s ∧ tri M c))
theorem optL_no {M : MC} {s n : Nat} (h : ¬ (cS M n = s ∧ tri M n)) : optL M s (n + 1) = optL M s n := by
  unfold optL
  rw [List.range_succ, List.filter_append, List.filter_cons, if_neg (fun z => h (of_decide_eq_true z)), List.filter_nil, List.append_nil]
theorem optL_yes {M : MC} {s n : Nat} (h : cS M n = s ∧ tri M n) : optL M s (n + 1) = optL M s n ++ [n] := by
  unfold optL
  rw [List.range_succ, List.filter_append]
  congr 1
  rw [List.filter_cons, if_pos (decide_eq_true h), List.filter_nil]
theorem optL_len (M : MC) (s n : Nat) : (optL M s n).length ≤ n := by
  have := List.length_filter_le (fun c => decide (cS M c = s ∧ tri M c)) (List.range n)
  rw [List.length_range] at this
  exact this
set_option maxHeartbeats 4000000 in
set_option maxRecDepth 100000 in
theorem l_M_isTried {d : Nat} {K : KC} {M : MC} {o : Nat → Int64} {nc ns : Nat} (j : Nat) (hS : wfS M) (hC : wfC M) (hj : j < mC M) (hu : usdD M j) (h0 : M.2 59 j = 0) {post : mj_O → mj_H → Prop} (k1 : tri M j → post (.inl (some (.int 1))) (hp K M o, nc, ns)) (k0 : ¬ tri M j → post (.inl (some (.int 0))) (hp K M o, nc, ns)) : ∀ n i : Nat, i ≤ j → j < i + n → (∀ a, a < i → ¬ (cS M a = cS M j ∧ M.2 59 a = 0 ∧ usdD M a)) → mj_G y_M_isTried b_M_isTried 3 (some .boolean) [] (d + 1) none 25 [(2, .int (nI i)), (0, .ref 38), (1, .int (nI j))] [] (hp K M o, nc, ns) post := by
  have hS' := hS
  have hC' := hC
  obtain ⟨-, q1, q2⟩ := hS'
  obtain ⟨-, q3, q4⟩ := hC'
  obtain ⟨⟨ej, bj1, bj2⟩, -⟩ := q4 j hj
  intro n
  induction n with
  | zero => intro i h1 h2; omega
  | succ n ih =>
    intro i h1 h2 h3
    refine G_iload_n 0 d_M_isTried_25 rfl ?_
    refine G_iload_n 2 d_M_isTried_26 rfl ?_
    refine G_icge 70 d_M_isTried_27 (by decide) (fun h27 => ?_) (fun h27 => ?_)
    · have h27 := (nI_leI (by omega) (by omega)).mp h27
      refine G_iconst (v := 1) d_M_isTried_70 (by decide) ?_
      exact G_zret d_M_isTried_71 rfl rfl (k1 ⟨hu, Or.inr (fun a ha => h3 a (by omega))⟩)
    · have h27 : ¬ _ := fun z => h27 ((nI_leI (by omega) (by omega)).mpr z)
      obtain ⟨⟨ei, bi1, bi2⟩, -⟩ := q4 i (by omega)
      refine G_aload_n 1 d_M_isTried_30 rfl ?_
      refine G_gt d_M_isTried_31 fr_M_13 (rd_M_conSort K M o) ?_
      refine G_iload_n 0 d_M_isTried_34 rfl ?_
      refine G_ialN d_M_isTried_35 (ar_39 K M o) (by decide) (by omega) ?_
      rw [ei]
      refine G_aload_n 1 d_M_isTried_36 rfl ?_
      refine G_gt d_M_isTried_37 fr_M_13 (rd_M_conSort K M o) ?_
      refine G_iload_n 2 d_M_isTried_40 rfl ?_
      refine G_ialN d_M_isTried_41 (ar_39 K M o) (by decide) (by omega) ?_
      rw [ej]
      refine G_icne 64 d_M_isTried_42 (by decide) (fun h42 => ?_) (fun h42 => ?_)
      · refine G_iinc 0 (v := nI (i + 1)) (ls' := [(2, .int (nI (i + 1))), (0, .ref 38), (1, .int (nI j))]) d_M_isTried_64 rfl (nI_1 _) (by decide) rfl ?_
        refine G_goto 25 d_M_isTried_67 (by decide) ?_
        exact ih (i + 1) (by omega) (by omega) (lt_s h3 (fun z => h42 (by rw [z.1])))
      · have h42 := (nI_eq (by omega) (by omega)).mp h42
        refine G_aload_n 1 d_M_isTried_45 rfl ?_
        refine G_gt d_M_isTried_46 fr_M_75 (rd_M_stands K M o) ?_
        refine G_iload_n 0 d_M_isTried_49 rfl ?_
        refine G_zalN d_M_isTried_50 (ar_59 K M o) (by decide) (by omega) ?_
        refine G_ifne 64 d_M_isTried_51 (by decide) (fun h51 => ?_) (fun h51 => ?_)
        · refine G_iinc 0 (v := nI (i + 1)) (ls' := [(2, .int (nI (i + 1))), (0, .ref 38), (1, .int (nI j))]) d_M_isTried_64 rfl (nI_1 _) (by decide) rfl ?_
          refine G_goto 25 d_M_isTried_67 (by decide) ?_
          exact ih (i + 1) (by omega) (by omega) (lt_s h3 (fun z => h51 z.2.1))
        · refine G_aload_n 1 d_M_isTried_54 rfl ?_
          refine G_iload_n 0 d_M_isTried_55 rfl ?_
          refine G_cvB (usdD M i) (As := [.int (nI i)]) d_M_isTried_56 cv_M_113 cw_M_isUsed (ob_M K M o) np_M_isUsed (Nat.le_of_ble_eq_true rfl) (Nat.le_of_ble_eq_true rfl) (fun post2 k1 k0 => c_M_isUsed i hS hC (by omega) k1 k0) (fun u56 => ?_) (fun u56 => ?_)
          · refine G_ifeq 64 d_M_isTried_59 (by decide) (fun h => absurd h (by decide)) (fun _ => ?_)
            refine G_iconst (v := 0) d_M_isTried_62 (by decide) ?_
            exact G_zret d_M_isTried_63 rfl rfl (k0 (fun z => z.2.elim (fun q => q h0) (fun q => q i (by omega) ⟨h42, h51, u56⟩)))
          · refine G_ifeq 64 d_M_isTried_59 (by decide) (fun _ => ?_) (fun h => absurd h (by decide))
            refine G_iinc 0 (v := nI (i + 1)) (ls' := [(2, .int (nI (i + 1))), (0, .ref 38), (1, .int (nI j))]) d_M_isTried_64 rfl (nI_1 _) (by decide) rfl ?_
            refine G_goto 25 d_M_isTried_67 (by decide) ?_
            exact ih (i + 1) (by omega) (by omega) (lt_s h3 (fun z => u56 z.2.2))
set_option maxHeartbeats 4000000 in
set_option maxRecDepth 100000 in
theorem c_M_isTried {d : Nat} {K : KC} {M : MC} {o : Nat → Int64} {nc ns : Nat} (j : Nat) (hS : wfS M) (hC : wfC M) (hj : j < mC M) {post : mj_O → mj_H → Prop} (k1 : tri M j → post (.inl (some (.int 1))) (hp K M o, nc, ns)) (k0 : ¬ tri M j → post (.inl (some (.int 0))) (hp K M o, nc, ns)) : mj_G y_M_isTried b_M_isTried 3 (some .boolean) [] (d + 1) none 0 [(0, .ref 38), (1, .int (nI j))] [] (hp K M o, nc, ns) post := by
  have q3 := hC.2.1
  refine G_aload_n 0 d_M_isTried_0 rfl ?_
  refine G_gt d_M_isTried_1 fr_M_75 (rd_M_stands K M o) ?_
  refine G_iload_n 1 d_M_isTried_4 rfl ?_
  refine G_zalN d_M_isTried_5 (ar_59 K M o) (by decide) (by omega) ?_
  refine G_ifne 17 d_M_isTried_6 (by decide) (fun h6 => ?_) (fun h6 => ?_)
  · refine G_aload_n 0 d_M_isTried_17 rfl ?_
    refine G_iload_n 1 d_M_isTried_18 rfl ?_
    refine G_cvB (usdD M j) (As := [.int (nI j)]) d_M_isTried_19 cv_M_113 cw_M_isUsed (ob_M K M o) np_M_isUsed (Nat.le_of_ble_eq_true rfl) (Nat.le_of_ble_eq_true rfl) (fun post2 k1 k0 => c_M_isUsed j hS hC (by omega) k1 k0) (fun u19 => ?_) (fun u19 => ?_)
    · exact G_zret d_M_isTried_22 rfl rfl (k1 ⟨u19, Or.inl h6⟩)
    · exact G_zret d_M_isTried_22 rfl rfl (k0 (fun z => u19 z.1))
  · refine G_aload_n 0 d_M_isTried_9 rfl ?_
    refine G_iload_n 1 d_M_isTried_10 rfl ?_
    refine G_cvB (usdD M j) (As := [.int (nI j)]) d_M_isTried_11 cv_M_113 cw_M_isUsed (ob_M K M o) np_M_isUsed (Nat.le_of_ble_eq_true rfl) (Nat.le_of_ble_eq_true rfl) (fun post2 k1 k0 => c_M_isUsed j hS hC (by omega) k1 k0) (fun u11 => ?_) (fun u11 => ?_)
    · refine G_ifne 23 d_M_isTried_14 (by decide) (fun _ => ?_) (fun h => absurd h (by decide))
      refine G_iconst (v := nI 0) d_M_isTried_23 (by decide) ?_
      refine G_istore_n (ls' := [(2, .int (nI 0)), (0, .ref 38), (1, .int (nI j))]) d_M_isTried_24 (by decide) rfl ?_
      exact l_M_isTried j hS hC hj u11 h6 k1 k0 (j + 1) 0 (by omega) (by omega) lt_0
    · refine G_ifne 23 d_M_isTried_14 (by decide) (fun h => absurd h (by decide)) (fun _ => ?_)
      refine G_aload_n 0 d_M_isTried_17 rfl ?_
      refine G_iload_n 1 d_M_isTried_18 rfl ?_
      refine G_cvB (usdD M j) (As := [.int (nI j)]) d_M_isTried_19 cv_M_113 cw_M_isUsed (ob_M K M o) np_M_isUsed (Nat.le_of_ble_eq_true rfl) (Nat.le_of_ble_eq_true rfl) (fun post2 k1 k0 => c_M_isUsed j hS hC (by omega) k1 k0) (fun u19 => ?_) (fun u19 => ?_)
      · exact G_zret d_M_isTried_22 rfl rfl (absurd u19 u11)
      · exact G_zret d_M_isTried_22 rfl rfl (k0 (fun z => u19 z.1))
set_option maxHeartbeats 4000000 in
set_option maxRecDepth 100000 in
theorem l_M_options {d : Nat} {K : KC} {M : MC} {o : Nat → Int64} {nc ns : Nat} (t : Nat) (ht : t < 12) (hS : wfS M) (hC : wfC M) {post : mj_O → mj_H → Prop} (k : post (.inl (some (.int (nI (optL M t (mC M)).length)))) (hp K M o, nc, ns)) : ∀ n c : Nat, c ≤ mC M → mC M < c + n → mj_G y_M_options b_M_options 4 (some .int) [] (d + 2) none 15 [(3, .int (nI c)), (2, .int (nI (optL M t c).length)), (0, .ref 38), (1, .int (nI t))] [] (hp K M o, nc, ns) post := by
  have hS' := hS
  have hC' := hC
  obtain ⟨-, q1, q2⟩ := hS'
  obtain ⟨e2, q3, q4⟩ := hC'
  intro n
  induction n with
  | zero => intro c h1 h2; omega
  | succ n ih =>
    intro c h1 h2
    have hlen := optL_len M t c
    refine G_iload_n 0 d_M_options_15 rfl ?_
    refine G_aload_n 2 d_M_options_16 rfl ?_
    refine G_gt d_M_options_17 fr_M_97 (rd_M_cons K M o) ?_
    rw [e2]
    refine G_icge 50 d_M_options_20 (by decide) (fun h20 => ?_) (fun h20 => ?_)
    · have h20 := (nI_leI (by omega) (by omega)).mp h20
      have e9 : c = mC M := by omega
      rw [e9] at hlen ⊢
      refine G_iload_n 1 d_M_options_50 rfl ?_
      exact G_iret d_M_options_51 rfl k
    · have h20 : ¬ _ := fun z => h20 ((nI_leI (by omega) (by omega)).mpr z)
      obtain ⟨⟨ec, bc1, bc2⟩, -⟩ := q4 c (by omega)
      refine G_aload_n 2 d_M_options_23 rfl ?_
      refine G_gt d_M_options_24 fr_M_13 (rd_M_conSort K M o) ?_
      refine G_iload_n 0 d_M_options_27 rfl ?_
      refine G_ialN d_M_options_28 (ar_39 K M o) (by decide) (by omega) ?_
      rw [ec]
      refine G_iload_n 3 d_M_options_29 rfl ?_
      refine G_icne 44 d_M_options_30 (by decide) (fun h30 => ?_) (fun h30 => ?_)
      · refine G_iinc 0 (v := nI (c + 1)) (ls' := [(3, .int (nI (c + 1))), (2, .int (nI (optL M t c).length)), (0, .ref 38), (1, .int (nI t))]) d_M_options_44 rfl (nI_1 _) (by decide) rfl ?_
        refine G_goto 15 d_M_options_47 (by decide) ?_
        rw [← optL_no (M := M) (s := t) (n := c) (fun z => h30 (by rw [z.1]))]; exact ih (c + 1) (by omega) (by omega)
      · have h30 := (nI_eq (by omega) (by omega)).mp h30
        refine G_aload_n 2 d_M_options_33 rfl ?_
        refine G_iload_n 0 d_M_options_34 rfl ?_
        refine G_cvB (tri M c) (As := [.int (nI c)]) d_M_options_35 cv_M_122 cw_M_isTried (ob_M K M o) np_M_isTried (Nat.le_of_ble_eq_true rfl) (Nat.le_of_ble_eq_true rfl) (fun post2 k1 k0 => c_M_isTried c hS hC (by omega) k1 k0) (fun u35 => ?_) (fun u35 => ?_)
        · refine G_ifeq 44 d_M_options_38 (by decide) (fun h => absurd h (by decide)) (fun _ => ?_)
          refine G_iinc 1 (v := nI ((optL M t c).length + 1)) (ls' := [(2, .int (nI ((optL M t c).length + 1))), (3, .int (nI c)), (0, .ref 38), (1, .int (nI t))]) d_M_options_41 rfl (nI_1 _) (by decide) rfl ?_
          refine G_iinc 1 (v := nI (c + 1)) (ls' := [(3, .int (nI (c + 1))), (2, .int (nI ((optL M t c).length + 1))), (0, .ref 38), (1, .int (nI t))]) d_M_options_44 rfl (nI_1 _) (by decide) rfl ?_
          refine G_goto 15 d_M_options_47 (by decide) ?_
          rw [show (optL M t c).length + 1 = (optL M t (c + 1)).length from by rw [optL_yes (M := M) (s := t) (n := c) ⟨h30, u35⟩]; simp]; exact ih (c + 1) (by omega) (by omega)
        · refine G_ifeq 44 d_M_options_38 (by decide) (fun _ => ?_) (fun h => absurd h (by decide))
          refine G_iinc 0 (v := nI (c + 1)) (ls' := [(3, .int (nI (c + 1))), (2, .int (nI (optL M t c).length)), (0, .ref 38), (1, .int (nI t))]) d_M_options_44 rfl (nI_1 _) (by decide) rfl ?_
          refine G_goto 15 d_M_options_47 (by decide) ?_
          rw [← optL_no (M := M) (s := t) (n := c) (fun z => u35 z.2)]; exact ih (c + 1) (by omega) (by omega)
set_option maxHeartbeats 4000000 in
set_option maxRecDepth 100000 in
theorem c_M_options {d : Nat} {K : KC} {M : MC} {o : Nat → Int64} {nc ns : Nat} (t : Nat) (ht : t < 12) (ht0 : t ≠ 0) (hS : wfS M) (hC : wfC M) {post : mj_O → mj_H → Prop} (k : post (.inl (some (.int (nI (optL M t (mC M)).length)))) (hp K M o, nc, ns)) : mj_G y_M_options b_M_options 4 (some .int) [] (d + 2) none 0 [(0, .ref 38), (1, .int (nI t))] [] (hp K M o, nc, ns) post := by
  refine G_iload_n 1 d_M_options_0 rfl ?_
  refine G_ifne 11 d_M_options_1 (by decide) (fun h1 => ?_) (fun h1 => False.elim (ht0 ((nI_eq (by omega) (by omega)).mp (show nI t = nI 0 from h1))))
  refine G_iconst (v := nI 0) d_M_options_11 (by decide) ?_
  refine G_istore_n (ls' := [(2, .int (nI 0)), (0, .ref 38), (1, .int (nI t))]) d_M_options_12 (by decide) rfl ?_
  refine G_iconst (v := nI 0) d_M_options_13 (by decide) ?_
  refine G_istore_n (ls' := [(3, .int (nI 0)), (2, .int (nI 0)), (0, .ref 38), (1, .int (nI t))]) d_M_options_14 (by decide) rfl ?_
  exact l_M_options t (by omega) hS hC k (mC M + 1) 0 (by omega) (by omega)
set_option maxHeartbeats 4000000 in
set_option maxRecDepth 100000 in
theorem c_M_options0 {d : Nat} {K : KC} {M : MC} {o : Nat → Int64} {nc ns : Nat} (m : Nat) (hm : M.1 11 = nI m) {post : mj_O → mj_H → Prop} (k : post (.inl (some (.int (nI (m + 1))))) (hp K M o, nc, ns)) : mj_G y_M_options b_M_options 4 (some .int) [] d none 0 [(0, .ref 38), (1, .int (0 : Int32))] [] (hp K M o, nc, ns) post := by
  refine G_iload_n 1 d_M_options_0 rfl ?_
  refine G_ifne 11 d_M_options_1 (by decide) (fun h1 => False.elim (h1 rfl)) (fun h1 => ?_)
  refine G_aload_n 0 d_M_options_4 rfl ?_
  refine G_gt d_M_options_5 fr_M_119 (rd_M_intMany K M o) ?_
  rw [hm]
  refine G_iconst (v := 1) d_M_options_8 (by decide) ?_
  refine G_iadd d_M_options_9 ?_
  rw [show nI m + 1 = nI (m + 1) from nI_1 m]
  exact G_iret d_M_options_10 rfl k
