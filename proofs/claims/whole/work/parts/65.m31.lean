/-! the law's loop -/
theorem loop_gt {L i : Nat} (hL : L ≤ 2560) (hi : i ≤ L) : nI L - 5 < nI i ↔ ¬ i + 5 ≤ L := by
  rw [Int32.lt_iff_toInt_lt, Int32.toInt_sub, nI_toInt (by omega), nI_toInt (by omega), show (5 : Int32).toInt = 5 by decide]
  have : ((L : Int) - 5).bmod (2 ^ 32) = (L : Int) - 5 := Int.bmod_eq_of_le (by omega) (by omega)
  rw [this]; omega
set_option maxHeartbeats 1000000 in
set_option maxRecDepth 100000 in
theorem w_next {K : KC} {M : MC} {o : Nat → Int64} {nc ns : Nat} {d L i : Nat} {xs : Nat → Int32} {post : mj_O → mj_H → Prop} (k : mj_G y_L_law b_L_law 7 (some .boolean) [] (d + 100) (some (L, xs)) 23 [(4, .int (nI (i + 5))), (0, .ref 1000000), (1, .ref 0), (2, .ref 38), (3, .ref 63)] [] (hp K M o, nc, ns) post) : mj_G y_L_law b_L_law 7 (some .boolean) [] (d + 100) (some (L, xs)) 845 [(4, .int (nI i)), (0, .ref 1000000), (1, .ref 0), (2, .ref 38), (3, .ref 63)] [] (hp K M o, nc, ns) post := by
  refine G_iinc 0 (v := nI (i + 5)) (ls' := [(4, .int (nI (i + 5))), (0, .ref 1000000), (1, .ref 0), (2, .ref 38), (3, .ref 63)]) d_L_law_845 rfl (nI_add i 5) (by decide) rfl ?_
  refine G_goto 23 d_L_law_848 (by decide) ?_
  exact G_sub [0, 1, 2, 3, 4] rfl k
set_option maxHeartbeats 1000000 in
set_option maxRecDepth 100000 in
theorem w_round {K : KC} {M : MC} {o : Nat → Int64} {nc ns : Nat} {d L i cs kk : Nat} {xs : Nat → Int32} {post : mj_O → mj_H → Prop} (hI : IM M cs kk) (hK : RK K M cs kk) (hr1 : nc + 1 ≤ 601024) (hr2 : ns + 6 ≤ 7293034) (hi : i + 5 ≤ L) (hL : L ≤ 2560) (k : ∀ (K' : KC) (M' : MC) (o' : Nat → Int64) (nc' ns' cs' kk' : Nat), nc' ≤ nc + 1 → ns' ≤ ns + 6 → IM M' cs' kk' → RK K' M' cs' kk' → mj_G y_L_law b_L_law 7 (some .boolean) [] (d + 100) (some (L, xs)) 845 [(4, .int (nI i)), (0, .ref 1000000), (1, .ref 0), (2, .ref 38), (3, .ref 63)] [] (hp K' M' o', nc', ns') post) : mj_G y_L_law b_L_law 7 (some .boolean) [] (d + 100) (some (L, xs)) 39 [(4, .int (nI i)), (0, .ref 1000000), (1, .ref 0), (2, .ref 38), (3, .ref 63)] [.int (xs i &&& 15)] (hp K M o, nc, ns) post := by
  by_cases h : (xs i &&& 15).toInt < 0 ∨ 12 < (xs i &&& 15).toInt
  · exact G_swOut 845 d_L_law_39 h (by decide) (k _ _ _ _ _ _ _ (by omega) (by omega) hI hK)
  · have e : ∀ j : Nat, j < 13 → (xs i &&& 15).toInt = j → xs i &&& 15 = nI j := fun j hj hq => Int32.toInt_inj.mp (by rw [hq, nI_toInt (by omega)])
    rcases (show (xs i &&& 15).toInt = (0 : Nat) ∨ (xs i &&& 15).toInt = (1 : Nat) ∨ (xs i &&& 15).toInt = (2 : Nat) ∨ (xs i &&& 15).toInt = (3 : Nat) ∨ (xs i &&& 15).toInt = (4 : Nat) ∨ (xs i &&& 15).toInt = (5 : Nat) ∨ (xs i &&& 15).toInt = (6 : Nat) ∨ (xs i &&& 15).toInt = (7 : Nat) ∨ (xs i &&& 15).toInt = (8 : Nat) ∨ (xs i &&& 15).toInt = (9 : Nat) ∨ (xs i &&& 15).toInt = (10 : Nat) ∨ (xs i &&& 15).toInt = (11 : Nat) ∨ (xs i &&& 15).toInt = (12 : Nat) by omega) with q | q | q | q | q | q | q | q | q | q | q | q | q
    · rw [e 0 (by omega) q]
      exact G_swIn 104 d_L_law_39 (by decide) (by decide) (off := 65) rfl (by decide) (w_sort hI hK hr1 hr2 hi hL k)
    · rw [e 1 (by omega) q]
      exact G_swIn 148 d_L_law_39 (by decide) (by decide) (off := 109) rfl (by decide) (w_con hI hK hr1 hr2 hi hL k)
    · rw [e 2 (by omega) q]
      exact G_swIn 240 d_L_law_39 (by decide) (by decide) (off := 201) rfl (by decide) (w_any hI hK hr1 hr2 hi hL k)
    · rw [e 3 (by omega) q]
      exact G_swIn 296 d_L_law_39 (by decide) (by decide) (off := 257) rfl (by decide) (w_number hI hK hr1 hr2 hi hL k)
    · rw [e 4 (by omega) q]
      exact G_swIn 352 d_L_law_39 (by decide) (by decide) (off := 313) rfl (by decide) (w_made hI hK hr1 hr2 hi hL k)
    · rw [e 5 (by omega) q]
      exact G_swIn 432 d_L_law_39 (by decide) (by decide) (off := 393) rfl (by decide) (w_begin hI hK hr1 hr2 hi hL k)
    · rw [e 6 (by omega) q]
      exact G_swIn 468 d_L_law_39 (by decide) (by decide) (off := 429) rfl (by decide) (w_clause hI hK hr1 hr2 hi hL k)
    · rw [e 7 (by omega) q]
      exact G_swIn 531 d_L_law_39 (by decide) (by decide) (off := 492) rfl (by decide) (w_takes hI hK hr1 hr2 hi hL k)
    · rw [e 8 (by omega) q]
      exact G_swIn 594 d_L_law_39 (by decide) (by decide) (off := 555) rfl (by decide) (w_open hI hK hr1 hr2 hi hL k)
    · rw [e 9 (by omega) q]
      exact G_swIn 607 d_L_law_39 (by decide) (by decide) (off := 568) rfl (by decide) (w_covers hI hK hr1 hr2 hi hL k)
    · rw [e 10 (by omega) q]
      exact G_swIn 682 d_L_law_39 (by decide) (by decide) (off := 643) rfl (by decide) (w_meets hI hK hr1 hr2 hi hL k)
    · rw [e 11 (by omega) q]
      exact G_swIn 757 d_L_law_39 (by decide) (by decide) (off := 718) rfl (by decide) (w_lives hI hK hr1 hr2 hi hL k)
    · rw [e 12 (by omega) q]
      exact G_swIn 820 d_L_law_39 (by decide) (by decide) (off := 781) rfl (by decide) (w_count hI hK hr1 hr2 hi hL k)
set_option maxHeartbeats 1000000 in
set_option maxRecDepth 100000 in
theorem l_law {d L : Nat} {xs : Nat → Int32} {post : mj_O → mj_H → Prop} (hL : L ≤ 2560) (kp : ∀ A, post (.inl (some (.int 1))) A) : ∀ (m i : Nat) (K : KC) (M : MC) (o : Nat → Int64) (nc ns cs kk : Nat), i ≤ L → L < i + 5 * m → IM M cs kk → RK K M cs kk → nc + (L - i) ≤ 601024 → ns + 6 * (L - i) ≤ 7293034 → mj_G y_L_law b_L_law 7 (some .boolean) [] (d + 100) (some (L, xs)) 23 [(4, .int (nI i)), (0, .ref 1000000), (1, .ref 0), (2, .ref 38), (3, .ref 63)] [] (hp K M o, nc, ns) post := by
  intro m
  induction m with
  | zero => intro i K M o nc ns cs kk h1 h2; omega
  | succ m ih =>
    intro i K M o nc ns cs kk hi hm hI hK hc1 hc2
    refine G_iload 0 d_L_law_23 rfl ?_
    refine G_aload_n 1 d_L_law_25 rfl ?_
    refine G_slen d_L_law_26 ?_
    show mj_G y_L_law b_L_law 7 (some .boolean) [] (d + 100) (some (L, xs)) 27 [(4, .int (nI i)), (0, .ref 1000000), (1, .ref 0), (2, .ref 38), (3, .ref 63)] [.int (nI L), .int (nI i)] (hp K M o, nc, ns) post
    refine G_iconst (v := 5) d_L_law_27 (by decide) ?_
    refine G_isub d_L_law_28 ?_
    refine G_icgt 851 d_L_law_29 (by decide) (fun h29 => ?_) (fun h29 => ?_)
    · refine G_iconst (v := 1) d_L_law_851 (by decide) ?_
      exact G_zret d_L_law_852 rfl rfl (kp _)
    · have h29 : i + 5 ≤ L := Classical.byContradiction fun z => h29 ((loop_gt hL hi).mpr z)
      refine G_aload_n 1 d_L_law_32 rfl ?_
      refine G_iload 0 d_L_law_33 rfl ?_
      refine G_sldN d_L_law_35 (by omega) (by omega) ?_
      refine G_bipush (v := 15) d_L_law_36 (by decide) ?_
      refine G_iand d_L_law_38 ?_
      exact w_round hI hK (by omega) (by omega) h29 hL (fun K' M' o' nc' ns' cs' kk' z1 z2 z3 z4 => w_next (ih (i + 5) K' M' o' nc' ns' cs' kk' (by omega) (by omega) z3 z4 (by omega) (by omega)))
