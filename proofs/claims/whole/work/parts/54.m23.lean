/-! reaches, leavesSome, reachedRows -/
theorem hv0_iff {K : KC} {R : MC} {s0 n np : Nat} {P : Nat → Nat} {pi : Nat → List Nat} {i : Nat} (hX : SXK R s0 n P (vw0 K np pi)) (hL : rL K R) (hi : i < n) : (iB (K.1 2) s0 = true ∧ (∀ y, y < np → lB (K.2.2 15 i) y = true → ¬ K.2.1 25 y = 0 → ∃ c, c < 32 ∧ K.2.1 (17 + i) y = nI c ∧ iB (K.1 3) c = true)) ↔ LV R s0 ∧ HV R (vw0 K np pi) i := by
  have q30 := hX.2.1.2.1
  refine and_congr (hL.1 s0) ⟨fun h j hj hs => ?_, fun h j _ hj hs => ?_⟩
  · obtain ⟨c, c1, c2, c3⟩ := h j (row_lt hX hi hj) hj hs
    obtain ⟨z1, z2⟩ := (hL.2 c).mp c3
    exact ⟨c, z1, c2, z2⟩
  · obtain ⟨c, c1, c2, c3⟩ := h j hj hs
    exact ⟨c, by omega, c2, (hL.2 c).mpr ⟨c1, c3⟩⟩
theorem c_H0_hasV2 {K : KC} {M : MC} {o : Nat → Int64} {nc ns : Nat} {R : MC} {d s0 n np : Nat} {P : Nat → Nat} {pi : Nat → List Nat} {i : Nat} (hX : SXK R s0 n P (vw0 K np pi)) (erc : K.1 11 = nI n) (hn : n ≤ 8) (hnp2 : np ≤ 40) (hO : rO K R) (hL : rL K R) (efs : K.1 10 = nI s0) (epc : K.1 12 = nI np) (hs0 : s0 < mS R) (hi : i < n) {post : mj_O → mj_H → Prop} (k1 : LV R s0 ∧ HV R (vw0 K np pi) i → post (.inl (some (.int 1))) (hp K M o, nc, ns)) (k0 : ¬ (LV R s0 ∧ HV R (vw0 K np pi) i) → post (.inl (some (.int 0))) (hp K M o, nc, ns)) : mj_G y_H_hasValue b_H_hasValue 4 (some .boolean) [] (d + 1) none 0 [(0, .ref 14), (1, .int (nI i))] [] (hp K M o, nc, ns) post := by
  have q12 := hX.1.2.2
  have q30 := hX.2.1.2.1
  refine c_H0_hasValue (s0 := s0) efs (by omega) epc hX.2.2.2.2 hnp2 (by omega) (fun y h1 h2 h3 => ?_) (fun q => k1 ((hv0_iff hX hL hi).mp q)) (fun q => k0 (fun q2 => q ((hv0_iff hX hL hi).mpr q2)))
  obtain ⟨c, c1, c2, -⟩ := row_val hX hi h2 h3
  exact ⟨c, by omega, c2⟩
set_option maxHeartbeats 600000 in
set_option maxRecDepth 100000 in
theorem c_H0_reaches {K : KC} {M : MC} {o : Nat → Int64} {nc ns : Nat} {R : MC} {d s0 n np : Nat} {P : Nat → Nat} {pi : Nat → List Nat} {i : Nat} (hX : SXK R s0 n P (vw0 K np pi)) (erc : K.1 11 = nI n) (hn : n ≤ 8) (hnp2 : np ≤ 40) (hO : rO K R) (hL : rL K R) (efs : K.1 10 = nI s0) (epc : K.1 12 = nI np) (hs0 : s0 < mS R) (hi : i < n) {post : mj_O → mj_H → Prop} (k1 : HASL R s0 [P i] ((List.range i).map P) → post (.inl (some (.int 1))) (hp K M o, nc, ns)) (k0 : ¬ HASL R s0 [P i] ((List.range i).map P) → post (.inl (some (.int 0))) (hp K M o, nc, ns)) : mj_G y_H_reaches b_H_reaches 2 (some .boolean) [] (d + 44) none 0 [(0, .ref 14), (1, .int (nI i))] [] (hp K M o, nc, ns) post := by
  refine G_aload_n 0 d_H_reaches_0 rfl ?_
  refine G_iload_n 1 d_H_reaches_1 rfl ?_
  refine G_cvB (LV R s0 ∧ HV R (vw0 K np pi) i) (As := [.int (nI i)]) d_H_reaches_2 cv_H_88 cw_H_hasValue (ob_H0 K M o) np_H_hasValue (Nat.le_of_ble_eq_true rfl) (Nat.le_of_ble_eq_true rfl) (fun post2 k1 k0 => c_H0_hasV2 hX erc hn hnp2 hO hL efs epc hs0 hi k1 k0) (fun u2 => ?_) (fun u2 => ?_)
  · have hl := u2.1
    refine G_ifeq 31 d_H_reaches_5 (by decide) (fun h => absurd h (by decide)) (fun _ => ?_)
    refine G_aload_n 0 d_H_reaches_8 rfl ?_
    refine G_aload_n 0 d_H_reaches_9 rfl ?_
    refine G_iload_n 1 d_H_reaches_10 rfl ?_
    refine G_cvp (fun a9 A9 => ∃ v : Int32, a9 = some (.int v) ∧ A9 = (hp K M o, nc, ns) ∧ (∀ r, iB v r = true ↔ r < i ∧ AGR (vw0 K np pi) r i)) (As := [.int (nI i)]) d_H_reaches_11 cv_H_92 cw_H_rowsBeforeThatAgree (ob_H0 K M o) np_H_rowsBeforeThatAgree (Nat.le_of_ble_eq_true rfl) (Nat.le_of_ble_eq_true rfl) (fun post2 kq => c_H0_before epc hX.2.2.2.2 hnp2 (by omega) (fun v9 g9 => kq _ _ ⟨v9, rfl, rfl, g9⟩)) (fun a9 A9 h9 => by obtain ⟨v9, -, rfl, -⟩ := h9; rfl) (fun a9 A9 h9 => ?_)
    obtain ⟨v, rfl, rfl, g_v⟩ := h9
    refine G_aload_n 0 d_H_reaches_14 rfl ?_
    refine G_gt d_H_reaches_15 fr_H_19 (rd_H0_asked K M o) ?_
    refine G_iload_n 1 d_H_reaches_18 rfl ?_
    refine G_lalN d_H_reaches_19 (ar_15 K M o) (by decide) (by omega) ?_
    refine G_iconst (v := nI 0) d_H_reaches_20 (by decide) ?_
    refine G_cvB (SE R s0 n P v (uRow (vw0 K np pi) i)) (As := [.int v, .long (K.2.2 15 i), .int (nI 0)]) d_H_reaches_21 cv_H_96 cw_H_escapes (ob_H0 K M o) np_H_escapes (Nat.le_of_ble_eq_true rfl) (Nat.le_of_ble_eq_true rfl) (fun post2 k1 k0 => c_H0_escapes (d := d) hX erc hn hnp2 hO hL hl 41 v _ (uRow (vw0 K np pi) i) 0 (Nat.lt_of_le_of_lt (rcnt_le _ _) (by have := hX.2.2.2.2; omega)) (by omega) (ES_row hX hi u2.2 g_v) post2 k1 k0) (fun u21 => ?_) (fun u21 => ?_)
    · refine G_ifeq 31 d_H_reaches_24 (by decide) (fun h => absurd h (by decide)) (fun _ => ?_)
      refine G_iconst (v := 1) d_H_reaches_27 (by decide) ?_
      refine G_goto 32 d_H_reaches_28 (by decide) ?_
      exact G_zret d_H_reaches_32 rfl rfl (k1 ⟨hl, (reach_iff hX hi u2.2 g_v).mp u21⟩)
    · refine G_ifeq 31 d_H_reaches_24 (by decide) (fun _ => ?_) (fun h => absurd h (by decide))
      refine G_iconst (v := 0) d_H_reaches_31 (by decide) ?_
      exact G_zret d_H_reaches_32 rfl rfl (k0 (fun q => u21 ((reach_iff hX hi u2.2 g_v).mpr q.2)))
  · refine G_ifeq 31 d_H_reaches_5 (by decide) (fun _ => ?_) (fun h => absurd h (by decide))
    refine G_iconst (v := 0) d_H_reaches_31 (by decide) ?_
    exact G_zret d_H_reaches_32 rfl rfl (k0 (fun q => u2 ⟨q.1, reach_HV hX hi q.2⟩))
set_option maxHeartbeats 600000 in
set_option maxRecDepth 100000 in
theorem c_H0_leaves {K : KC} {M : MC} {o : Nat → Int64} {nc ns : Nat} {R : MC} {d s0 n np : Nat} {P : Nat → Nat} {pi : Nat → List Nat} (hX : SXK R s0 n P (vw0 K np pi)) (erc : K.1 11 = nI n) (hn : n ≤ 8) (hnp2 : np ≤ 40) (hO : rO K R) (hL : rL K R) (efs : K.1 10 = nI s0) (epc : K.1 12 = nI np) (hs0 : s0 < mS R) {post : mj_O → mj_H → Prop} (k1 : HASL R s0 [] ((List.range n).map P) → post (.inl (some (.int 1))) (hp K M o, nc, ns)) (k0 : ¬ HASL R s0 [] ((List.range n).map P) → post (.inl (some (.int 0))) (hp K M o, nc, ns)) : mj_G y_H_leavesSome b_H_leavesSome 1 (some .boolean) [] (d + 44) none 0 [(0, .ref 14)] [] (hp K M o, nc, ns) post := by
  have q12 := hX.1.2.2
  refine G_aload_n 0 d_H_leavesSome_0 rfl ?_
  refine G_gt d_H_leavesSome_1 fr_H_9 (rd_H0_sorts K M o) ?_
  refine G_aload_n 0 d_H_leavesSome_4 rfl ?_
  refine G_gt d_H_leavesSome_5 fr_H_45 (rd_H0_sort K M o) ?_
  rw [show K.1 10 = nI s0 from efs]
  refine G_cvB (iB (K.1 2) s0 = true) (As := [.int (nI s0)]) d_H_leavesSome_8 cv_H_100 cw_S_isSortLiving (ob_S K M o) np_S_isSortLiving (Nat.le_of_ble_eq_true rfl) (Nat.le_of_ble_eq_true rfl) (fun post2 k1 k0 => c_S_isSortLiving (s := s0) (by omega) k1 k0) (fun u8 => ?_) (fun u8 => ?_)
  · have hl := (hL.1 s0).mp u8
    have hlow : ∀ r, iB (1 <<< (nI n &&& 31) - 1) r = true ↔ r < n := fun r => by rw [iB_low (by omega), decide_eq_true_eq]
    refine G_ifeq 35 d_H_leavesSome_11 (by decide) (fun h => absurd h (by decide)) (fun _ => ?_)
    refine G_aload_n 0 d_H_leavesSome_14 rfl ?_
    refine G_iconst (v := 1) d_H_leavesSome_15 (by decide) ?_
    refine G_aload_n 0 d_H_leavesSome_16 rfl ?_
    refine G_gt d_H_leavesSome_17 fr_H_49 (rd_H0_rowCount K M o) ?_
    rw [show K.1 11 = nI n from erc]
    refine G_ishl d_H_leavesSome_20 ?_
    refine G_iconst (v := 1) d_H_leavesSome_21 (by decide) ?_
    refine G_isub d_H_leavesSome_22 ?_
    refine G_lconst (v := 0) d_H_leavesSome_23 (by decide) ?_
    refine G_iconst (v := nI 0) d_H_leavesSome_24 (by decide) ?_
    refine G_cvB (SE R s0 n P ((1 <<< ((nI n) &&& 31)) - 1) (fun _ => none)) (As := [.int ((1 <<< ((nI n) &&& 31)) - 1), .long 0, .int (nI 0)]) d_H_leavesSome_25 cv_H_96 cw_H_escapes (ob_H0 K M o) np_H_escapes (Nat.le_of_ble_eq_true rfl) (Nat.le_of_ble_eq_true rfl) (fun post2 k1 k0 => c_H0_escapes (d := d) hX erc hn hnp2 hO hL hl 41 ((1 <<< ((nI n) &&& 31)) - 1) 0 (fun _ => none) 0 (Nat.lt_of_le_of_lt (rcnt_le _ _) (by have := hX.2.2.2.2; omega)) (by omega) (ES_open hlow) post2 k1 k0) (fun u25 => ?_) (fun u25 => ?_)
    · refine G_ifeq 35 d_H_leavesSome_28 (by decide) (fun h => absurd h (by decide)) (fun _ => ?_)
      refine G_iconst (v := 1) d_H_leavesSome_31 (by decide) ?_
      refine G_goto 36 d_H_leavesSome_32 (by decide) ?_
      exact G_zret d_H_leavesSome_36 rfl rfl (k1 ⟨hl, (open_iff hlow).mp u25⟩)
    · refine G_ifeq 35 d_H_leavesSome_28 (by decide) (fun _ => ?_) (fun h => absurd h (by decide))
      refine G_iconst (v := 0) d_H_leavesSome_35 (by decide) ?_
      exact G_zret d_H_leavesSome_36 rfl rfl (k0 (fun q => u25 ((open_iff hlow).mpr q.2)))
  · refine G_ifeq 35 d_H_leavesSome_11 (by decide) (fun _ => ?_) (fun h => absurd h (by decide))
    refine G_iconst (v := 0) d_H_leavesSome_35 (by decide) ?_
    exact G_zret d_H_leavesSome_36 rfl rfl (k0 (fun q => u8 ((hL.1 s0).mpr q.1)))
set_option maxHeartbeats 600000 in
set_option maxRecDepth 100000 in
theorem l_H0_reached {K : KC} {M : MC} {o : Nat → Int64} {nc ns : Nat} {R : MC} {d s0 n np : Nat} {P : Nat → Nat} {pi : Nat → List Nat} (hX : SXK R s0 n P (vw0 K np pi)) (erc : K.1 11 = nI n) (hn : n ≤ 8) (hnp2 : np ≤ 40) (hO : rO K R) (hL : rL K R) (efs : K.1 10 = nI s0) (epc : K.1 12 = nI np) (hs0 : s0 < mS R) {post : mj_O → mj_H → Prop} (k : post (.inl (some (.int (nI (rcnt (fun i => HASL R s0 [P i] ((List.range i).map P)) n))))) (hp K M o, nc, ns)) : ∀ (m i c : Nat), i ≤ n → n < i + m → c = rcnt (fun i => HASL R s0 [P i] ((List.range i).map P)) i → mj_G y_H_reachedRows b_H_reachedRows 3 (some .int) [] (d + 45) none 4 [(2, .int (nI i)), (1, .int (nI c)), (0, .ref 14)] [] (hp K M o, nc, ns) post := by
  intro m
  induction m with
  | zero => intro i c h1 h2; omega
  | succ m ih =>
    intro i c h1 h2 h3
    refine G_iload_n 0 d_H_reachedRows_4 rfl ?_
    refine G_aload_n 2 d_H_reachedRows_5 rfl ?_
    refine G_gt d_H_reachedRows_6 fr_H_49 (rd_H0_rowCount K M o) ?_
    rw [show K.1 11 = nI n from erc]
    refine G_icge 29 d_H_reachedRows_9 (by decide) (fun h9 => ?_) (fun h9 => ?_)
    · have h9 := (nI_leI (by omega) (by omega)).mp h9
      obtain rfl : i = n := by omega
      subst h3
      refine G_iload_n 1 d_H_reachedRows_29 rfl ?_
      exact G_iret d_H_reachedRows_30 rfl k
    · have h9 : ¬ _ := fun z => h9 ((nI_leI (by omega) (by omega)).mpr z)
      refine G_aload_n 2 d_H_reachedRows_12 rfl ?_
      refine G_iload_n 0 d_H_reachedRows_13 rfl ?_
      refine G_cvB (HASL R s0 [P i] ((List.range i).map P)) (As := [.int (nI i)]) d_H_reachedRows_14 cv_H_103 cw_H_reaches (ob_H0 K M o) np_H_reaches (Nat.le_of_ble_eq_true rfl) (Nat.le_of_ble_eq_true rfl) (fun post2 k1 k0 => c_H0_reaches (d := d) hX erc hn hnp2 hO hL efs epc hs0 (by omega) k1 k0) (fun u14 => ?_) (fun u14 => ?_)
      · refine G_ifeq 23 d_H_reachedRows_17 (by decide) (fun h => absurd h (by decide)) (fun _ => ?_)
        refine G_iinc 1 (v := nI (c + 1)) (ls' := [(1, .int (nI (c + 1))), (2, .int (nI i)), (0, .ref 14)]) d_H_reachedRows_20 rfl (nI_1 _) (by decide) rfl ?_
        refine G_iinc 1 (v := nI (i + 1)) (ls' := [(2, .int (nI (i + 1))), (1, .int (nI (c + 1))), (0, .ref 14)]) d_H_reachedRows_23 rfl (nI_1 _) (by decide) rfl ?_
        refine G_goto 4 d_H_reachedRows_26 (by decide) ?_
        exact G_sub [0, 1, 2] rfl (ih (i + 1) _ (by omega) (by omega) (by rw [h3, rcnt_y u14]))
      · refine G_ifeq 23 d_H_reachedRows_17 (by decide) (fun _ => ?_) (fun h => absurd h (by decide))
        refine G_iinc 0 (v := nI (i + 1)) (ls' := [(2, .int (nI (i + 1))), (1, .int (nI c)), (0, .ref 14)]) d_H_reachedRows_23 rfl (nI_1 _) (by decide) rfl ?_
        refine G_goto 4 d_H_reachedRows_26 (by decide) ?_
        exact G_sub [0, 1, 2] rfl (ih (i + 1) _ (by omega) (by omega) (by rw [h3, rcnt_n u14]))
set_option maxHeartbeats 600000 in
set_option maxRecDepth 100000 in
theorem c_H0_reached {K : KC} {M : MC} {o : Nat → Int64} {nc ns : Nat} {R : MC} {d s0 n np : Nat} {P : Nat → Nat} {pi : Nat → List Nat} (hX : SXK R s0 n P (vw0 K np pi)) (erc : K.1 11 = nI n) (hn : n ≤ 8) (hnp2 : np ≤ 40) (hO : rO K R) (hL : rL K R) (efs : K.1 10 = nI s0) (epc : K.1 12 = nI np) (hs0 : s0 < mS R) {post : mj_O → mj_H → Prop} (k : post (.inl (some (.int (nI (rcnt (fun i => HASL R s0 [P i] ((List.range i).map P)) n))))) (hp K M o, nc, ns)) : mj_G y_H_reachedRows b_H_reachedRows 3 (some .int) [] (d + 45) none 0 [(0, .ref 14)] [] (hp K M o, nc, ns) post := by
  refine G_iconst (v := nI 0) d_H_reachedRows_0 (by decide) ?_
  refine G_istore_n (ls' := [(1, .int (nI 0)), (0, .ref 14)]) d_H_reachedRows_1 (by decide) rfl ?_
  refine G_iconst (v := nI 0) d_H_reachedRows_2 (by decide) ?_
  refine G_istore_n (ls' := [(2, .int (nI 0)), (1, .int (nI 0)), (0, .ref 14)]) d_H_reachedRows_3 (by decide) rfl ?_
  exact G_sub [0, 1, 2] rfl (l_H0_reached hX erc hn hnp2 hO hL efs epc hs0 k (n + 1) 0 0 (by omega) (by omega) rfl)
theorem hv1_iff {K : KC} {R : MC} {s0 n np : Nat} {P : Nat → Nat} {pi : Nat → List Nat} {i : Nat} (hX : SXK R s0 n P (vw1 K np pi)) (hL : rL K R) (hi : i < n) : (iB (K.1 2) s0 = true ∧ (∀ y, y < np → lB (K.2.2 30 i) y = true → ¬ K.2.1 34 y = 0 → ∃ c, c < 32 ∧ K.2.1 (32 + i) y = nI c ∧ iB (K.1 3) c = true)) ↔ LV R s0 ∧ HV R (vw1 K np pi) i := by
  have q30 := hX.2.1.2.1
  refine and_congr (hL.1 s0) ⟨fun h j hj hs => ?_, fun h j _ hj hs => ?_⟩
  · obtain ⟨c, c1, c2, c3⟩ := h j (row_lt hX hi hj) hj hs
    obtain ⟨z1, z2⟩ := (hL.2 c).mp c3
    exact ⟨c, z1, c2, z2⟩
  · obtain ⟨c, c1, c2, c3⟩ := h j hj hs
    exact ⟨c, by omega, c2, (hL.2 c).mpr ⟨c1, c3⟩⟩
theorem c_H1_hasV2 {K : KC} {M : MC} {o : Nat → Int64} {nc ns : Nat} {R : MC} {d s0 n np : Nat} {P : Nat → Nat} {pi : Nat → List Nat} {i : Nat} (hX : SXK R s0 n P (vw1 K np pi)) (erc : K.1 21 = nI n) (hn : n ≤ 2) (hnp2 : np ≤ 24) (hO : rO K R) (hL : rL K R) (efs : K.1 20 = nI s0) (epc : K.1 22 = nI np) (hs0 : s0 < mS R) (hi : i < n) {post : mj_O → mj_H → Prop} (k1 : LV R s0 ∧ HV R (vw1 K np pi) i → post (.inl (some (.int 1))) (hp K M o, nc, ns)) (k0 : ¬ (LV R s0 ∧ HV R (vw1 K np pi) i) → post (.inl (some (.int 0))) (hp K M o, nc, ns)) : mj_G y_H_hasValue b_H_hasValue 4 (some .boolean) [] (d + 1) none 0 [(0, .ref 29), (1, .int (nI i))] [] (hp K M o, nc, ns) post := by
  have q12 := hX.1.2.2
  have q30 := hX.2.1.2.1
  refine c_H1_hasValue (s0 := s0) efs (by omega) epc hX.2.2.2.2 hnp2 (by omega) (fun y h1 h2 h3 => ?_) (fun q => k1 ((hv1_iff hX hL hi).mp q)) (fun q => k0 (fun q2 => q ((hv1_iff hX hL hi).mpr q2)))
  obtain ⟨c, c1, c2, -⟩ := row_val hX hi h2 h3
  exact ⟨c, by omega, c2⟩
set_option maxHeartbeats 600000 in
set_option maxRecDepth 100000 in
theorem c_H1_reaches {K : KC} {M : MC} {o : Nat → Int64} {nc ns : Nat} {R : MC} {d s0 n np : Nat} {P : Nat → Nat} {pi : Nat → List Nat} {i : Nat} (hX : SXK R s0 n P (vw1 K np pi)) (erc : K.1 21 = nI n) (hn : n ≤ 2) (hnp2 : np ≤ 24) (hO : rO K R) (hL : rL K R) (efs : K.1 20 = nI s0) (epc : K.1 22 = nI np) (hs0 : s0 < mS R) (hi : i < n) {post : mj_O → mj_H → Prop} (k1 : HASL R s0 [P i] ((List.range i).map P) → post (.inl (some (.int 1))) (hp K M o, nc, ns)) (k0 : ¬ HASL R s0 [P i] ((List.range i).map P) → post (.inl (some (.int 0))) (hp K M o, nc, ns)) : mj_G y_H_reaches b_H_reaches 2 (some .boolean) [] (d + 44) none 0 [(0, .ref 29), (1, .int (nI i))] [] (hp K M o, nc, ns) post := by
  refine G_aload_n 0 d_H_reaches_0 rfl ?_
  refine G_iload_n 1 d_H_reaches_1 rfl ?_
  refine G_cvB (LV R s0 ∧ HV R (vw1 K np pi) i) (As := [.int (nI i)]) d_H_reaches_2 cv_H_88 cw_H_hasValue (ob_H1 K M o) np_H_hasValue (Nat.le_of_ble_eq_true rfl) (Nat.le_of_ble_eq_true rfl) (fun post2 k1 k0 => c_H1_hasV2 hX erc hn hnp2 hO hL efs epc hs0 hi k1 k0) (fun u2 => ?_) (fun u2 => ?_)
  · have hl := u2.1
    refine G_ifeq 31 d_H_reaches_5 (by decide) (fun h => absurd h (by decide)) (fun _ => ?_)
    refine G_aload_n 0 d_H_reaches_8 rfl ?_
    refine G_aload_n 0 d_H_reaches_9 rfl ?_
    refine G_iload_n 1 d_H_reaches_10 rfl ?_
    refine G_cvp (fun a9 A9 => ∃ v : Int32, a9 = some (.int v) ∧ A9 = (hp K M o, nc, ns) ∧ (∀ r, iB v r = true ↔ r < i ∧ AGR (vw1 K np pi) r i)) (As := [.int (nI i)]) d_H_reaches_11 cv_H_92 cw_H_rowsBeforeThatAgree (ob_H1 K M o) np_H_rowsBeforeThatAgree (Nat.le_of_ble_eq_true rfl) (Nat.le_of_ble_eq_true rfl) (fun post2 kq => c_H1_before epc hX.2.2.2.2 hnp2 (by omega) (fun v9 g9 => kq _ _ ⟨v9, rfl, rfl, g9⟩)) (fun a9 A9 h9 => by obtain ⟨v9, -, rfl, -⟩ := h9; rfl) (fun a9 A9 h9 => ?_)
    obtain ⟨v, rfl, rfl, g_v⟩ := h9
    refine G_aload_n 0 d_H_reaches_14 rfl ?_
    refine G_gt d_H_reaches_15 fr_H_19 (rd_H1_asked K M o) ?_
    refine G_iload_n 1 d_H_reaches_18 rfl ?_
    refine G_lalN d_H_reaches_19 (ar_30 K M o) (by decide) (by omega) ?_
    refine G_iconst (v := nI 0) d_H_reaches_20 (by decide) ?_
    refine G_cvB (SE R s0 n P v (uRow (vw1 K np pi) i)) (As := [.int v, .long (K.2.2 30 i), .int (nI 0)]) d_H_reaches_21 cv_H_96 cw_H_escapes (ob_H1 K M o) np_H_escapes (Nat.le_of_ble_eq_true rfl) (Nat.le_of_ble_eq_true rfl) (fun post2 k1 k0 => c_H1_escapes (d := d) hX erc hn hnp2 hO hL hl 41 v _ (uRow (vw1 K np pi) i) 0 (Nat.lt_of_le_of_lt (rcnt_le _ _) (by have := hX.2.2.2.2; omega)) (by omega) (ES_row hX hi u2.2 g_v) post2 k1 k0) (fun u21 => ?_) (fun u21 => ?_)
    · refine G_ifeq 31 d_H_reaches_24 (by decide) (fun h => absurd h (by decide)) (fun _ => ?_)
      refine G_iconst (v := 1) d_H_reaches_27 (by decide) ?_
      refine G_goto 32 d_H_reaches_28 (by decide) ?_
      exact G_zret d_H_reaches_32 rfl rfl (k1 ⟨hl, (reach_iff hX hi u2.2 g_v).mp u21⟩)
    · refine G_ifeq 31 d_H_reaches_24 (by decide) (fun _ => ?_) (fun h => absurd h (by decide))
      refine G_iconst (v := 0) d_H_reaches_31 (by decide) ?_
      exact G_zret d_H_reaches_32 rfl rfl (k0 (fun q => u21 ((reach_iff hX hi u2.2 g_v).mpr q.2)))
  · refine G_ifeq 31 d_H_reaches_5 (by decide) (fun _ => ?_) (fun h => absurd h (by decide))
    refine G_iconst (v := 0) d_H_reaches_31 (by decide) ?_
    exact G_zret d_H_reaches_32 rfl rfl (k0 (fun q => u2 ⟨q.1, reach_HV hX hi q.2⟩))
