/-! what a sheet's readers answer -/
theorem lcmp_0 {x : Int64} : lg_cmp x 0 = 0 ↔ x = 0 := by
  unfold lg_cmp
  by_cases h1 : x > 0
  · rw [if_pos h1]
    exact ⟨fun z => absurd z (by decide), fun z => by rw [z] at h1; exact absurd h1 (by decide)⟩
  · rw [if_neg h1]
    by_cases h2 : x = 0
    · rw [if_pos h2]; exact ⟨fun _ => h2, fun _ => rfl⟩
    · rw [if_neg h2]; exact ⟨fun z => absurd z (by decide), fun z => absurd z h2⟩
theorem nb {b : Bool} (h : ¬ b = true) : b = false := by cases b with
  | false => rfl
  | true => exact absurd rfl h
theorem ntI {A : mj_H} {d k : Nat} {x : Int32} (hk : k < 32) (h1 : iB x k = true) (h0 : ∀ j, j < k → iB x j = false) {post : mj_O → mj_H → Prop} (kk : post (.inl (some (.int (nI k)))) A) : mj_G y_JI_numberOfTrailingZeros b_JI_numberOfTrailingZeros 2 (some .int) [] d none 0 [(0, .int x)] [] A post := by
  refine c_JI_ntz (low_bits hk h1 h0) ?_
  rw [ntz_ok k hk]; exact kk
set_option maxHeartbeats 600000 in
set_option maxRecDepth 100000 in
theorem c_JL_ntz0 {K : KC} {M : MC} {o : Nat → Int64} {nc ns : Nat} {d k : Nat} {x : Int64} (hk : k < 32) (h1 : lB x k = true) (h0 : ∀ j, j < k → lB x j = false) {post : mj_O → mj_H → Prop} (kk : post (.inl (some (.int (nI k)))) (hp K M o, nc, ns)) : mj_G y_JL_numberOfTrailingZeros b_JL_numberOfTrailingZeros 3 (some .int) [] (d + 1) none 0 [(0, .long x)] [] (hp K M o, nc, ns) post := by
  have ne0 : x.toInt32 = 0 → False := fun e => by
    have := (toI32_B (x := x) hk).trans h1
    rw [e, iB_0] at this; cases this
  refine G_lload_n 0 d_JL_numberOfTrailingZeros_0 rfl ?_
  refine G_l2i d_JL_numberOfTrailingZeros_1 ?_
  refine G_istore_n (ls' := [(2, .int x.toInt32), (0, .long x)]) d_JL_numberOfTrailingZeros_2 (by decide) rfl ?_
  refine G_iload_n 0 d_JL_numberOfTrailingZeros_3 rfl ?_
  refine G_ifne 21 d_JL_numberOfTrailingZeros_4 (by decide) (fun h4 => ?_) (fun h4 => False.elim (ne0 h4))
  refine G_iload_n 0 d_JL_numberOfTrailingZeros_21 rfl ?_
  refine G_cs1 (some (.int (nI k))) (hp K M o, nc, ns) (As := [.int x.toInt32]) d_JL_numberOfTrailingZeros_22 cs_JL_311 cw_JI_numberOfTrailingZeros np_JI_numberOfTrailingZeros (Nat.le_of_ble_eq_true rfl) (Nat.le_of_ble_eq_true rfl) (fun post2 k2 => ntI hk (x := x.toInt32) ((toI32_B hk).trans h1) (fun j hj => (toI32_B (by omega)).trans (h0 j hj)) k2) rfl ?_
  exact G_iret d_JL_numberOfTrailingZeros_25 rfl kk
set_option maxHeartbeats 600000 in
set_option maxRecDepth 100000 in
theorem c_JL_ntz1 {K : KC} {M : MC} {o : Nat → Int64} {nc ns : Nat} {d k : Nat} {x : Int64} (hk : k < 32) (h1 : lB x (32 + k) = true) (h0 : ∀ j, j < 32 + k → lB x j = false) {post : mj_O → mj_H → Prop} (kk : post (.inl (some (.int (nI (32 + k))))) (hp K M o, nc, ns)) : mj_G y_JL_numberOfTrailingZeros b_JL_numberOfTrailingZeros 3 (some .int) [] (d + 1) none 0 [(0, .long x)] [] (hp K M o, nc, ns) post := by
  have e0 : ¬ x.toInt32 = 0 → False := fun z => z (iB_ext fun j hj => by rw [toI32_B hj, iB_0]; exact h0 j (by omega))
  refine G_lload_n 0 d_JL_numberOfTrailingZeros_0 rfl ?_
  refine G_l2i d_JL_numberOfTrailingZeros_1 ?_
  refine G_istore_n (ls' := [(2, .int x.toInt32), (0, .long x)]) d_JL_numberOfTrailingZeros_2 (by decide) rfl ?_
  refine G_iload_n 0 d_JL_numberOfTrailingZeros_3 rfl ?_
  refine G_ifne 21 d_JL_numberOfTrailingZeros_4 (by decide) (fun h4 => False.elim (e0 h4)) (fun h4 => ?_)
  refine G_bipush (v := nI 32) d_JL_numberOfTrailingZeros_7 (by decide) ?_
  refine G_lload_n 1 d_JL_numberOfTrailingZeros_9 rfl ?_
  refine G_bipush (v := 32) d_JL_numberOfTrailingZeros_10 (by decide) ?_
  refine G_lushr d_JL_numberOfTrailingZeros_12 ?_
  refine G_l2i d_JL_numberOfTrailingZeros_13 ?_
  refine G_cs1 (some (.int (nI k))) (hp K M o, nc, ns) (As := [.int (((x.toUInt64 >>> ((32 : Int32).toInt64.toUInt64 &&& Int64.toUInt64 63)).toInt64).toInt32)]) d_JL_numberOfTrailingZeros_14 cs_JL_311 cw_JI_numberOfTrailingZeros np_JI_numberOfTrailingZeros (Nat.le_of_ble_eq_true rfl) (Nat.le_of_ble_eq_true rfl) (fun post2 k2 => ntI hk (x := ((x.toUInt64 >>> (((32 : Int32)).toInt64.toUInt64 &&& Int64.toUInt64 63)).toInt64).toInt32) ((shr32_B hk).trans h1) (fun j hj => (shr32_B (by omega)).trans (h0 (32 + j) (by omega))) k2) rfl ?_
  refine G_iadd d_JL_numberOfTrailingZeros_17 ?_
  rw [nI_add]
  refine G_goto 25 d_JL_numberOfTrailingZeros_18 (by decide) ?_
  exact G_iret d_JL_numberOfTrailingZeros_25 rfl kk
theorem c_JL_ntz {K : KC} {M : MC} {o : Nat → Int64} {nc ns : Nat} {d k : Nat} {x : Int64} (hk : k < 64) (h1 : lB x k = true) (h0 : ∀ j, j < k → lB x j = false) {post : mj_O → mj_H → Prop} (kk : post (.inl (some (.int (nI k)))) (hp K M o, nc, ns)) : mj_G y_JL_numberOfTrailingZeros b_JL_numberOfTrailingZeros 3 (some .int) [] (d + 1) none 0 [(0, .long x)] [] (hp K M o, nc, ns) post := by
  by_cases h : k < 32
  · exact c_JL_ntz0 h h1 h0 kk
  · obtain ⟨k2, rfl⟩ : ∃ k2, k = 32 + k2 := ⟨k - 32, by omega⟩
    exact c_JL_ntz1 (by omega) h1 h0 kk
theorem or_y {P : Nat → Prop} {c : Nat} {v : Int32} (hc : c < 32) (h : ∀ j, iB v j = true ↔ P j) : ∀ j, iB (v ||| 1 <<< (nI c &&& 31)) j = true ↔ P j ∨ j = c := fun j => by
  rw [iB_or, Bool.or_eq_true, h, iB_one hc, decide_eq_true_eq]
  exact or_congr Iff.rfl eq_comm
set_option maxHeartbeats 600000 in
set_option maxRecDepth 100000 in
theorem c_H0_isAsked {K : KC} {M : MC} {o : Nat → Int64} {nc ns : Nat} {d i j : Nat} (hi : i < 8) (hj : j < 64) {post : mj_O → mj_H → Prop} (k1 : lB (K.2.2 15 i) j = true → post (.inl (some (.int 1))) (hp K M o, nc, ns)) (k0 : ¬ lB (K.2.2 15 i) j = true → post (.inl (some (.int 0))) (hp K M o, nc, ns)) : mj_G y_H_isAsked b_H_isAsked 3 (some .boolean) [] d none 0 [(0, .ref 14), (1, .int (nI i)), (2, .int (nI j))] [] (hp K M o, nc, ns) post := by
  refine G_aload_n 0 d_H_isAsked_0 rfl ?_
  refine G_gt d_H_isAsked_1 fr_H_19 (rd_H0_asked K M o) ?_
  refine G_iload_n 1 d_H_isAsked_4 rfl ?_
  refine G_lalN d_H_isAsked_5 (ar_15 K M o) (by decide) (by omega) ?_
  refine G_iload_n 2 d_H_isAsked_6 rfl ?_
  refine G_lshr d_H_isAsked_7 ?_
  refine G_lconst (v := 1) d_H_isAsked_8 (by decide) ?_
  refine G_land d_H_isAsked_9 ?_
  refine G_lconst (v := 0) d_H_isAsked_10 (by decide) ?_
  refine G_lcmp d_H_isAsked_11 ?_
  refine G_ifeq 19 d_H_isAsked_12 (by decide) (fun h12 => ?_) (fun h12 => ?_)
  · refine G_iconst (v := 0) d_H_isAsked_19 (by decide) ?_
    exact G_zret d_H_isAsked_20 rfl rfl (k0 (by rw [(lB_test hj).mp (lcmp_0.mp h12)]; decide))
  · refine G_iconst (v := 1) d_H_isAsked_15 (by decide) ?_
    refine G_goto 20 d_H_isAsked_16 (by decide) ?_
    exact G_zret d_H_isAsked_20 rfl rfl (k1 (Classical.byContradiction fun z => h12 (lcmp_0.mpr ((lB_test hj).mpr (nb z)))))
set_option maxHeartbeats 600000 in
set_option maxRecDepth 100000 in
theorem l_H0_least {K : KC} {M : MC} {o : Nat → Int64} {nc ns : Nat} {d n : Nat} {x : Int32} {y : Int64} (erc : K.1 11 = nI n) (hn : n ≤ 8) (hA : ∀ i, i < n → ∀ j, lB (K.2.2 15 i) j = true → j < 40) (hx : ∃ r, r < n ∧ iB x r = true) {post : mj_O → mj_H → Prop} (k : ∀ r, r < n → iB x r = true → post (.inl (some (.int (nI r)))) (hp K M o, nc, ns)) : ∀ (m i : Nat) (q v : Int32), i ≤ n → n < i + m → (v = 0 ∧ q = 41 ∧ ∀ r, r < i → ¬ iB x r = true) ∨ (∃ r, r < i ∧ v = nI r ∧ iB x r = true) → mj_G y_H_rowWithLeastLeft b_H_rowWithLeastLeft 8 (some .int) [] (d + 1) none 10 [(6, .int (nI i)), (5, .int q), (4, .int v), (0, .ref 14), (1, .int x), (2, .long y)] [] (hp K M o, nc, ns) post := by
  intro m
  induction m with
  | zero => intro i q v h1 h2; omega
  | succ m ih =>
    intro i q v h1 h2 h3
    refine G_iload 0 d_H_rowWithLeastLeft_10 rfl ?_
    refine G_aload_n 3 d_H_rowWithLeastLeft_12 rfl ?_
    refine G_gt d_H_rowWithLeastLeft_13 fr_H_49 (rd_H0_rowCount K M o) ?_
    rw [show K.1 11 = nI n from erc]
    refine G_icge 67 d_H_rowWithLeastLeft_16 (by decide) (fun h16 => ?_) (fun h16 => ?_)
    · have h16 := (nI_leI (by omega) (by omega)).mp h16
      obtain rfl : i = n := by omega
      refine G_iload 2 d_H_rowWithLeastLeft_67 rfl ?_
      exact G_iret d_H_rowWithLeastLeft_69 rfl (by obtain ⟨r, z1, rfl, z3⟩ := h3.resolve_left (fun z => by obtain ⟨r, r1, r2⟩ := hx; exact z.2.2 r r1 r2); exact k r z1 z3)
    · have h16 : ¬ _ := fun z => h16 ((nI_leI (by omega) (by omega)).mpr z)
      refine G_aload_n 3 d_H_rowWithLeastLeft_19 rfl ?_
      refine G_gt d_H_rowWithLeastLeft_20 fr_H_19 (rd_H0_asked K M o) ?_
      refine G_iload 0 d_H_rowWithLeastLeft_23 rfl ?_
      refine G_lalN d_H_rowWithLeastLeft_25 (ar_15 K M o) (by decide) (by omega) ?_
      refine G_lload_n 5 d_H_rowWithLeastLeft_26 rfl ?_
      refine G_ldc2 (v := (-1)) d_H_rowWithLeastLeft_27 (tin_1 (List.mem_of_getElem? (i := 182) rfl) rfl) ?_
      refine G_lxor d_H_rowWithLeastLeft_30 ?_
      refine G_land d_H_rowWithLeastLeft_31 ?_
      refine G_cs1 (some (.int (bcL ((K.2.2 15 i) &&& (y ^^^ (-1)))))) (hp K M o, nc, ns) (As := [.long ((K.2.2 15 i) &&& (y ^^^ (-1)))]) d_H_rowWithLeastLeft_32 cs_H_140 cw_JL_bitCount np_JL_bitCount (Nat.le_of_ble_eq_true rfl) (Nat.le_of_ble_eq_true rfl) (fun post2 k2 => c_JL_bitCount ((K.2.2 15 i) &&& (y ^^^ (-1))) k2) rfl ?_
      refine G_istore (ls' := [(7, .int (bcL ((K.2.2 15 i) &&& (y ^^^ (-1))))), (6, .int (nI i)), (5, .int q), (4, .int v), (0, .ref 14), (1, .int x), (2, .long y)]) d_H_rowWithLeastLeft_35 (by decide) rfl ?_
      refine G_iload_n 5 d_H_rowWithLeastLeft_37 rfl ?_
      refine G_iload 1 d_H_rowWithLeastLeft_38 rfl ?_
      refine G_ishr d_H_rowWithLeastLeft_40 ?_
      refine G_iconst (v := 1) d_H_rowWithLeastLeft_41 (by decide) ?_
      refine G_iand d_H_rowWithLeastLeft_42 ?_
      refine G_ifeq 61 d_H_rowWithLeastLeft_43 (by decide) (fun h43 => ?_) (fun h43 => ?_)
      · refine G_iinc 1 (v := nI (i + 1)) (ls' := [(6, .int (nI (i + 1))), (7, .int (bcL ((K.2.2 15 i) &&& (y ^^^ (-1))))), (5, .int q), (4, .int v), (0, .ref 14), (1, .int x), (2, .long y)]) d_H_rowWithLeastLeft_61 rfl (nI_1 _) (by decide) rfl ?_
        refine G_goto 10 d_H_rowWithLeastLeft_64 (by decide) ?_
        exact G_sub [0, 2, 3, 4, 5, 6] rfl (ih (i + 1) _ _ (by omega) (by omega) (h3.imp (fun z => ⟨z.1, z.2.1, fun r hr => (Nat.lt_succ_iff_lt_or_eq.mp hr).elim (z.2.2 r) (fun e => by rw [e, (iB_test (by omega)).mp h43]; decide)⟩) (fun ⟨r, z1, z2, z3⟩ => ⟨r, by omega, z2, z3⟩)))
      · have hb : iB x i = true := Classical.byContradiction fun z => h43 ((iB_test (by omega)).mpr (nb z))
        refine G_iload 0 d_H_rowWithLeastLeft_46 rfl ?_
        refine G_iload 2 d_H_rowWithLeastLeft_48 rfl ?_
        refine G_icge 61 d_H_rowWithLeastLeft_50 (by decide) (fun h50 => ?_) (fun h50 => ?_)
        · refine G_iinc 1 (v := nI (i + 1)) (ls' := [(6, .int (nI (i + 1))), (7, .int (bcL ((K.2.2 15 i) &&& (y ^^^ (-1))))), (5, .int q), (4, .int v), (0, .ref 14), (1, .int x), (2, .long y)]) d_H_rowWithLeastLeft_61 rfl (nI_1 _) (by decide) rfl ?_
          refine G_goto 10 d_H_rowWithLeastLeft_64 (by decide) ?_
          exact G_sub [0, 2, 3, 4, 5, 6] rfl (ih (i + 1) _ _ (by omega) (by omega) (Or.inr (h3.elim (fun z => absurd (bcL_41 (fun y hy => hA i (by omega) y (by rw [lB_an, Bool.and_eq_true] at hy; exact hy.1))) (Int32.not_lt.mpr (by rw [← z.2.1]; exact h50))) (fun ⟨r, z1, z2, z3⟩ => ⟨r, by omega, z2, z3⟩))))
        · refine G_iload 1 d_H_rowWithLeastLeft_53 rfl ?_
          refine G_istore (ls' := [(4, .int (nI i)), (7, .int (bcL ((K.2.2 15 i) &&& (y ^^^ (-1))))), (6, .int (nI i)), (5, .int q), (0, .ref 14), (1, .int x), (2, .long y)]) d_H_rowWithLeastLeft_55 (by decide) rfl ?_
          refine G_iload 1 d_H_rowWithLeastLeft_57 rfl ?_
          refine G_istore (ls' := [(5, .int (bcL ((K.2.2 15 i) &&& (y ^^^ (-1))))), (4, .int (nI i)), (7, .int (bcL ((K.2.2 15 i) &&& (y ^^^ (-1))))), (6, .int (nI i)), (0, .ref 14), (1, .int x), (2, .long y)]) d_H_rowWithLeastLeft_59 (by decide) rfl ?_
          refine G_iinc 3 (v := nI (i + 1)) (ls' := [(6, .int (nI (i + 1))), (5, .int (bcL ((K.2.2 15 i) &&& (y ^^^ (-1))))), (4, .int (nI i)), (7, .int (bcL ((K.2.2 15 i) &&& (y ^^^ (-1))))), (0, .ref 14), (1, .int x), (2, .long y)]) d_H_rowWithLeastLeft_61 rfl (nI_1 _) (by decide) rfl ?_
          refine G_goto 10 d_H_rowWithLeastLeft_64 (by decide) ?_
          exact G_sub [0, 1, 2, 4, 5, 6] rfl (ih (i + 1) _ _ (by omega) (by omega) (Or.inr ⟨i, by omega, rfl, hb⟩))
set_option maxHeartbeats 600000 in
set_option maxRecDepth 100000 in
theorem c_H0_least {K : KC} {M : MC} {o : Nat → Int64} {nc ns : Nat} {d n : Nat} {x : Int32} {y : Int64} (erc : K.1 11 = nI n) (hn : n ≤ 8) (hA : ∀ i, i < n → ∀ j, lB (K.2.2 15 i) j = true → j < 40) (hx : ∃ r, r < n ∧ iB x r = true) {post : mj_O → mj_H → Prop} (k : ∀ r, r < n → iB x r = true → post (.inl (some (.int (nI r)))) (hp K M o, nc, ns)) : mj_G y_H_rowWithLeastLeft b_H_rowWithLeastLeft 8 (some .int) [] (d + 1) none 0 [(0, .ref 14), (1, .int x), (2, .long y)] [] (hp K M o, nc, ns) post := by
  refine G_iconst (v := 0) d_H_rowWithLeastLeft_0 (by decide) ?_
  refine G_istore (ls' := [(4, .int 0), (0, .ref 14), (1, .int x), (2, .long y)]) d_H_rowWithLeastLeft_1 (by decide) rfl ?_
  refine G_bipush (v := 41) d_H_rowWithLeastLeft_3 (by decide) ?_
  refine G_istore (ls' := [(5, .int 41), (4, .int 0), (0, .ref 14), (1, .int x), (2, .long y)]) d_H_rowWithLeastLeft_5 (by decide) rfl ?_
  refine G_iconst (v := nI 0) d_H_rowWithLeastLeft_7 (by decide) ?_
  refine G_istore (ls' := [(6, .int (nI 0)), (5, .int 41), (4, .int 0), (0, .ref 14), (1, .int x), (2, .long y)]) d_H_rowWithLeastLeft_8 (by decide) rfl ?_
  exact G_sub [0, 1, 2, 3, 4, 5] rfl (l_H0_least erc hn hA hx k (n + 1) 0 41 0 (by omega) (by omega) (Or.inl ⟨rfl, rfl, fun r hr => absurd hr (Nat.not_lt_zero r)⟩))
set_option maxHeartbeats 600000 in
set_option maxRecDepth 100000 in
theorem l_H0_rowsSilentAt {K : KC} {M : MC} {o : Nat → Int64} {nc ns : Nat} {d n j : Nat} {x : Int32} (erc : K.1 11 = nI n) (hn : n ≤ 8) (hj : j < 40) {post : mj_O → mj_H → Prop} (k : ∀ v, (∀ r, iB v r = true ↔ r < n ∧ (iB x r = true ∧ ¬ lB (K.2.2 15 r) j = true)) → post (.inl (some (.int v))) (hp K M o, nc, ns)) : ∀ (m i : Nat) (v : Int32), i ≤ n → n < i + m → (∀ r, iB v r = true ↔ r < i ∧ (iB x r = true ∧ ¬ lB (K.2.2 15 r) j = true)) → mj_G y_H_rowsSilentAt b_H_rowsSilentAt 5 (some .int) [] (d + 1) none 5 [(4, .int (nI i)), (3, .int v), (0, .ref 14), (1, .int x), (2, .int (nI j))] [] (hp K M o, nc, ns) post := by
  intro m
  induction m with
  | zero => intro i v h1 h2; omega
  | succ m ih =>
    intro i v h1 h2 h3
    refine G_iload 0 d_H_rowsSilentAt_5 rfl ?_
    refine G_aload_n 2 d_H_rowsSilentAt_7 rfl ?_
    refine G_gt d_H_rowsSilentAt_8 fr_H_49 (rd_H0_rowCount K M o) ?_
    rw [show K.1 11 = nI n from erc]
    refine G_icge 46 d_H_rowsSilentAt_11 (by decide) (fun h11 => ?_) (fun h11 => ?_)
    · have h11 := (nI_leI (by omega) (by omega)).mp h11
      obtain rfl : i = n := by omega
      refine G_iload_n 1 d_H_rowsSilentAt_46 rfl ?_
      exact G_iret d_H_rowsSilentAt_47 rfl (k _ h3)
    · have h11 : ¬ _ := fun z => h11 ((nI_leI (by omega) (by omega)).mpr z)
      refine G_iload_n 3 d_H_rowsSilentAt_14 rfl ?_
      refine G_iload 0 d_H_rowsSilentAt_15 rfl ?_
      refine G_ishr d_H_rowsSilentAt_17 ?_
      refine G_iconst (v := 1) d_H_rowsSilentAt_18 (by decide) ?_
      refine G_iand d_H_rowsSilentAt_19 ?_
      refine G_ifeq 40 d_H_rowsSilentAt_20 (by decide) (fun h20 => ?_) (fun h20 => ?_)
      · refine G_iinc 0 (v := nI (i + 1)) (ls' := [(4, .int (nI (i + 1))), (3, .int v), (0, .ref 14), (1, .int x), (2, .int (nI j))]) d_H_rowsSilentAt_40 rfl (nI_1 _) (by decide) rfl ?_
        refine G_goto 5 d_H_rowsSilentAt_43 (by decide) ?_
        exact G_sub [0, 1, 2, 3, 4] rfl (ih (i + 1) _ (by omega) (by omega) (sorts_n h3 (fun z => by rw [(iB_test (by omega)).mp h20] at z; exact absurd z.1 (by decide))))
      · have hb : iB x i = true := Classical.byContradiction fun z => h20 ((iB_test (by omega)).mpr (nb z))
        refine G_aload_n 2 d_H_rowsSilentAt_23 rfl ?_
        refine G_iload 0 d_H_rowsSilentAt_24 rfl ?_
        refine G_iload_n 4 d_H_rowsSilentAt_26 rfl ?_
        refine G_cvB (lB (K.2.2 15 i) j = true) (As := [.int (nI i), .int (nI j)]) d_H_rowsSilentAt_27 cv_H_106 cw_H_isAsked (ob_H0 K M o) np_H_isAsked (Nat.le_of_ble_eq_true rfl) (Nat.le_of_ble_eq_true rfl) (fun post2 k1 k0 => c_H0_isAsked (i := i) (j := j) (by omega) (by omega) k1 k0) (fun u27 => ?_) (fun u27 => ?_)
        · refine G_ifne 40 d_H_rowsSilentAt_30 (by decide) (fun _ => ?_) (fun h => absurd h (by decide))
          refine G_iinc 0 (v := nI (i + 1)) (ls' := [(4, .int (nI (i + 1))), (3, .int v), (0, .ref 14), (1, .int x), (2, .int (nI j))]) d_H_rowsSilentAt_40 rfl (nI_1 _) (by decide) rfl ?_
          refine G_goto 5 d_H_rowsSilentAt_43 (by decide) ?_
          exact G_sub [0, 1, 2, 3, 4] rfl (ih (i + 1) _ (by omega) (by omega) (sorts_n h3 (fun z => z.2 u27)))
        · refine G_ifne 40 d_H_rowsSilentAt_30 (by decide) (fun h => absurd h (by decide)) (fun _ => ?_)
          refine G_iload_n 1 d_H_rowsSilentAt_33 rfl ?_
          refine G_iconst (v := 1) d_H_rowsSilentAt_34 (by decide) ?_
          refine G_iload 0 d_H_rowsSilentAt_35 rfl ?_
          refine G_ishl d_H_rowsSilentAt_37 ?_
          refine G_ior d_H_rowsSilentAt_38 ?_
          refine G_istore_n (ls' := [(3, .int (v ||| (1 <<< ((nI i) &&& 31)))), (4, .int (nI i)), (0, .ref 14), (1, .int x), (2, .int (nI j))]) d_H_rowsSilentAt_39 (by decide) rfl ?_
          refine G_iinc 1 (v := nI (i + 1)) (ls' := [(4, .int (nI (i + 1))), (3, .int (v ||| (1 <<< ((nI i) &&& 31)))), (0, .ref 14), (1, .int x), (2, .int (nI j))]) d_H_rowsSilentAt_40 rfl (nI_1 _) (by decide) rfl ?_
          refine G_goto 5 d_H_rowsSilentAt_43 (by decide) ?_
          exact G_sub [0, 1, 2, 3, 4] rfl (ih (i + 1) _ (by omega) (by omega) (sorts_y (by omega) h3 ⟨hb, u27⟩))
set_option maxHeartbeats 600000 in
set_option maxRecDepth 100000 in
theorem c_H0_rowsSilentAt {K : KC} {M : MC} {o : Nat → Int64} {nc ns : Nat} {d n j : Nat} {x : Int32} (erc : K.1 11 = nI n) (hn : n ≤ 8) (hj : j < 40) {post : mj_O → mj_H → Prop} (k : ∀ v, (∀ r, iB v r = true ↔ r < n ∧ (iB x r = true ∧ ¬ lB (K.2.2 15 r) j = true)) → post (.inl (some (.int v))) (hp K M o, nc, ns)) : mj_G y_H_rowsSilentAt b_H_rowsSilentAt 5 (some .int) [] (d + 1) none 0 [(0, .ref 14), (1, .int x), (2, .int (nI j))] [] (hp K M o, nc, ns) post := by
  refine G_iconst (v := 0) d_H_rowsSilentAt_0 (by decide) ?_
  refine G_istore_n (ls' := [(3, .int 0), (0, .ref 14), (1, .int x), (2, .int (nI j))]) d_H_rowsSilentAt_1 (by decide) rfl ?_
  refine G_iconst (v := nI 0) d_H_rowsSilentAt_2 (by decide) ?_
  refine G_istore (ls' := [(4, .int (nI 0)), (3, .int 0), (0, .ref 14), (1, .int x), (2, .int (nI j))]) d_H_rowsSilentAt_3 (by decide) rfl ?_
  exact G_sub [0, 1, 2, 3, 4] rfl (l_H0_rowsSilentAt erc hn hj k (n + 1) 0 0 (by omega) (by omega) (fun r => ⟨fun z => (by rw [iB_0] at z; cases z), fun z => absurd z.1 (Nat.not_lt_zero r)⟩))
set_option maxHeartbeats 600000 in
set_option maxRecDepth 100000 in
theorem l_H0_rowsAsking {K : KC} {M : MC} {o : Nat → Int64} {nc ns : Nat} {d n j : Nat} {x y : Int32} (erc : K.1 11 = nI n) (hn : n ≤ 8) (hj : j < 40) {post : mj_O → mj_H → Prop} (k : ∀ v, (∀ r, iB v r = true ↔ r < n ∧ (iB x r = true ∧ lB (K.2.2 15 r) j = true ∧ K.2.1 (17 + r) j = y)) → post (.inl (some (.int v))) (hp K M o, nc, ns)) : ∀ (m i : Nat) (v : Int32), i ≤ n → n < i + m → (∀ r, iB v r = true ↔ r < i ∧ (iB x r = true ∧ lB (K.2.2 15 r) j = true ∧ K.2.1 (17 + r) j = y)) → mj_G y_H_rowsAsking b_H_rowsAsking 6 (some .int) [] (d + 1) none 6 [(5, .int (nI i)), (4, .int v), (0, .ref 14), (1, .int x), (2, .int (nI j)), (3, .int y)] [] (hp K M o, nc, ns) post := by
  intro m
  induction m with
  | zero => intro i v h1 h2; omega
  | succ m ih =>
    intro i v h1 h2 h3
    refine G_iload 0 d_H_rowsAsking_6 rfl ?_
    refine G_aload_n 2 d_H_rowsAsking_8 rfl ?_
    refine G_gt d_H_rowsAsking_9 fr_H_49 (rd_H0_rowCount K M o) ?_
    rw [show K.1 11 = nI n from erc]
    refine G_icge 62 d_H_rowsAsking_12 (by decide) (fun h12 => ?_) (fun h12 => ?_)
    · have h12 := (nI_leI (by omega) (by omega)).mp h12
      obtain rfl : i = n := by omega
      refine G_iload 1 d_H_rowsAsking_62 rfl ?_
      exact G_iret d_H_rowsAsking_64 rfl (k _ h3)
    · have h12 : ¬ _ := fun z => h12 ((nI_leI (by omega) (by omega)).mpr z)
      refine G_iload_n 3 d_H_rowsAsking_15 rfl ?_
      refine G_iload 0 d_H_rowsAsking_16 rfl ?_
      refine G_ishr d_H_rowsAsking_18 ?_
      refine G_iconst (v := 1) d_H_rowsAsking_19 (by decide) ?_
      refine G_iand d_H_rowsAsking_20 ?_
      refine G_ifeq 56 d_H_rowsAsking_21 (by decide) (fun h21 => ?_) (fun h21 => ?_)
      · refine G_iinc 0 (v := nI (i + 1)) (ls' := [(5, .int (nI (i + 1))), (4, .int v), (0, .ref 14), (1, .int x), (2, .int (nI j)), (3, .int y)]) d_H_rowsAsking_56 rfl (nI_1 _) (by decide) rfl ?_
        refine G_goto 6 d_H_rowsAsking_59 (by decide) ?_
        exact G_sub [0, 1, 2, 3, 4, 5] rfl (ih (i + 1) _ (by omega) (by omega) (sorts_n h3 (fun z => by rw [(iB_test (by omega)).mp h21] at z; exact absurd z.1 (by decide))))
      · have hb : iB x i = true := Classical.byContradiction fun z => h21 ((iB_test (by omega)).mpr (nb z))
        refine G_aload_n 2 d_H_rowsAsking_24 rfl ?_
        refine G_iload 0 d_H_rowsAsking_25 rfl ?_
        refine G_iload_n 4 d_H_rowsAsking_27 rfl ?_
        refine G_cvB (lB (K.2.2 15 i) j = true) (As := [.int (nI i), .int (nI j)]) d_H_rowsAsking_28 cv_H_106 cw_H_isAsked (ob_H0 K M o) np_H_isAsked (Nat.le_of_ble_eq_true rfl) (Nat.le_of_ble_eq_true rfl) (fun post2 k1 k0 => c_H0_isAsked (i := i) (j := j) (by omega) (by omega) k1 k0) (fun u28 => ?_) (fun u28 => ?_)
        · refine G_ifeq 56 d_H_rowsAsking_31 (by decide) (fun h => absurd h (by decide)) (fun _ => ?_)
          refine G_aload_n 2 d_H_rowsAsking_34 rfl ?_
          refine G_gt d_H_rowsAsking_35 fr_H_25 (rd_H0_asks K M o) ?_
          refine G_iload 0 d_H_rowsAsking_38 rfl ?_
          refine G_aalN (r := 17 + i) d_H_rowsAsking_40 (ar_16 K M o) (by decide) (by omega) (if_pos (by omega)) ?_
          refine G_iload_n 4 d_H_rowsAsking_41 rfl ?_
          refine G_ialN d_H_rowsAsking_42 (arr_17 K M o (by omega)) (by decide) (by omega) ?_
          refine G_iload_n 5 d_H_rowsAsking_43 rfl ?_
          refine G_icne 56 d_H_rowsAsking_44 (by decide) (fun h44 => ?_) (fun h44 => ?_)
          · refine G_iinc 0 (v := nI (i + 1)) (ls' := [(5, .int (nI (i + 1))), (4, .int v), (0, .ref 14), (1, .int x), (2, .int (nI j)), (3, .int y)]) d_H_rowsAsking_56 rfl (nI_1 _) (by decide) rfl ?_
            refine G_goto 6 d_H_rowsAsking_59 (by decide) ?_
            exact G_sub [0, 1, 2, 3, 4, 5] rfl (ih (i + 1) _ (by omega) (by omega) (sorts_n h3 (fun z => h44 z.2.2)))
          · refine G_iload 1 d_H_rowsAsking_47 rfl ?_
            refine G_iconst (v := 1) d_H_rowsAsking_49 (by decide) ?_
            refine G_iload 0 d_H_rowsAsking_50 rfl ?_
            refine G_ishl d_H_rowsAsking_52 ?_
            refine G_ior d_H_rowsAsking_53 ?_
            refine G_istore (ls' := [(4, .int (v ||| (1 <<< ((nI i) &&& 31)))), (5, .int (nI i)), (0, .ref 14), (1, .int x), (2, .int (nI j)), (3, .int y)]) d_H_rowsAsking_54 (by decide) rfl ?_
            refine G_iinc 1 (v := nI (i + 1)) (ls' := [(5, .int (nI (i + 1))), (4, .int (v ||| (1 <<< ((nI i) &&& 31)))), (0, .ref 14), (1, .int x), (2, .int (nI j)), (3, .int y)]) d_H_rowsAsking_56 rfl (nI_1 _) (by decide) rfl ?_
            refine G_goto 6 d_H_rowsAsking_59 (by decide) ?_
            exact G_sub [0, 1, 2, 3, 4, 5] rfl (ih (i + 1) _ (by omega) (by omega) (sorts_y (by omega) h3 ⟨hb, u28, h44⟩))
        · refine G_ifeq 56 d_H_rowsAsking_31 (by decide) (fun _ => ?_) (fun h => absurd h (by decide))
          refine G_iinc 0 (v := nI (i + 1)) (ls' := [(5, .int (nI (i + 1))), (4, .int v), (0, .ref 14), (1, .int x), (2, .int (nI j)), (3, .int y)]) d_H_rowsAsking_56 rfl (nI_1 _) (by decide) rfl ?_
          refine G_goto 6 d_H_rowsAsking_59 (by decide) ?_
          exact G_sub [0, 1, 2, 3, 4, 5] rfl (ih (i + 1) _ (by omega) (by omega) (sorts_n h3 (fun z => u28 z.2.1)))
set_option maxHeartbeats 600000 in
set_option maxRecDepth 100000 in
theorem c_H0_rowsAsking {K : KC} {M : MC} {o : Nat → Int64} {nc ns : Nat} {d n j : Nat} {x y : Int32} (erc : K.1 11 = nI n) (hn : n ≤ 8) (hj : j < 40) {post : mj_O → mj_H → Prop} (k : ∀ v, (∀ r, iB v r = true ↔ r < n ∧ (iB x r = true ∧ lB (K.2.2 15 r) j = true ∧ K.2.1 (17 + r) j = y)) → post (.inl (some (.int v))) (hp K M o, nc, ns)) : mj_G y_H_rowsAsking b_H_rowsAsking 6 (some .int) [] (d + 1) none 0 [(0, .ref 14), (1, .int x), (2, .int (nI j)), (3, .int y)] [] (hp K M o, nc, ns) post := by
  refine G_iconst (v := 0) d_H_rowsAsking_0 (by decide) ?_
  refine G_istore (ls' := [(4, .int 0), (0, .ref 14), (1, .int x), (2, .int (nI j)), (3, .int y)]) d_H_rowsAsking_1 (by decide) rfl ?_
  refine G_iconst (v := nI 0) d_H_rowsAsking_3 (by decide) ?_
  refine G_istore (ls' := [(5, .int (nI 0)), (4, .int 0), (0, .ref 14), (1, .int x), (2, .int (nI j)), (3, .int y)]) d_H_rowsAsking_4 (by decide) rfl ?_
  exact G_sub [0, 1, 2, 3, 4, 5] rfl (l_H0_rowsAsking erc hn hj k (n + 1) 0 0 (by omega) (by omega) (fun r => ⟨fun z => (by rw [iB_0] at z; cases z), fun z => absurd z.1 (Nat.not_lt_zero r)⟩))
set_option maxHeartbeats 600000 in
set_option maxRecDepth 100000 in
theorem l_H0_consAskedAt {K : KC} {M : MC} {o : Nat → Int64} {nc ns : Nat} {d n j : Nat} {x : Int32} (erc : K.1 11 = nI n) (hn : n ≤ 8) (hj : j < 40) (hV : ∀ r, r < n → iB x r = true → lB (K.2.2 15 r) j = true → ∃ c, c < 32 ∧ K.2.1 (17 + r) j = nI c) {post : mj_O → mj_H → Prop} (k : ∀ v, (∀ c, c < 32 → (iB v c = true ↔ ∃ r, r < n ∧ iB x r = true ∧ lB (K.2.2 15 r) j = true ∧ K.2.1 (17 + r) j = nI c)) → post (.inl (some (.int v))) (hp K M o, nc, ns)) : ∀ (m i : Nat) (v : Int32), i ≤ n → n < i + m → (∀ c, c < 32 → (iB v c = true ↔ ∃ r, r < i ∧ iB x r = true ∧ lB (K.2.2 15 r) j = true ∧ K.2.1 (17 + r) j = nI c)) → mj_G y_H_consAskedAt b_H_consAskedAt 5 (some .int) [] (d + 1) none 5 [(4, .int (nI i)), (3, .int v), (0, .ref 14), (1, .int x), (2, .int (nI j))] [] (hp K M o, nc, ns) post := by
  intro m
  induction m with
  | zero => intro i v h1 h2; omega
  | succ m ih =>
    intro i v h1 h2 h3
    refine G_iload 0 d_H_consAskedAt_5 rfl ?_
    refine G_aload_n 2 d_H_consAskedAt_7 rfl ?_
    refine G_gt d_H_consAskedAt_8 fr_H_49 (rd_H0_rowCount K M o) ?_
    rw [show K.1 11 = nI n from erc]
    refine G_icge 53 d_H_consAskedAt_11 (by decide) (fun h11 => ?_) (fun h11 => ?_)
    · have h11 := (nI_leI (by omega) (by omega)).mp h11
      obtain rfl : i = n := by omega
      refine G_iload_n 1 d_H_consAskedAt_53 rfl ?_
      exact G_iret d_H_consAskedAt_54 rfl (k _ h3)
    · have h11 : ¬ _ := fun z => h11 ((nI_leI (by omega) (by omega)).mpr z)
      refine G_iload_n 3 d_H_consAskedAt_14 rfl ?_
      refine G_iload 0 d_H_consAskedAt_15 rfl ?_
      refine G_ishr d_H_consAskedAt_17 ?_
      refine G_iconst (v := 1) d_H_consAskedAt_18 (by decide) ?_
      refine G_iand d_H_consAskedAt_19 ?_
      refine G_ifeq 47 d_H_consAskedAt_20 (by decide) (fun h20 => ?_) (fun h20 => ?_)
      · refine G_iinc 0 (v := nI (i + 1)) (ls' := [(4, .int (nI (i + 1))), (3, .int v), (0, .ref 14), (1, .int x), (2, .int (nI j))]) d_H_consAskedAt_47 rfl (nI_1 _) (by decide) rfl ?_
        refine G_goto 5 d_H_consAskedAt_50 (by decide) ?_
        exact G_sub [0, 1, 2, 3, 4] rfl (ih (i + 1) _ (by omega) (by omega) (fun c hc32 => (h3 c hc32).trans ⟨fun ⟨r, z1, z2⟩ => ⟨r, by omega, z2⟩, fun ⟨r, z1, z2⟩ => ⟨r, (Nat.lt_succ_iff_lt_or_eq.mp z1).elim id (fun e => by rw [e, (iB_test (by omega)).mp h20] at z2; exact absurd z2.1 (by decide)), z2⟩⟩))
      · have hb : iB x i = true := Classical.byContradiction fun z => h20 ((iB_test (by omega)).mpr (nb z))
        refine G_aload_n 2 d_H_consAskedAt_23 rfl ?_
        refine G_iload 0 d_H_consAskedAt_24 rfl ?_
        refine G_iload_n 4 d_H_consAskedAt_26 rfl ?_
        refine G_cvB (lB (K.2.2 15 i) j = true) (As := [.int (nI i), .int (nI j)]) d_H_consAskedAt_27 cv_H_106 cw_H_isAsked (ob_H0 K M o) np_H_isAsked (Nat.le_of_ble_eq_true rfl) (Nat.le_of_ble_eq_true rfl) (fun post2 k1 k0 => c_H0_isAsked (i := i) (j := j) (by omega) (by omega) k1 k0) (fun u27 => ?_) (fun u27 => ?_)
        · obtain ⟨cv, hcv, hv2⟩ := hV i (by omega) hb u27
          refine G_ifeq 47 d_H_consAskedAt_30 (by decide) (fun h => absurd h (by decide)) (fun _ => ?_)
          refine G_iload_n 1 d_H_consAskedAt_33 rfl ?_
          refine G_iconst (v := 1) d_H_consAskedAt_34 (by decide) ?_
          refine G_aload_n 2 d_H_consAskedAt_35 rfl ?_
          refine G_gt d_H_consAskedAt_36 fr_H_25 (rd_H0_asks K M o) ?_
          refine G_iload 0 d_H_consAskedAt_39 rfl ?_
          refine G_aalN (r := 17 + i) d_H_consAskedAt_41 (ar_16 K M o) (by decide) (by omega) (if_pos (by omega)) ?_
          refine G_iload_n 4 d_H_consAskedAt_42 rfl ?_
          refine G_ialN d_H_consAskedAt_43 (arr_17 K M o (by omega)) (by decide) (by omega) ?_
          rw [hv2]
          refine G_ishl d_H_consAskedAt_44 ?_
          refine G_ior d_H_consAskedAt_45 ?_
          refine G_istore_n (ls' := [(3, .int (v ||| (1 <<< ((nI cv) &&& 31)))), (4, .int (nI i)), (0, .ref 14), (1, .int x), (2, .int (nI j))]) d_H_consAskedAt_46 (by decide) rfl ?_
          refine G_iinc 1 (v := nI (i + 1)) (ls' := [(4, .int (nI (i + 1))), (3, .int (v ||| (1 <<< ((nI cv) &&& 31)))), (0, .ref 14), (1, .int x), (2, .int (nI j))]) d_H_consAskedAt_47 rfl (nI_1 _) (by decide) rfl ?_
          refine G_goto 5 d_H_consAskedAt_50 (by decide) ?_
          exact G_sub [0, 1, 2, 3, 4] rfl (ih (i + 1) _ (by omega) (by omega) (fun c hc32 => (or_y (P := fun y => iB v y = true) (by omega) (fun y => Iff.rfl) c).trans (((or_congr (h3 c hc32) Iff.rfl)).trans ⟨fun z => z.elim (fun ⟨r, z1, z2⟩ => ⟨r, by omega, z2⟩) (fun e => ⟨i, by omega, hb, u27, by rw [e]; exact hv2⟩), fun ⟨r, z1, z2⟩ => (Nat.lt_succ_iff_lt_or_eq.mp z1).elim (fun h => Or.inl ⟨r, h, z2⟩) (fun e => Or.inr ((nI_eq (by omega) (by omega)).mp (by rw [e] at z2; exact z2.2.2.symm.trans hv2)))⟩)))
        · refine G_ifeq 47 d_H_consAskedAt_30 (by decide) (fun _ => ?_) (fun h => absurd h (by decide))
          refine G_iinc 0 (v := nI (i + 1)) (ls' := [(4, .int (nI (i + 1))), (3, .int v), (0, .ref 14), (1, .int x), (2, .int (nI j))]) d_H_consAskedAt_47 rfl (nI_1 _) (by decide) rfl ?_
          refine G_goto 5 d_H_consAskedAt_50 (by decide) ?_
          exact G_sub [0, 1, 2, 3, 4] rfl (ih (i + 1) _ (by omega) (by omega) (fun c hc32 => (h3 c hc32).trans ⟨fun ⟨r, z1, z2⟩ => ⟨r, by omega, z2⟩, fun ⟨r, z1, z2⟩ => ⟨r, (Nat.lt_succ_iff_lt_or_eq.mp z1).elim id (fun e => by rw [e] at z2; exact absurd z2.2.1 u27), z2⟩⟩))
set_option maxHeartbeats 600000 in
set_option maxRecDepth 100000 in
theorem c_H0_consAskedAt {K : KC} {M : MC} {o : Nat → Int64} {nc ns : Nat} {d n j : Nat} {x : Int32} (erc : K.1 11 = nI n) (hn : n ≤ 8) (hj : j < 40) (hV : ∀ r, r < n → iB x r = true → lB (K.2.2 15 r) j = true → ∃ c, c < 32 ∧ K.2.1 (17 + r) j = nI c) {post : mj_O → mj_H → Prop} (k : ∀ v, (∀ c, c < 32 → (iB v c = true ↔ ∃ r, r < n ∧ iB x r = true ∧ lB (K.2.2 15 r) j = true ∧ K.2.1 (17 + r) j = nI c)) → post (.inl (some (.int v))) (hp K M o, nc, ns)) : mj_G y_H_consAskedAt b_H_consAskedAt 5 (some .int) [] (d + 1) none 0 [(0, .ref 14), (1, .int x), (2, .int (nI j))] [] (hp K M o, nc, ns) post := by
  refine G_iconst (v := 0) d_H_consAskedAt_0 (by decide) ?_
  refine G_istore_n (ls' := [(3, .int 0), (0, .ref 14), (1, .int x), (2, .int (nI j))]) d_H_consAskedAt_1 (by decide) rfl ?_
  refine G_iconst (v := nI 0) d_H_consAskedAt_2 (by decide) ?_
  refine G_istore (ls' := [(4, .int (nI 0)), (3, .int 0), (0, .ref 14), (1, .int x), (2, .int (nI j))]) d_H_consAskedAt_3 (by decide) rfl ?_
  exact G_sub [0, 1, 2, 3, 4] rfl (l_H0_consAskedAt erc hn hj hV k (n + 1) 0 0 (by omega) (by omega) (fun c _ => ⟨fun z => (by rw [iB_0] at z; cases z), fun ⟨r, z, _⟩ => absurd z (Nat.not_lt_zero r)⟩))
set_option maxHeartbeats 600000 in
set_option maxRecDepth 100000 in
theorem l_H0_agree {K : KC} {M : MC} {o : Nat → Int64} {nc ns : Nat} {d np i i2 : Nat} (epc : K.1 12 = nI np) (hnp : np ≤ 40) (hnp2 : np ≤ 40) (hi : i < 8) (hi2 : i2 < 8) {post : mj_O → mj_H → Prop} (k1 : (∀ j, j < np → lB (K.2.2 15 i) j = true → lB (K.2.2 15 i2) j = true → K.2.1 (17 + i) j = K.2.1 (17 + i2) j) → post (.inl (some (.int 1))) (hp K M o, nc, ns)) (k0 : ¬ (∀ j, j < np → lB (K.2.2 15 i) j = true → lB (K.2.2 15 i2) j = true → K.2.1 (17 + i) j = K.2.1 (17 + i2) j) → post (.inl (some (.int 0))) (hp K M o, nc, ns)) : ∀ (m j : Nat), j ≤ np → np < j + m → (∀ y, y < j → lB (K.2.2 15 i) y = true → lB (K.2.2 15 i2) y = true → K.2.1 (17 + i) y = K.2.1 (17 + i2) y) → mj_G y_H_agree b_H_agree 5 (some .boolean) [] (d + 1) none 2 [(3, .int (nI j)), (0, .ref 14), (1, .int (nI i)), (2, .int (nI i2))] [] (hp K M o, nc, ns) post := by
  intro m
  induction m with
  | zero => intro j h1 h2; omega
  | succ m ih =>
    intro j h1 h2 h3
    refine G_iload_n 0 d_H_agree_2 rfl ?_
    refine G_aload_n 1 d_H_agree_3 rfl ?_
    refine G_gt d_H_agree_4 fr_H_52 (rd_H0_placeCount K M o) ?_
    rw [show K.1 12 = nI np from epc]
    refine G_icge 67 d_H_agree_7 (by decide) (fun h7 => ?_) (fun h7 => ?_)
    · have h7 := (nI_leI (by omega) (by omega)).mp h7
      obtain rfl : j = np := by omega
      refine G_iconst (v := 1) d_H_agree_67 (by decide) ?_
      exact G_zret d_H_agree_68 rfl rfl (k1 h3)
    · have h7 : ¬ _ := fun z => h7 ((nI_leI (by omega) (by omega)).mpr z)
      refine G_aload_n 1 d_H_agree_10 rfl ?_
      refine G_iload_n 2 d_H_agree_11 rfl ?_
      refine G_iload_n 0 d_H_agree_12 rfl ?_
      refine G_cvB (lB (K.2.2 15 i) j = true) (As := [.int (nI i), .int (nI j)]) d_H_agree_13 cv_H_106 cw_H_isAsked (ob_H0 K M o) np_H_isAsked (Nat.le_of_ble_eq_true rfl) (Nat.le_of_ble_eq_true rfl) (fun post2 k1 k0 => c_H0_isAsked (i := i) (j := j) (by omega) (by omega) k1 k0) (fun u13 => ?_) (fun u13 => ?_)
      · refine G_ifeq 32 d_H_agree_16 (by decide) (fun h => absurd h (by decide)) (fun _ => ?_)
        refine G_aload_n 1 d_H_agree_19 rfl ?_
        refine G_iload_n 3 d_H_agree_20 rfl ?_
        refine G_iload_n 0 d_H_agree_21 rfl ?_
        refine G_cvB (lB (K.2.2 15 i2) j = true) (As := [.int (nI i2), .int (nI j)]) d_H_agree_22 cv_H_106 cw_H_isAsked (ob_H0 K M o) np_H_isAsked (Nat.le_of_ble_eq_true rfl) (Nat.le_of_ble_eq_true rfl) (fun post2 k1 k0 => c_H0_isAsked (i := i2) (j := j) (by omega) (by omega) k1 k0) (fun u22 => ?_) (fun u22 => ?_)
        · refine G_ifeq 32 d_H_agree_25 (by decide) (fun h => absurd h (by decide)) (fun _ => ?_)
          refine G_iconst (v := 1) d_H_agree_28 (by decide) ?_
          refine G_goto 33 d_H_agree_29 (by decide) ?_
          refine G_istore (ls' := [(4, .int 1), (3, .int (nI j)), (0, .ref 14), (1, .int (nI i)), (2, .int (nI i2))]) d_H_agree_33 (by decide) rfl ?_
          refine G_iload 0 d_H_agree_35 rfl ?_
          refine G_ifeq 61 d_H_agree_37 (by decide) (fun h => absurd h (by decide)) (fun _ => ?_)
          refine G_aload_n 2 d_H_agree_40 rfl ?_
          refine G_gt d_H_agree_41 fr_H_25 (rd_H0_asks K M o) ?_
          refine G_iload_n 3 d_H_agree_44 rfl ?_
          refine G_aalN (r := 17 + i) d_H_agree_45 (ar_16 K M o) (by decide) (by omega) (if_pos (by omega)) ?_
          refine G_iload_n 1 d_H_agree_46 rfl ?_
          refine G_ialN d_H_agree_47 (arr_17 K M o (by omega)) (by decide) (by omega) ?_
          refine G_aload_n 2 d_H_agree_48 rfl ?_
          refine G_gt d_H_agree_49 fr_H_25 (rd_H0_asks K M o) ?_
          refine G_iload_n 4 d_H_agree_52 rfl ?_
          refine G_aalN (r := 17 + i2) d_H_agree_53 (ar_16 K M o) (by decide) (by omega) (if_pos (by omega)) ?_
          refine G_iload_n 1 d_H_agree_54 rfl ?_
          refine G_ialN d_H_agree_55 (arr_17 K M o (by omega)) (by decide) (by omega) ?_
          refine G_iceq 61 d_H_agree_56 (by decide) (fun h56 => ?_) (fun h56 => ?_)
          · refine G_iinc 1 (v := nI (j + 1)) (ls' := [(3, .int (nI (j + 1))), (4, .int 1), (0, .ref 14), (1, .int (nI i)), (2, .int (nI i2))]) d_H_agree_61 rfl (nI_1 _) (by decide) rfl ?_
            refine G_goto 2 d_H_agree_64 (by decide) ?_
            exact G_sub [0, 2, 3, 4] rfl (ih (j + 1) (by omega) (by omega) (fun y y1 y2 y3 => (Nat.lt_succ_iff_lt_or_eq.mp y1).elim (fun z => h3 y z y2 y3) (fun e => by subst e; exact h56)))
          · refine G_iconst (v := 0) d_H_agree_59 (by decide) ?_
            exact G_zret d_H_agree_60 rfl rfl (k0 (fun z => h56 (z j (by omega) u13 u22)))
        · refine G_ifeq 32 d_H_agree_25 (by decide) (fun _ => ?_) (fun h => absurd h (by decide))
          refine G_iconst (v := 0) d_H_agree_32 (by decide) ?_
          refine G_istore (ls' := [(4, .int 0), (3, .int (nI j)), (0, .ref 14), (1, .int (nI i)), (2, .int (nI i2))]) d_H_agree_33 (by decide) rfl ?_
          refine G_iload 0 d_H_agree_35 rfl ?_
          refine G_ifeq 61 d_H_agree_37 (by decide) (fun _ => ?_) (fun h => absurd h (by decide))
          refine G_iinc 1 (v := nI (j + 1)) (ls' := [(3, .int (nI (j + 1))), (4, .int 0), (0, .ref 14), (1, .int (nI i)), (2, .int (nI i2))]) d_H_agree_61 rfl (nI_1 _) (by decide) rfl ?_
          refine G_goto 2 d_H_agree_64 (by decide) ?_
          exact G_sub [0, 2, 3, 4] rfl (ih (j + 1) (by omega) (by omega) (fun y y1 y2 y3 => (Nat.lt_succ_iff_lt_or_eq.mp y1).elim (fun z => h3 y z y2 y3) (fun e => by subst e; exact absurd y3 u22)))
      · refine G_ifeq 32 d_H_agree_16 (by decide) (fun _ => ?_) (fun h => absurd h (by decide))
        refine G_iconst (v := 0) d_H_agree_32 (by decide) ?_
        refine G_istore (ls' := [(4, .int 0), (3, .int (nI j)), (0, .ref 14), (1, .int (nI i)), (2, .int (nI i2))]) d_H_agree_33 (by decide) rfl ?_
        refine G_iload 0 d_H_agree_35 rfl ?_
        refine G_ifeq 61 d_H_agree_37 (by decide) (fun _ => ?_) (fun h => absurd h (by decide))
        refine G_iinc 1 (v := nI (j + 1)) (ls' := [(3, .int (nI (j + 1))), (4, .int 0), (0, .ref 14), (1, .int (nI i)), (2, .int (nI i2))]) d_H_agree_61 rfl (nI_1 _) (by decide) rfl ?_
        refine G_goto 2 d_H_agree_64 (by decide) ?_
        exact G_sub [0, 2, 3, 4] rfl (ih (j + 1) (by omega) (by omega) (fun y y1 y2 y3 => (Nat.lt_succ_iff_lt_or_eq.mp y1).elim (fun z => h3 y z y2 y3) (fun e => by subst e; exact absurd y2 u13)))
set_option maxHeartbeats 600000 in
set_option maxRecDepth 100000 in
theorem c_H0_agree {K : KC} {M : MC} {o : Nat → Int64} {nc ns : Nat} {d np i i2 : Nat} (epc : K.1 12 = nI np) (hnp : np ≤ 40) (hnp2 : np ≤ 40) (hi : i < 8) (hi2 : i2 < 8) {post : mj_O → mj_H → Prop} (k1 : (∀ j, j < np → lB (K.2.2 15 i) j = true → lB (K.2.2 15 i2) j = true → K.2.1 (17 + i) j = K.2.1 (17 + i2) j) → post (.inl (some (.int 1))) (hp K M o, nc, ns)) (k0 : ¬ (∀ j, j < np → lB (K.2.2 15 i) j = true → lB (K.2.2 15 i2) j = true → K.2.1 (17 + i) j = K.2.1 (17 + i2) j) → post (.inl (some (.int 0))) (hp K M o, nc, ns)) : mj_G y_H_agree b_H_agree 5 (some .boolean) [] (d + 1) none 0 [(0, .ref 14), (1, .int (nI i)), (2, .int (nI i2))] [] (hp K M o, nc, ns) post := by
  refine G_iconst (v := nI 0) d_H_agree_0 (by decide) ?_
  refine G_istore_n (ls' := [(3, .int (nI 0)), (0, .ref 14), (1, .int (nI i)), (2, .int (nI i2))]) d_H_agree_1 (by decide) rfl ?_
  exact G_sub [0, 1, 2, 3] rfl (l_H0_agree epc hnp hnp2 hi hi2 k1 k0 (np + 1) 0 (by omega) (by omega) (fun y z => absurd z (Nat.not_lt_zero y)))
set_option maxHeartbeats 600000 in
set_option maxRecDepth 100000 in
theorem l_H0_before {K : KC} {M : MC} {o : Nat → Int64} {nc ns : Nat} {d np i : Nat} (epc : K.1 12 = nI np) (hnp : np ≤ 40) (hnp2 : np ≤ 40) (hi : i < 8) {post : mj_O → mj_H → Prop} (k : ∀ v, (∀ r, iB v r = true ↔ r < i ∧ (∀ j, j < np → lB (K.2.2 15 r) j = true → lB (K.2.2 15 i) j = true → K.2.1 (17 + r) j = K.2.1 (17 + i) j)) → post (.inl (some (.int v))) (hp K M o, nc, ns)) : ∀ (m c : Nat) (v : Int32), c ≤ i → i < c + m → (∀ r, iB v r = true ↔ r < c ∧ (∀ j, j < np → lB (K.2.2 15 r) j = true → lB (K.2.2 15 i) j = true → K.2.1 (17 + r) j = K.2.1 (17 + i) j)) → mj_G y_H_rowsBeforeThatAgree b_H_rowsBeforeThatAgree 4 (some .int) [] (d + 2) none 4 [(3, .int (nI c)), (2, .int v), (0, .ref 14), (1, .int (nI i))] [] (hp K M o, nc, ns) post := by
  intro m
  induction m with
  | zero => intro c v h1 h2; omega
  | succ m ih =>
    intro c v h1 h2 h3
    refine G_iload_n 0 d_H_rowsBeforeThatAgree_4 rfl ?_
    refine G_iload_n 3 d_H_rowsBeforeThatAgree_5 rfl ?_
    refine G_icge 30 d_H_rowsBeforeThatAgree_6 (by decide) (fun h6 => ?_) (fun h6 => ?_)
    · have h6 := (nI_leI (by omega) (by omega)).mp h6
      obtain rfl : c = i := by omega
      refine G_iload_n 1 d_H_rowsBeforeThatAgree_30 rfl ?_
      exact G_iret d_H_rowsBeforeThatAgree_31 rfl (k _ h3)
    · have h6 : ¬ _ := fun z => h6 ((nI_leI (by omega) (by omega)).mpr z)
      refine G_aload_n 2 d_H_rowsBeforeThatAgree_9 rfl ?_
      refine G_iload_n 0 d_H_rowsBeforeThatAgree_10 rfl ?_
      refine G_iload_n 3 d_H_rowsBeforeThatAgree_11 rfl ?_
      refine G_cvB (∀ j, j < np → lB (K.2.2 15 c) j = true → lB (K.2.2 15 i) j = true → K.2.1 (17 + c) j = K.2.1 (17 + i) j) (As := [.int (nI c), .int (nI i)]) d_H_rowsBeforeThatAgree_12 cv_H_113 cw_H_agree (ob_H0 K M o) np_H_agree (Nat.le_of_ble_eq_true rfl) (Nat.le_of_ble_eq_true rfl) (fun post2 k1 k0 => c_H0_agree (i := c) (i2 := i) epc hnp hnp2 (by omega) (by omega) k1 k0) (fun u12 => ?_) (fun u12 => ?_)
      · refine G_ifeq 24 d_H_rowsBeforeThatAgree_15 (by decide) (fun h => absurd h (by decide)) (fun _ => ?_)
        refine G_iload_n 1 d_H_rowsBeforeThatAgree_18 rfl ?_
        refine G_iconst (v := 1) d_H_rowsBeforeThatAgree_19 (by decide) ?_
        refine G_iload_n 0 d_H_rowsBeforeThatAgree_20 rfl ?_
        refine G_ishl d_H_rowsBeforeThatAgree_21 ?_
        refine G_ior d_H_rowsBeforeThatAgree_22 ?_
        refine G_istore_n (ls' := [(2, .int (v ||| (1 <<< ((nI c) &&& 31)))), (3, .int (nI c)), (0, .ref 14), (1, .int (nI i))]) d_H_rowsBeforeThatAgree_23 (by decide) rfl ?_
        refine G_iinc 1 (v := nI (c + 1)) (ls' := [(3, .int (nI (c + 1))), (2, .int (v ||| (1 <<< ((nI c) &&& 31)))), (0, .ref 14), (1, .int (nI i))]) d_H_rowsBeforeThatAgree_24 rfl (nI_1 _) (by decide) rfl ?_
        refine G_goto 4 d_H_rowsBeforeThatAgree_27 (by decide) ?_
        exact G_sub [0, 1, 2, 3] rfl (ih (c + 1) _ (by omega) (by omega) (sorts_y (by omega) h3 u12))
      · refine G_ifeq 24 d_H_rowsBeforeThatAgree_15 (by decide) (fun _ => ?_) (fun h => absurd h (by decide))
        refine G_iinc 0 (v := nI (c + 1)) (ls' := [(3, .int (nI (c + 1))), (2, .int v), (0, .ref 14), (1, .int (nI i))]) d_H_rowsBeforeThatAgree_24 rfl (nI_1 _) (by decide) rfl ?_
        refine G_goto 4 d_H_rowsBeforeThatAgree_27 (by decide) ?_
        exact G_sub [0, 1, 2, 3] rfl (ih (c + 1) _ (by omega) (by omega) (sorts_n h3 u12))
set_option maxHeartbeats 600000 in
set_option maxRecDepth 100000 in
theorem c_H0_before {K : KC} {M : MC} {o : Nat → Int64} {nc ns : Nat} {d np i : Nat} (epc : K.1 12 = nI np) (hnp : np ≤ 40) (hnp2 : np ≤ 40) (hi : i < 8) {post : mj_O → mj_H → Prop} (k : ∀ v, (∀ r, iB v r = true ↔ r < i ∧ (∀ j, j < np → lB (K.2.2 15 r) j = true → lB (K.2.2 15 i) j = true → K.2.1 (17 + r) j = K.2.1 (17 + i) j)) → post (.inl (some (.int v))) (hp K M o, nc, ns)) : mj_G y_H_rowsBeforeThatAgree b_H_rowsBeforeThatAgree 4 (some .int) [] (d + 2) none 0 [(0, .ref 14), (1, .int (nI i))] [] (hp K M o, nc, ns) post := by
  refine G_iconst (v := 0) d_H_rowsBeforeThatAgree_0 (by decide) ?_
  refine G_istore_n (ls' := [(2, .int 0), (0, .ref 14), (1, .int (nI i))]) d_H_rowsBeforeThatAgree_1 (by decide) rfl ?_
  refine G_iconst (v := nI 0) d_H_rowsBeforeThatAgree_2 (by decide) ?_
  refine G_istore_n (ls' := [(3, .int (nI 0)), (2, .int 0), (0, .ref 14), (1, .int (nI i))]) d_H_rowsBeforeThatAgree_3 (by decide) rfl ?_
  exact G_sub [0, 1, 2, 3] rfl (l_H0_before epc hnp hnp2 hi k (i + 1) 0 0 (by omega) (by omega) (fun r => ⟨fun z => (by rw [iB_0] at z; cases z), fun z => absurd z.1 (Nat.not_lt_zero r)⟩))
set_option maxHeartbeats 600000 in
set_option maxRecDepth 100000 in
theorem l_H0_hasV {K : KC} {M : MC} {o : Nat → Int64} {nc ns : Nat} {d np i : Nat} (epc : K.1 12 = nI np) (hnp : np ≤ 40) (hnp2 : np ≤ 40) (hi : i < 8) (hV : ∀ y, y < np → lB (K.2.2 15 i) y = true → ¬ K.2.1 25 y = 0 → ∃ c, c < 32 ∧ K.2.1 (17 + i) y = nI c) {post : mj_O → mj_H → Prop} (k1 : (∀ y, y < np → lB (K.2.2 15 i) y = true → ¬ K.2.1 25 y = 0 → ∃ c, c < 32 ∧ K.2.1 (17 + i) y = nI c ∧ iB (K.1 3) c = true) → post (.inl (some (.int 1))) (hp K M o, nc, ns)) (k0 : ¬ (∀ y, y < np → lB (K.2.2 15 i) y = true → ¬ K.2.1 25 y = 0 → ∃ c, c < 32 ∧ K.2.1 (17 + i) y = nI c ∧ iB (K.1 3) c = true) → post (.inl (some (.int 0))) (hp K M o, nc, ns)) : ∀ (m j : Nat), j ≤ np → np < j + m → (∀ y, y < j → lB (K.2.2 15 i) y = true → ¬ K.2.1 25 y = 0 → ∃ c, c < 32 ∧ K.2.1 (17 + i) y = nI c ∧ iB (K.1 3) c = true) → mj_G y_H_hasValue b_H_hasValue 4 (some .boolean) [] (d + 1) none 18 [(2, .int (nI j)), (0, .ref 14), (1, .int (nI i))] [] (hp K M o, nc, ns) post := by
  intro m
  induction m with
  | zero => intro j h1 h2; omega
  | succ m ih =>
    intro j h1 h2 h3
    refine G_iload_n 0 d_H_hasValue_18 rfl ?_
    refine G_aload_n 1 d_H_hasValue_19 rfl ?_
    refine G_gt d_H_hasValue_20 fr_H_52 (rd_H0_placeCount K M o) ?_
    rw [show K.1 12 = nI np from epc]
    refine G_icge 80 d_H_hasValue_23 (by decide) (fun h23 => ?_) (fun h23 => ?_)
    · have h23 := (nI_leI (by omega) (by omega)).mp h23
      obtain rfl : j = np := by omega
      refine G_iconst (v := 1) d_H_hasValue_80 (by decide) ?_
      exact G_zret d_H_hasValue_81 rfl rfl (k1 h3)
    · have h23 : ¬ _ := fun z => h23 ((nI_leI (by omega) (by omega)).mpr z)
      refine G_aload_n 1 d_H_hasValue_26 rfl ?_
      refine G_iload_n 2 d_H_hasValue_27 rfl ?_
      refine G_iload_n 0 d_H_hasValue_28 rfl ?_
      refine G_cvB (lB (K.2.2 15 i) j = true) (As := [.int (nI i), .int (nI j)]) d_H_hasValue_29 cv_H_106 cw_H_isAsked (ob_H0 K M o) np_H_isAsked (Nat.le_of_ble_eq_true rfl) (Nat.le_of_ble_eq_true rfl) (fun post2 k1 k0 => c_H0_isAsked (i := i) (j := j) (by omega) (by omega) k1 k0) (fun u29 => ?_) (fun u29 => ?_)
      · refine G_ifeq 48 d_H_hasValue_32 (by decide) (fun h => absurd h (by decide)) (fun _ => ?_)
        refine G_aload_n 1 d_H_hasValue_35 rfl ?_
        refine G_gt d_H_hasValue_36 fr_H_28 (rd_H0_placeSort K M o) ?_
        refine G_iload_n 0 d_H_hasValue_39 rfl ?_
        refine G_ialN d_H_hasValue_40 (ar_25 K M o) (by decide) (by omega) ?_
        refine G_ifeq 48 d_H_hasValue_41 (by decide) (fun h41 => ?_) (fun h41 => ?_)
        · refine G_iconst (v := 0) d_H_hasValue_48 (by decide) ?_
          refine G_istore_n (ls' := [(3, .int 0), (2, .int (nI j)), (0, .ref 14), (1, .int (nI i))]) d_H_hasValue_49 (by decide) rfl ?_
          refine G_iload_n 0 d_H_hasValue_50 rfl ?_
          refine G_ifeq 74 d_H_hasValue_51 (by decide) (fun _ => ?_) (fun h => absurd h (by decide))
          refine G_iinc 1 (v := nI (j + 1)) (ls' := [(2, .int (nI (j + 1))), (3, .int 0), (0, .ref 14), (1, .int (nI i))]) d_H_hasValue_74 rfl (nI_1 _) (by decide) rfl ?_
          refine G_goto 18 d_H_hasValue_77 (by decide) ?_
          exact G_sub [0, 2, 3] rfl (ih (j + 1) (by omega) (by omega) (fun y y1 y2 y3 => (Nat.lt_succ_iff_lt_or_eq.mp y1).elim (fun z => h3 y z y2 y3) (fun e => by subst e; exact absurd h41 y3)))
        · obtain ⟨cv, hcv, hv2⟩ := hV j (by omega) u29 h41
          refine G_iconst (v := 1) d_H_hasValue_44 (by decide) ?_
          refine G_goto 49 d_H_hasValue_45 (by decide) ?_
          refine G_istore_n (ls' := [(3, .int 1), (2, .int (nI j)), (0, .ref 14), (1, .int (nI i))]) d_H_hasValue_49 (by decide) rfl ?_
          refine G_iload_n 0 d_H_hasValue_50 rfl ?_
          refine G_ifeq 74 d_H_hasValue_51 (by decide) (fun h => absurd h (by decide)) (fun _ => ?_)
          refine G_aload_n 2 d_H_hasValue_54 rfl ?_
          refine G_gt d_H_hasValue_55 fr_H_9 (rd_H0_sorts K M o) ?_
          refine G_aload_n 2 d_H_hasValue_58 rfl ?_
          refine G_gt d_H_hasValue_59 fr_H_25 (rd_H0_asks K M o) ?_
          refine G_iload_n 3 d_H_hasValue_62 rfl ?_
          refine G_aalN (r := 17 + i) d_H_hasValue_63 (ar_16 K M o) (by decide) (by omega) (if_pos (by omega)) ?_
          refine G_iload_n 1 d_H_hasValue_64 rfl ?_
          refine G_ialN d_H_hasValue_65 (arr_17 K M o (by omega)) (by decide) (by omega) ?_
          rw [hv2]
          refine G_cvB (iB (K.1 3) cv = true) (As := [.int (nI cv)]) d_H_hasValue_66 cv_H_110 cw_S_isConLiving (ob_S K M o) np_S_isConLiving (Nat.le_of_ble_eq_true rfl) (Nat.le_of_ble_eq_true rfl) (fun post2 k1 k0 => c_S_isConLiving (s := cv) hcv k1 k0) (fun u66 => ?_) (fun u66 => ?_)
          · refine G_ifne 74 d_H_hasValue_69 (by decide) (fun _ => ?_) (fun h => absurd h (by decide))
            refine G_iinc 1 (v := nI (j + 1)) (ls' := [(2, .int (nI (j + 1))), (3, .int 1), (0, .ref 14), (1, .int (nI i))]) d_H_hasValue_74 rfl (nI_1 _) (by decide) rfl ?_
            refine G_goto 18 d_H_hasValue_77 (by decide) ?_
            exact G_sub [0, 2, 3] rfl (ih (j + 1) (by omega) (by omega) (fun y y1 y2 y3 => (Nat.lt_succ_iff_lt_or_eq.mp y1).elim (fun z => h3 y z y2 y3) (fun e => by subst e; exact ⟨cv, hcv, hv2, u66⟩)))
          · refine G_ifne 74 d_H_hasValue_69 (by decide) (fun h => absurd h (by decide)) (fun _ => ?_)
            refine G_iconst (v := 0) d_H_hasValue_72 (by decide) ?_
            exact G_zret d_H_hasValue_73 rfl rfl (k0 (fun z => by obtain ⟨c1, q1, q2, q3⟩ := z j (by omega) u29 h41; rw [hv2] at q2; rw [← (nI_eq (by omega) (by omega)).mp q2] at q3; exact u66 q3))
      · refine G_ifeq 48 d_H_hasValue_32 (by decide) (fun _ => ?_) (fun h => absurd h (by decide))
        refine G_iconst (v := 0) d_H_hasValue_48 (by decide) ?_
        refine G_istore_n (ls' := [(3, .int 0), (2, .int (nI j)), (0, .ref 14), (1, .int (nI i))]) d_H_hasValue_49 (by decide) rfl ?_
        refine G_iload_n 0 d_H_hasValue_50 rfl ?_
        refine G_ifeq 74 d_H_hasValue_51 (by decide) (fun _ => ?_) (fun h => absurd h (by decide))
        refine G_iinc 1 (v := nI (j + 1)) (ls' := [(2, .int (nI (j + 1))), (3, .int 0), (0, .ref 14), (1, .int (nI i))]) d_H_hasValue_74 rfl (nI_1 _) (by decide) rfl ?_
        refine G_goto 18 d_H_hasValue_77 (by decide) ?_
        exact G_sub [0, 2, 3] rfl (ih (j + 1) (by omega) (by omega) (fun y y1 y2 y3 => (Nat.lt_succ_iff_lt_or_eq.mp y1).elim (fun z => h3 y z y2 y3) (fun e => by subst e; exact absurd y2 u29)))
set_option maxHeartbeats 600000 in
set_option maxRecDepth 100000 in
theorem c_H0_hasValue {K : KC} {M : MC} {o : Nat → Int64} {nc ns : Nat} {d np i s0 : Nat} (efs : K.1 10 = nI s0) (hs0 : s0 < 32) (epc : K.1 12 = nI np) (hnp : np ≤ 40) (hnp2 : np ≤ 40) (hi : i < 8) (hV : ∀ y, y < np → lB (K.2.2 15 i) y = true → ¬ K.2.1 25 y = 0 → ∃ c, c < 32 ∧ K.2.1 (17 + i) y = nI c) {post : mj_O → mj_H → Prop} (k1 : iB (K.1 2) s0 = true ∧ (∀ y, y < np → lB (K.2.2 15 i) y = true → ¬ K.2.1 25 y = 0 → ∃ c, c < 32 ∧ K.2.1 (17 + i) y = nI c ∧ iB (K.1 3) c = true) → post (.inl (some (.int 1))) (hp K M o, nc, ns)) (k0 : ¬ (iB (K.1 2) s0 = true ∧ ∀ y, y < np → lB (K.2.2 15 i) y = true → ¬ K.2.1 25 y = 0 → ∃ c, c < 32 ∧ K.2.1 (17 + i) y = nI c ∧ iB (K.1 3) c = true) → post (.inl (some (.int 0))) (hp K M o, nc, ns)) : mj_G y_H_hasValue b_H_hasValue 4 (some .boolean) [] (d + 1) none 0 [(0, .ref 14), (1, .int (nI i))] [] (hp K M o, nc, ns) post := by
  refine G_aload_n 0 d_H_hasValue_0 rfl ?_
  refine G_gt d_H_hasValue_1 fr_H_9 (rd_H0_sorts K M o) ?_
  refine G_aload_n 0 d_H_hasValue_4 rfl ?_
  refine G_gt d_H_hasValue_5 fr_H_45 (rd_H0_sort K M o) ?_
  rw [show K.1 10 = nI s0 from efs]
  refine G_cvB (iB (K.1 2) s0 = true) (As := [.int (nI s0)]) d_H_hasValue_8 cv_H_100 cw_S_isSortLiving (ob_S K M o) np_S_isSortLiving (Nat.le_of_ble_eq_true rfl) (Nat.le_of_ble_eq_true rfl) (fun post2 k1 k0 => c_S_isSortLiving (s := s0) hs0 k1 k0) (fun u8 => ?_) (fun u8 => ?_)
  · refine G_ifne 16 d_H_hasValue_11 (by decide) (fun _ => ?_) (fun h => absurd h (by decide))
    refine G_iconst (v := nI 0) d_H_hasValue_16 (by decide) ?_
    refine G_istore_n (ls' := [(2, .int (nI 0)), (0, .ref 14), (1, .int (nI i))]) d_H_hasValue_17 (by decide) rfl ?_
    exact G_sub [0, 1, 2] rfl (l_H0_hasV epc hnp hnp2 hi hV (fun z => k1 ⟨u8, z⟩) (fun z => k0 (fun g => z g.2)) (np + 1) 0 (by omega) (by omega) (fun y z => absurd z (Nat.not_lt_zero y)))
  · refine G_ifne 16 d_H_hasValue_11 (by decide) (fun h => absurd h (by decide)) (fun _ => ?_)
    refine G_iconst (v := 0) d_H_hasValue_14 (by decide) ?_
    exact G_zret d_H_hasValue_15 rfl rfl (k0 (fun z => u8 z.1))
set_option maxHeartbeats 600000 in
set_option maxRecDepth 100000 in
theorem c_H1_isAsked {K : KC} {M : MC} {o : Nat → Int64} {nc ns : Nat} {d i j : Nat} (hi : i < 2) (hj : j < 64) {post : mj_O → mj_H → Prop} (k1 : lB (K.2.2 30 i) j = true → post (.inl (some (.int 1))) (hp K M o, nc, ns)) (k0 : ¬ lB (K.2.2 30 i) j = true → post (.inl (some (.int 0))) (hp K M o, nc, ns)) : mj_G y_H_isAsked b_H_isAsked 3 (some .boolean) [] d none 0 [(0, .ref 29), (1, .int (nI i)), (2, .int (nI j))] [] (hp K M o, nc, ns) post := by
  refine G_aload_n 0 d_H_isAsked_0 rfl ?_
  refine G_gt d_H_isAsked_1 fr_H_19 (rd_H1_asked K M o) ?_
  refine G_iload_n 1 d_H_isAsked_4 rfl ?_
  refine G_lalN d_H_isAsked_5 (ar_30 K M o) (by decide) (by omega) ?_
  refine G_iload_n 2 d_H_isAsked_6 rfl ?_
  refine G_lshr d_H_isAsked_7 ?_
  refine G_lconst (v := 1) d_H_isAsked_8 (by decide) ?_
  refine G_land d_H_isAsked_9 ?_
  refine G_lconst (v := 0) d_H_isAsked_10 (by decide) ?_
  refine G_lcmp d_H_isAsked_11 ?_
  refine G_ifeq 19 d_H_isAsked_12 (by decide) (fun h12 => ?_) (fun h12 => ?_)
  · refine G_iconst (v := 0) d_H_isAsked_19 (by decide) ?_
    exact G_zret d_H_isAsked_20 rfl rfl (k0 (by rw [(lB_test hj).mp (lcmp_0.mp h12)]; decide))
  · refine G_iconst (v := 1) d_H_isAsked_15 (by decide) ?_
    refine G_goto 20 d_H_isAsked_16 (by decide) ?_
    exact G_zret d_H_isAsked_20 rfl rfl (k1 (Classical.byContradiction fun z => h12 (lcmp_0.mpr ((lB_test hj).mpr (nb z)))))
set_option maxHeartbeats 600000 in
set_option maxRecDepth 100000 in
theorem l_H1_least {K : KC} {M : MC} {o : Nat → Int64} {nc ns : Nat} {d n : Nat} {x : Int32} {y : Int64} (erc : K.1 21 = nI n) (hn : n ≤ 2) (hA : ∀ i, i < n → ∀ j, lB (K.2.2 30 i) j = true → j < 40) (hx : ∃ r, r < n ∧ iB x r = true) {post : mj_O → mj_H → Prop} (k : ∀ r, r < n → iB x r = true → post (.inl (some (.int (nI r)))) (hp K M o, nc, ns)) : ∀ (m i : Nat) (q v : Int32), i ≤ n → n < i + m → (v = 0 ∧ q = 41 ∧ ∀ r, r < i → ¬ iB x r = true) ∨ (∃ r, r < i ∧ v = nI r ∧ iB x r = true) → mj_G y_H_rowWithLeastLeft b_H_rowWithLeastLeft 8 (some .int) [] (d + 1) none 10 [(6, .int (nI i)), (5, .int q), (4, .int v), (0, .ref 29), (1, .int x), (2, .long y)] [] (hp K M o, nc, ns) post := by
  intro m
  induction m with
  | zero => intro i q v h1 h2; omega
  | succ m ih =>
    intro i q v h1 h2 h3
    refine G_iload 0 d_H_rowWithLeastLeft_10 rfl ?_
    refine G_aload_n 3 d_H_rowWithLeastLeft_12 rfl ?_
    refine G_gt d_H_rowWithLeastLeft_13 fr_H_49 (rd_H1_rowCount K M o) ?_
    rw [show K.1 21 = nI n from erc]
    refine G_icge 67 d_H_rowWithLeastLeft_16 (by decide) (fun h16 => ?_) (fun h16 => ?_)
    · have h16 := (nI_leI (by omega) (by omega)).mp h16
      obtain rfl : i = n := by omega
      refine G_iload 2 d_H_rowWithLeastLeft_67 rfl ?_
      exact G_iret d_H_rowWithLeastLeft_69 rfl (by obtain ⟨r, z1, rfl, z3⟩ := h3.resolve_left (fun z => by obtain ⟨r, r1, r2⟩ := hx; exact z.2.2 r r1 r2); exact k r z1 z3)
    · have h16 : ¬ _ := fun z => h16 ((nI_leI (by omega) (by omega)).mpr z)
      refine G_aload_n 3 d_H_rowWithLeastLeft_19 rfl ?_
      refine G_gt d_H_rowWithLeastLeft_20 fr_H_19 (rd_H1_asked K M o) ?_
      refine G_iload 0 d_H_rowWithLeastLeft_23 rfl ?_
      refine G_lalN d_H_rowWithLeastLeft_25 (ar_30 K M o) (by decide) (by omega) ?_
      refine G_lload_n 5 d_H_rowWithLeastLeft_26 rfl ?_
      refine G_ldc2 (v := (-1)) d_H_rowWithLeastLeft_27 (tin_1 (List.mem_of_getElem? (i := 182) rfl) rfl) ?_
      refine G_lxor d_H_rowWithLeastLeft_30 ?_
      refine G_land d_H_rowWithLeastLeft_31 ?_
      refine G_cs1 (some (.int (bcL ((K.2.2 30 i) &&& (y ^^^ (-1)))))) (hp K M o, nc, ns) (As := [.long ((K.2.2 30 i) &&& (y ^^^ (-1)))]) d_H_rowWithLeastLeft_32 cs_H_140 cw_JL_bitCount np_JL_bitCount (Nat.le_of_ble_eq_true rfl) (Nat.le_of_ble_eq_true rfl) (fun post2 k2 => c_JL_bitCount ((K.2.2 30 i) &&& (y ^^^ (-1))) k2) rfl ?_
      refine G_istore (ls' := [(7, .int (bcL ((K.2.2 30 i) &&& (y ^^^ (-1))))), (6, .int (nI i)), (5, .int q), (4, .int v), (0, .ref 29), (1, .int x), (2, .long y)]) d_H_rowWithLeastLeft_35 (by decide) rfl ?_
      refine G_iload_n 5 d_H_rowWithLeastLeft_37 rfl ?_
      refine G_iload 1 d_H_rowWithLeastLeft_38 rfl ?_
      refine G_ishr d_H_rowWithLeastLeft_40 ?_
      refine G_iconst (v := 1) d_H_rowWithLeastLeft_41 (by decide) ?_
      refine G_iand d_H_rowWithLeastLeft_42 ?_
      refine G_ifeq 61 d_H_rowWithLeastLeft_43 (by decide) (fun h43 => ?_) (fun h43 => ?_)
      · refine G_iinc 1 (v := nI (i + 1)) (ls' := [(6, .int (nI (i + 1))), (7, .int (bcL ((K.2.2 30 i) &&& (y ^^^ (-1))))), (5, .int q), (4, .int v), (0, .ref 29), (1, .int x), (2, .long y)]) d_H_rowWithLeastLeft_61 rfl (nI_1 _) (by decide) rfl ?_
        refine G_goto 10 d_H_rowWithLeastLeft_64 (by decide) ?_
        exact G_sub [0, 2, 3, 4, 5, 6] rfl (ih (i + 1) _ _ (by omega) (by omega) (h3.imp (fun z => ⟨z.1, z.2.1, fun r hr => (Nat.lt_succ_iff_lt_or_eq.mp hr).elim (z.2.2 r) (fun e => by rw [e, (iB_test (by omega)).mp h43]; decide)⟩) (fun ⟨r, z1, z2, z3⟩ => ⟨r, by omega, z2, z3⟩)))
      · have hb : iB x i = true := Classical.byContradiction fun z => h43 ((iB_test (by omega)).mpr (nb z))
        refine G_iload 0 d_H_rowWithLeastLeft_46 rfl ?_
        refine G_iload 2 d_H_rowWithLeastLeft_48 rfl ?_
        refine G_icge 61 d_H_rowWithLeastLeft_50 (by decide) (fun h50 => ?_) (fun h50 => ?_)
        · refine G_iinc 1 (v := nI (i + 1)) (ls' := [(6, .int (nI (i + 1))), (7, .int (bcL ((K.2.2 30 i) &&& (y ^^^ (-1))))), (5, .int q), (4, .int v), (0, .ref 29), (1, .int x), (2, .long y)]) d_H_rowWithLeastLeft_61 rfl (nI_1 _) (by decide) rfl ?_
          refine G_goto 10 d_H_rowWithLeastLeft_64 (by decide) ?_
          exact G_sub [0, 2, 3, 4, 5, 6] rfl (ih (i + 1) _ _ (by omega) (by omega) (Or.inr (h3.elim (fun z => absurd (bcL_41 (fun y hy => hA i (by omega) y (by rw [lB_an, Bool.and_eq_true] at hy; exact hy.1))) (Int32.not_lt.mpr (by rw [← z.2.1]; exact h50))) (fun ⟨r, z1, z2, z3⟩ => ⟨r, by omega, z2, z3⟩))))
        · refine G_iload 1 d_H_rowWithLeastLeft_53 rfl ?_
          refine G_istore (ls' := [(4, .int (nI i)), (7, .int (bcL ((K.2.2 30 i) &&& (y ^^^ (-1))))), (6, .int (nI i)), (5, .int q), (0, .ref 29), (1, .int x), (2, .long y)]) d_H_rowWithLeastLeft_55 (by decide) rfl ?_
          refine G_iload 1 d_H_rowWithLeastLeft_57 rfl ?_
          refine G_istore (ls' := [(5, .int (bcL ((K.2.2 30 i) &&& (y ^^^ (-1))))), (4, .int (nI i)), (7, .int (bcL ((K.2.2 30 i) &&& (y ^^^ (-1))))), (6, .int (nI i)), (0, .ref 29), (1, .int x), (2, .long y)]) d_H_rowWithLeastLeft_59 (by decide) rfl ?_
          refine G_iinc 3 (v := nI (i + 1)) (ls' := [(6, .int (nI (i + 1))), (5, .int (bcL ((K.2.2 30 i) &&& (y ^^^ (-1))))), (4, .int (nI i)), (7, .int (bcL ((K.2.2 30 i) &&& (y ^^^ (-1))))), (0, .ref 29), (1, .int x), (2, .long y)]) d_H_rowWithLeastLeft_61 rfl (nI_1 _) (by decide) rfl ?_
          refine G_goto 10 d_H_rowWithLeastLeft_64 (by decide) ?_
          exact G_sub [0, 1, 2, 4, 5, 6] rfl (ih (i + 1) _ _ (by omega) (by omega) (Or.inr ⟨i, by omega, rfl, hb⟩))
set_option maxHeartbeats 600000 in
set_option maxRecDepth 100000 in
theorem c_H1_least {K : KC} {M : MC} {o : Nat → Int64} {nc ns : Nat} {d n : Nat} {x : Int32} {y : Int64} (erc : K.1 21 = nI n) (hn : n ≤ 2) (hA : ∀ i, i < n → ∀ j, lB (K.2.2 30 i) j = true → j < 40) (hx : ∃ r, r < n ∧ iB x r = true) {post : mj_O → mj_H → Prop} (k : ∀ r, r < n → iB x r = true → post (.inl (some (.int (nI r)))) (hp K M o, nc, ns)) : mj_G y_H_rowWithLeastLeft b_H_rowWithLeastLeft 8 (some .int) [] (d + 1) none 0 [(0, .ref 29), (1, .int x), (2, .long y)] [] (hp K M o, nc, ns) post := by
  refine G_iconst (v := 0) d_H_rowWithLeastLeft_0 (by decide) ?_
  refine G_istore (ls' := [(4, .int 0), (0, .ref 29), (1, .int x), (2, .long y)]) d_H_rowWithLeastLeft_1 (by decide) rfl ?_
  refine G_bipush (v := 41) d_H_rowWithLeastLeft_3 (by decide) ?_
  refine G_istore (ls' := [(5, .int 41), (4, .int 0), (0, .ref 29), (1, .int x), (2, .long y)]) d_H_rowWithLeastLeft_5 (by decide) rfl ?_
  refine G_iconst (v := nI 0) d_H_rowWithLeastLeft_7 (by decide) ?_
  refine G_istore (ls' := [(6, .int (nI 0)), (5, .int 41), (4, .int 0), (0, .ref 29), (1, .int x), (2, .long y)]) d_H_rowWithLeastLeft_8 (by decide) rfl ?_
  exact G_sub [0, 1, 2, 3, 4, 5] rfl (l_H1_least erc hn hA hx k (n + 1) 0 41 0 (by omega) (by omega) (Or.inl ⟨rfl, rfl, fun r hr => absurd hr (Nat.not_lt_zero r)⟩))
set_option maxHeartbeats 600000 in
set_option maxRecDepth 100000 in
theorem l_H1_rowsSilentAt {K : KC} {M : MC} {o : Nat → Int64} {nc ns : Nat} {d n j : Nat} {x : Int32} (erc : K.1 21 = nI n) (hn : n ≤ 2) (hj : j < 40) (hj2 : j < 24) {post : mj_O → mj_H → Prop} (k : ∀ v, (∀ r, iB v r = true ↔ r < n ∧ (iB x r = true ∧ ¬ lB (K.2.2 30 r) j = true)) → post (.inl (some (.int v))) (hp K M o, nc, ns)) : ∀ (m i : Nat) (v : Int32), i ≤ n → n < i + m → (∀ r, iB v r = true ↔ r < i ∧ (iB x r = true ∧ ¬ lB (K.2.2 30 r) j = true)) → mj_G y_H_rowsSilentAt b_H_rowsSilentAt 5 (some .int) [] (d + 1) none 5 [(4, .int (nI i)), (3, .int v), (0, .ref 29), (1, .int x), (2, .int (nI j))] [] (hp K M o, nc, ns) post := by
  intro m
  induction m with
  | zero => intro i v h1 h2; omega
  | succ m ih =>
    intro i v h1 h2 h3
    refine G_iload 0 d_H_rowsSilentAt_5 rfl ?_
    refine G_aload_n 2 d_H_rowsSilentAt_7 rfl ?_
    refine G_gt d_H_rowsSilentAt_8 fr_H_49 (rd_H1_rowCount K M o) ?_
    rw [show K.1 21 = nI n from erc]
    refine G_icge 46 d_H_rowsSilentAt_11 (by decide) (fun h11 => ?_) (fun h11 => ?_)
    · have h11 := (nI_leI (by omega) (by omega)).mp h11
      obtain rfl : i = n := by omega
      refine G_iload_n 1 d_H_rowsSilentAt_46 rfl ?_
      exact G_iret d_H_rowsSilentAt_47 rfl (k _ h3)
    · have h11 : ¬ _ := fun z => h11 ((nI_leI (by omega) (by omega)).mpr z)
      refine G_iload_n 3 d_H_rowsSilentAt_14 rfl ?_
      refine G_iload 0 d_H_rowsSilentAt_15 rfl ?_
      refine G_ishr d_H_rowsSilentAt_17 ?_
      refine G_iconst (v := 1) d_H_rowsSilentAt_18 (by decide) ?_
      refine G_iand d_H_rowsSilentAt_19 ?_
      refine G_ifeq 40 d_H_rowsSilentAt_20 (by decide) (fun h20 => ?_) (fun h20 => ?_)
      · refine G_iinc 0 (v := nI (i + 1)) (ls' := [(4, .int (nI (i + 1))), (3, .int v), (0, .ref 29), (1, .int x), (2, .int (nI j))]) d_H_rowsSilentAt_40 rfl (nI_1 _) (by decide) rfl ?_
        refine G_goto 5 d_H_rowsSilentAt_43 (by decide) ?_
        exact G_sub [0, 1, 2, 3, 4] rfl (ih (i + 1) _ (by omega) (by omega) (sorts_n h3 (fun z => by rw [(iB_test (by omega)).mp h20] at z; exact absurd z.1 (by decide))))
      · have hb : iB x i = true := Classical.byContradiction fun z => h20 ((iB_test (by omega)).mpr (nb z))
        refine G_aload_n 2 d_H_rowsSilentAt_23 rfl ?_
        refine G_iload 0 d_H_rowsSilentAt_24 rfl ?_
        refine G_iload_n 4 d_H_rowsSilentAt_26 rfl ?_
        refine G_cvB (lB (K.2.2 30 i) j = true) (As := [.int (nI i), .int (nI j)]) d_H_rowsSilentAt_27 cv_H_106 cw_H_isAsked (ob_H1 K M o) np_H_isAsked (Nat.le_of_ble_eq_true rfl) (Nat.le_of_ble_eq_true rfl) (fun post2 k1 k0 => c_H1_isAsked (i := i) (j := j) (by omega) (by omega) k1 k0) (fun u27 => ?_) (fun u27 => ?_)
        · refine G_ifne 40 d_H_rowsSilentAt_30 (by decide) (fun _ => ?_) (fun h => absurd h (by decide))
          refine G_iinc 0 (v := nI (i + 1)) (ls' := [(4, .int (nI (i + 1))), (3, .int v), (0, .ref 29), (1, .int x), (2, .int (nI j))]) d_H_rowsSilentAt_40 rfl (nI_1 _) (by decide) rfl ?_
          refine G_goto 5 d_H_rowsSilentAt_43 (by decide) ?_
          exact G_sub [0, 1, 2, 3, 4] rfl (ih (i + 1) _ (by omega) (by omega) (sorts_n h3 (fun z => z.2 u27)))
        · refine G_ifne 40 d_H_rowsSilentAt_30 (by decide) (fun h => absurd h (by decide)) (fun _ => ?_)
          refine G_iload_n 1 d_H_rowsSilentAt_33 rfl ?_
          refine G_iconst (v := 1) d_H_rowsSilentAt_34 (by decide) ?_
          refine G_iload 0 d_H_rowsSilentAt_35 rfl ?_
          refine G_ishl d_H_rowsSilentAt_37 ?_
          refine G_ior d_H_rowsSilentAt_38 ?_
          refine G_istore_n (ls' := [(3, .int (v ||| (1 <<< ((nI i) &&& 31)))), (4, .int (nI i)), (0, .ref 29), (1, .int x), (2, .int (nI j))]) d_H_rowsSilentAt_39 (by decide) rfl ?_
          refine G_iinc 1 (v := nI (i + 1)) (ls' := [(4, .int (nI (i + 1))), (3, .int (v ||| (1 <<< ((nI i) &&& 31)))), (0, .ref 29), (1, .int x), (2, .int (nI j))]) d_H_rowsSilentAt_40 rfl (nI_1 _) (by decide) rfl ?_
          refine G_goto 5 d_H_rowsSilentAt_43 (by decide) ?_
          exact G_sub [0, 1, 2, 3, 4] rfl (ih (i + 1) _ (by omega) (by omega) (sorts_y (by omega) h3 ⟨hb, u27⟩))
set_option maxHeartbeats 600000 in
set_option maxRecDepth 100000 in
theorem c_H1_rowsSilentAt {K : KC} {M : MC} {o : Nat → Int64} {nc ns : Nat} {d n j : Nat} {x : Int32} (erc : K.1 21 = nI n) (hn : n ≤ 2) (hj : j < 40) (hj2 : j < 24) {post : mj_O → mj_H → Prop} (k : ∀ v, (∀ r, iB v r = true ↔ r < n ∧ (iB x r = true ∧ ¬ lB (K.2.2 30 r) j = true)) → post (.inl (some (.int v))) (hp K M o, nc, ns)) : mj_G y_H_rowsSilentAt b_H_rowsSilentAt 5 (some .int) [] (d + 1) none 0 [(0, .ref 29), (1, .int x), (2, .int (nI j))] [] (hp K M o, nc, ns) post := by
  refine G_iconst (v := 0) d_H_rowsSilentAt_0 (by decide) ?_
  refine G_istore_n (ls' := [(3, .int 0), (0, .ref 29), (1, .int x), (2, .int (nI j))]) d_H_rowsSilentAt_1 (by decide) rfl ?_
  refine G_iconst (v := nI 0) d_H_rowsSilentAt_2 (by decide) ?_
  refine G_istore (ls' := [(4, .int (nI 0)), (3, .int 0), (0, .ref 29), (1, .int x), (2, .int (nI j))]) d_H_rowsSilentAt_3 (by decide) rfl ?_
  exact G_sub [0, 1, 2, 3, 4] rfl (l_H1_rowsSilentAt erc hn hj hj2 k (n + 1) 0 0 (by omega) (by omega) (fun r => ⟨fun z => (by rw [iB_0] at z; cases z), fun z => absurd z.1 (Nat.not_lt_zero r)⟩))
set_option maxHeartbeats 600000 in
set_option maxRecDepth 100000 in
theorem l_H1_rowsAsking {K : KC} {M : MC} {o : Nat → Int64} {nc ns : Nat} {d n j : Nat} {x y : Int32} (erc : K.1 21 = nI n) (hn : n ≤ 2) (hj : j < 40) (hj2 : j < 24) {post : mj_O → mj_H → Prop} (k : ∀ v, (∀ r, iB v r = true ↔ r < n ∧ (iB x r = true ∧ lB (K.2.2 30 r) j = true ∧ K.2.1 (32 + r) j = y)) → post (.inl (some (.int v))) (hp K M o, nc, ns)) : ∀ (m i : Nat) (v : Int32), i ≤ n → n < i + m → (∀ r, iB v r = true ↔ r < i ∧ (iB x r = true ∧ lB (K.2.2 30 r) j = true ∧ K.2.1 (32 + r) j = y)) → mj_G y_H_rowsAsking b_H_rowsAsking 6 (some .int) [] (d + 1) none 6 [(5, .int (nI i)), (4, .int v), (0, .ref 29), (1, .int x), (2, .int (nI j)), (3, .int y)] [] (hp K M o, nc, ns) post := by
  intro m
  induction m with
  | zero => intro i v h1 h2; omega
  | succ m ih =>
    intro i v h1 h2 h3
    refine G_iload 0 d_H_rowsAsking_6 rfl ?_
    refine G_aload_n 2 d_H_rowsAsking_8 rfl ?_
    refine G_gt d_H_rowsAsking_9 fr_H_49 (rd_H1_rowCount K M o) ?_
    rw [show K.1 21 = nI n from erc]
    refine G_icge 62 d_H_rowsAsking_12 (by decide) (fun h12 => ?_) (fun h12 => ?_)
    · have h12 := (nI_leI (by omega) (by omega)).mp h12
      obtain rfl : i = n := by omega
      refine G_iload 1 d_H_rowsAsking_62 rfl ?_
      exact G_iret d_H_rowsAsking_64 rfl (k _ h3)
    · have h12 : ¬ _ := fun z => h12 ((nI_leI (by omega) (by omega)).mpr z)
      refine G_iload_n 3 d_H_rowsAsking_15 rfl ?_
      refine G_iload 0 d_H_rowsAsking_16 rfl ?_
      refine G_ishr d_H_rowsAsking_18 ?_
      refine G_iconst (v := 1) d_H_rowsAsking_19 (by decide) ?_
      refine G_iand d_H_rowsAsking_20 ?_
      refine G_ifeq 56 d_H_rowsAsking_21 (by decide) (fun h21 => ?_) (fun h21 => ?_)
      · refine G_iinc 0 (v := nI (i + 1)) (ls' := [(5, .int (nI (i + 1))), (4, .int v), (0, .ref 29), (1, .int x), (2, .int (nI j)), (3, .int y)]) d_H_rowsAsking_56 rfl (nI_1 _) (by decide) rfl ?_
        refine G_goto 6 d_H_rowsAsking_59 (by decide) ?_
        exact G_sub [0, 1, 2, 3, 4, 5] rfl (ih (i + 1) _ (by omega) (by omega) (sorts_n h3 (fun z => by rw [(iB_test (by omega)).mp h21] at z; exact absurd z.1 (by decide))))
      · have hb : iB x i = true := Classical.byContradiction fun z => h21 ((iB_test (by omega)).mpr (nb z))
        refine G_aload_n 2 d_H_rowsAsking_24 rfl ?_
        refine G_iload 0 d_H_rowsAsking_25 rfl ?_
        refine G_iload_n 4 d_H_rowsAsking_27 rfl ?_
        refine G_cvB (lB (K.2.2 30 i) j = true) (As := [.int (nI i), .int (nI j)]) d_H_rowsAsking_28 cv_H_106 cw_H_isAsked (ob_H1 K M o) np_H_isAsked (Nat.le_of_ble_eq_true rfl) (Nat.le_of_ble_eq_true rfl) (fun post2 k1 k0 => c_H1_isAsked (i := i) (j := j) (by omega) (by omega) k1 k0) (fun u28 => ?_) (fun u28 => ?_)
        · refine G_ifeq 56 d_H_rowsAsking_31 (by decide) (fun h => absurd h (by decide)) (fun _ => ?_)
          refine G_aload_n 2 d_H_rowsAsking_34 rfl ?_
          refine G_gt d_H_rowsAsking_35 fr_H_25 (rd_H1_asks K M o) ?_
          refine G_iload 0 d_H_rowsAsking_38 rfl ?_
          refine G_aalN (r := 32 + i) d_H_rowsAsking_40 (ar_31 K M o) (by decide) (by omega) (if_pos (by omega)) ?_
          refine G_iload_n 4 d_H_rowsAsking_41 rfl ?_
          refine G_ialN d_H_rowsAsking_42 (arr_32 K M o (by omega)) (by decide) (by omega) ?_
          refine G_iload_n 5 d_H_rowsAsking_43 rfl ?_
          refine G_icne 56 d_H_rowsAsking_44 (by decide) (fun h44 => ?_) (fun h44 => ?_)
          · refine G_iinc 0 (v := nI (i + 1)) (ls' := [(5, .int (nI (i + 1))), (4, .int v), (0, .ref 29), (1, .int x), (2, .int (nI j)), (3, .int y)]) d_H_rowsAsking_56 rfl (nI_1 _) (by decide) rfl ?_
            refine G_goto 6 d_H_rowsAsking_59 (by decide) ?_
            exact G_sub [0, 1, 2, 3, 4, 5] rfl (ih (i + 1) _ (by omega) (by omega) (sorts_n h3 (fun z => h44 z.2.2)))
          · refine G_iload 1 d_H_rowsAsking_47 rfl ?_
            refine G_iconst (v := 1) d_H_rowsAsking_49 (by decide) ?_
            refine G_iload 0 d_H_rowsAsking_50 rfl ?_
            refine G_ishl d_H_rowsAsking_52 ?_
            refine G_ior d_H_rowsAsking_53 ?_
            refine G_istore (ls' := [(4, .int (v ||| (1 <<< ((nI i) &&& 31)))), (5, .int (nI i)), (0, .ref 29), (1, .int x), (2, .int (nI j)), (3, .int y)]) d_H_rowsAsking_54 (by decide) rfl ?_
            refine G_iinc 1 (v := nI (i + 1)) (ls' := [(5, .int (nI (i + 1))), (4, .int (v ||| (1 <<< ((nI i) &&& 31)))), (0, .ref 29), (1, .int x), (2, .int (nI j)), (3, .int y)]) d_H_rowsAsking_56 rfl (nI_1 _) (by decide) rfl ?_
            refine G_goto 6 d_H_rowsAsking_59 (by decide) ?_
            exact G_sub [0, 1, 2, 3, 4, 5] rfl (ih (i + 1) _ (by omega) (by omega) (sorts_y (by omega) h3 ⟨hb, u28, h44⟩))
        · refine G_ifeq 56 d_H_rowsAsking_31 (by decide) (fun _ => ?_) (fun h => absurd h (by decide))
          refine G_iinc 0 (v := nI (i + 1)) (ls' := [(5, .int (nI (i + 1))), (4, .int v), (0, .ref 29), (1, .int x), (2, .int (nI j)), (3, .int y)]) d_H_rowsAsking_56 rfl (nI_1 _) (by decide) rfl ?_
          refine G_goto 6 d_H_rowsAsking_59 (by decide) ?_
          exact G_sub [0, 1, 2, 3, 4, 5] rfl (ih (i + 1) _ (by omega) (by omega) (sorts_n h3 (fun z => u28 z.2.1)))
set_option maxHeartbeats 600000 in
set_option maxRecDepth 100000 in
theorem c_H1_rowsAsking {K : KC} {M : MC} {o : Nat → Int64} {nc ns : Nat} {d n j : Nat} {x y : Int32} (erc : K.1 21 = nI n) (hn : n ≤ 2) (hj : j < 40) (hj2 : j < 24) {post : mj_O → mj_H → Prop} (k : ∀ v, (∀ r, iB v r = true ↔ r < n ∧ (iB x r = true ∧ lB (K.2.2 30 r) j = true ∧ K.2.1 (32 + r) j = y)) → post (.inl (some (.int v))) (hp K M o, nc, ns)) : mj_G y_H_rowsAsking b_H_rowsAsking 6 (some .int) [] (d + 1) none 0 [(0, .ref 29), (1, .int x), (2, .int (nI j)), (3, .int y)] [] (hp K M o, nc, ns) post := by
  refine G_iconst (v := 0) d_H_rowsAsking_0 (by decide) ?_
  refine G_istore (ls' := [(4, .int 0), (0, .ref 29), (1, .int x), (2, .int (nI j)), (3, .int y)]) d_H_rowsAsking_1 (by decide) rfl ?_
  refine G_iconst (v := nI 0) d_H_rowsAsking_3 (by decide) ?_
  refine G_istore (ls' := [(5, .int (nI 0)), (4, .int 0), (0, .ref 29), (1, .int x), (2, .int (nI j)), (3, .int y)]) d_H_rowsAsking_4 (by decide) rfl ?_
  exact G_sub [0, 1, 2, 3, 4, 5] rfl (l_H1_rowsAsking erc hn hj hj2 k (n + 1) 0 0 (by omega) (by omega) (fun r => ⟨fun z => (by rw [iB_0] at z; cases z), fun z => absurd z.1 (Nat.not_lt_zero r)⟩))
set_option maxHeartbeats 600000 in
set_option maxRecDepth 100000 in
theorem l_H1_consAskedAt {K : KC} {M : MC} {o : Nat → Int64} {nc ns : Nat} {d n j : Nat} {x : Int32} (erc : K.1 21 = nI n) (hn : n ≤ 2) (hj : j < 40) (hj2 : j < 24) (hV : ∀ r, r < n → iB x r = true → lB (K.2.2 30 r) j = true → ∃ c, c < 32 ∧ K.2.1 (32 + r) j = nI c) {post : mj_O → mj_H → Prop} (k : ∀ v, (∀ c, c < 32 → (iB v c = true ↔ ∃ r, r < n ∧ iB x r = true ∧ lB (K.2.2 30 r) j = true ∧ K.2.1 (32 + r) j = nI c)) → post (.inl (some (.int v))) (hp K M o, nc, ns)) : ∀ (m i : Nat) (v : Int32), i ≤ n → n < i + m → (∀ c, c < 32 → (iB v c = true ↔ ∃ r, r < i ∧ iB x r = true ∧ lB (K.2.2 30 r) j = true ∧ K.2.1 (32 + r) j = nI c)) → mj_G y_H_consAskedAt b_H_consAskedAt 5 (some .int) [] (d + 1) none 5 [(4, .int (nI i)), (3, .int v), (0, .ref 29), (1, .int x), (2, .int (nI j))] [] (hp K M o, nc, ns) post := by
  intro m
  induction m with
  | zero => intro i v h1 h2; omega
  | succ m ih =>
    intro i v h1 h2 h3
    refine G_iload 0 d_H_consAskedAt_5 rfl ?_
    refine G_aload_n 2 d_H_consAskedAt_7 rfl ?_
    refine G_gt d_H_consAskedAt_8 fr_H_49 (rd_H1_rowCount K M o) ?_
    rw [show K.1 21 = nI n from erc]
    refine G_icge 53 d_H_consAskedAt_11 (by decide) (fun h11 => ?_) (fun h11 => ?_)
    · have h11 := (nI_leI (by omega) (by omega)).mp h11
      obtain rfl : i = n := by omega
      refine G_iload_n 1 d_H_consAskedAt_53 rfl ?_
      exact G_iret d_H_consAskedAt_54 rfl (k _ h3)
    · have h11 : ¬ _ := fun z => h11 ((nI_leI (by omega) (by omega)).mpr z)
      refine G_iload_n 3 d_H_consAskedAt_14 rfl ?_
      refine G_iload 0 d_H_consAskedAt_15 rfl ?_
      refine G_ishr d_H_consAskedAt_17 ?_
      refine G_iconst (v := 1) d_H_consAskedAt_18 (by decide) ?_
      refine G_iand d_H_consAskedAt_19 ?_
      refine G_ifeq 47 d_H_consAskedAt_20 (by decide) (fun h20 => ?_) (fun h20 => ?_)
      · refine G_iinc 0 (v := nI (i + 1)) (ls' := [(4, .int (nI (i + 1))), (3, .int v), (0, .ref 29), (1, .int x), (2, .int (nI j))]) d_H_consAskedAt_47 rfl (nI_1 _) (by decide) rfl ?_
        refine G_goto 5 d_H_consAskedAt_50 (by decide) ?_
        exact G_sub [0, 1, 2, 3, 4] rfl (ih (i + 1) _ (by omega) (by omega) (fun c hc32 => (h3 c hc32).trans ⟨fun ⟨r, z1, z2⟩ => ⟨r, by omega, z2⟩, fun ⟨r, z1, z2⟩ => ⟨r, (Nat.lt_succ_iff_lt_or_eq.mp z1).elim id (fun e => by rw [e, (iB_test (by omega)).mp h20] at z2; exact absurd z2.1 (by decide)), z2⟩⟩))
      · have hb : iB x i = true := Classical.byContradiction fun z => h20 ((iB_test (by omega)).mpr (nb z))
        refine G_aload_n 2 d_H_consAskedAt_23 rfl ?_
        refine G_iload 0 d_H_consAskedAt_24 rfl ?_
        refine G_iload_n 4 d_H_consAskedAt_26 rfl ?_
        refine G_cvB (lB (K.2.2 30 i) j = true) (As := [.int (nI i), .int (nI j)]) d_H_consAskedAt_27 cv_H_106 cw_H_isAsked (ob_H1 K M o) np_H_isAsked (Nat.le_of_ble_eq_true rfl) (Nat.le_of_ble_eq_true rfl) (fun post2 k1 k0 => c_H1_isAsked (i := i) (j := j) (by omega) (by omega) k1 k0) (fun u27 => ?_) (fun u27 => ?_)
        · obtain ⟨cv, hcv, hv2⟩ := hV i (by omega) hb u27
          refine G_ifeq 47 d_H_consAskedAt_30 (by decide) (fun h => absurd h (by decide)) (fun _ => ?_)
          refine G_iload_n 1 d_H_consAskedAt_33 rfl ?_
          refine G_iconst (v := 1) d_H_consAskedAt_34 (by decide) ?_
          refine G_aload_n 2 d_H_consAskedAt_35 rfl ?_
          refine G_gt d_H_consAskedAt_36 fr_H_25 (rd_H1_asks K M o) ?_
          refine G_iload 0 d_H_consAskedAt_39 rfl ?_
          refine G_aalN (r := 32 + i) d_H_consAskedAt_41 (ar_31 K M o) (by decide) (by omega) (if_pos (by omega)) ?_
          refine G_iload_n 4 d_H_consAskedAt_42 rfl ?_
          refine G_ialN d_H_consAskedAt_43 (arr_32 K M o (by omega)) (by decide) (by omega) ?_
          rw [hv2]
          refine G_ishl d_H_consAskedAt_44 ?_
          refine G_ior d_H_consAskedAt_45 ?_
          refine G_istore_n (ls' := [(3, .int (v ||| (1 <<< ((nI cv) &&& 31)))), (4, .int (nI i)), (0, .ref 29), (1, .int x), (2, .int (nI j))]) d_H_consAskedAt_46 (by decide) rfl ?_
          refine G_iinc 1 (v := nI (i + 1)) (ls' := [(4, .int (nI (i + 1))), (3, .int (v ||| (1 <<< ((nI cv) &&& 31)))), (0, .ref 29), (1, .int x), (2, .int (nI j))]) d_H_consAskedAt_47 rfl (nI_1 _) (by decide) rfl ?_
          refine G_goto 5 d_H_consAskedAt_50 (by decide) ?_
          exact G_sub [0, 1, 2, 3, 4] rfl (ih (i + 1) _ (by omega) (by omega) (fun c hc32 => (or_y (P := fun y => iB v y = true) (by omega) (fun y => Iff.rfl) c).trans (((or_congr (h3 c hc32) Iff.rfl)).trans ⟨fun z => z.elim (fun ⟨r, z1, z2⟩ => ⟨r, by omega, z2⟩) (fun e => ⟨i, by omega, hb, u27, by rw [e]; exact hv2⟩), fun ⟨r, z1, z2⟩ => (Nat.lt_succ_iff_lt_or_eq.mp z1).elim (fun h => Or.inl ⟨r, h, z2⟩) (fun e => Or.inr ((nI_eq (by omega) (by omega)).mp (by rw [e] at z2; exact z2.2.2.symm.trans hv2)))⟩)))
        · refine G_ifeq 47 d_H_consAskedAt_30 (by decide) (fun _ => ?_) (fun h => absurd h (by decide))
          refine G_iinc 0 (v := nI (i + 1)) (ls' := [(4, .int (nI (i + 1))), (3, .int v), (0, .ref 29), (1, .int x), (2, .int (nI j))]) d_H_consAskedAt_47 rfl (nI_1 _) (by decide) rfl ?_
          refine G_goto 5 d_H_consAskedAt_50 (by decide) ?_
          exact G_sub [0, 1, 2, 3, 4] rfl (ih (i + 1) _ (by omega) (by omega) (fun c hc32 => (h3 c hc32).trans ⟨fun ⟨r, z1, z2⟩ => ⟨r, by omega, z2⟩, fun ⟨r, z1, z2⟩ => ⟨r, (Nat.lt_succ_iff_lt_or_eq.mp z1).elim id (fun e => by rw [e] at z2; exact absurd z2.2.1 u27), z2⟩⟩))
set_option maxHeartbeats 600000 in
set_option maxRecDepth 100000 in
theorem c_H1_consAskedAt {K : KC} {M : MC} {o : Nat → Int64} {nc ns : Nat} {d n j : Nat} {x : Int32} (erc : K.1 21 = nI n) (hn : n ≤ 2) (hj : j < 40) (hj2 : j < 24) (hV : ∀ r, r < n → iB x r = true → lB (K.2.2 30 r) j = true → ∃ c, c < 32 ∧ K.2.1 (32 + r) j = nI c) {post : mj_O → mj_H → Prop} (k : ∀ v, (∀ c, c < 32 → (iB v c = true ↔ ∃ r, r < n ∧ iB x r = true ∧ lB (K.2.2 30 r) j = true ∧ K.2.1 (32 + r) j = nI c)) → post (.inl (some (.int v))) (hp K M o, nc, ns)) : mj_G y_H_consAskedAt b_H_consAskedAt 5 (some .int) [] (d + 1) none 0 [(0, .ref 29), (1, .int x), (2, .int (nI j))] [] (hp K M o, nc, ns) post := by
  refine G_iconst (v := 0) d_H_consAskedAt_0 (by decide) ?_
  refine G_istore_n (ls' := [(3, .int 0), (0, .ref 29), (1, .int x), (2, .int (nI j))]) d_H_consAskedAt_1 (by decide) rfl ?_
  refine G_iconst (v := nI 0) d_H_consAskedAt_2 (by decide) ?_
  refine G_istore (ls' := [(4, .int (nI 0)), (3, .int 0), (0, .ref 29), (1, .int x), (2, .int (nI j))]) d_H_consAskedAt_3 (by decide) rfl ?_
  exact G_sub [0, 1, 2, 3, 4] rfl (l_H1_consAskedAt erc hn hj hj2 hV k (n + 1) 0 0 (by omega) (by omega) (fun c _ => ⟨fun z => (by rw [iB_0] at z; cases z), fun ⟨r, z, _⟩ => absurd z (Nat.not_lt_zero r)⟩))
set_option maxHeartbeats 600000 in
set_option maxRecDepth 100000 in
theorem l_H1_agree {K : KC} {M : MC} {o : Nat → Int64} {nc ns : Nat} {d np i i2 : Nat} (epc : K.1 22 = nI np) (hnp : np ≤ 40) (hnp2 : np ≤ 24) (hi : i < 2) (hi2 : i2 < 2) {post : mj_O → mj_H → Prop} (k1 : (∀ j, j < np → lB (K.2.2 30 i) j = true → lB (K.2.2 30 i2) j = true → K.2.1 (32 + i) j = K.2.1 (32 + i2) j) → post (.inl (some (.int 1))) (hp K M o, nc, ns)) (k0 : ¬ (∀ j, j < np → lB (K.2.2 30 i) j = true → lB (K.2.2 30 i2) j = true → K.2.1 (32 + i) j = K.2.1 (32 + i2) j) → post (.inl (some (.int 0))) (hp K M o, nc, ns)) : ∀ (m j : Nat), j ≤ np → np < j + m → (∀ y, y < j → lB (K.2.2 30 i) y = true → lB (K.2.2 30 i2) y = true → K.2.1 (32 + i) y = K.2.1 (32 + i2) y) → mj_G y_H_agree b_H_agree 5 (some .boolean) [] (d + 1) none 2 [(3, .int (nI j)), (0, .ref 29), (1, .int (nI i)), (2, .int (nI i2))] [] (hp K M o, nc, ns) post := by
  intro m
  induction m with
  | zero => intro j h1 h2; omega
  | succ m ih =>
    intro j h1 h2 h3
    refine G_iload_n 0 d_H_agree_2 rfl ?_
    refine G_aload_n 1 d_H_agree_3 rfl ?_
    refine G_gt d_H_agree_4 fr_H_52 (rd_H1_placeCount K M o) ?_
    rw [show K.1 22 = nI np from epc]
    refine G_icge 67 d_H_agree_7 (by decide) (fun h7 => ?_) (fun h7 => ?_)
    · have h7 := (nI_leI (by omega) (by omega)).mp h7
      obtain rfl : j = np := by omega
      refine G_iconst (v := 1) d_H_agree_67 (by decide) ?_
      exact G_zret d_H_agree_68 rfl rfl (k1 h3)
    · have h7 : ¬ _ := fun z => h7 ((nI_leI (by omega) (by omega)).mpr z)
      refine G_aload_n 1 d_H_agree_10 rfl ?_
      refine G_iload_n 2 d_H_agree_11 rfl ?_
      refine G_iload_n 0 d_H_agree_12 rfl ?_
      refine G_cvB (lB (K.2.2 30 i) j = true) (As := [.int (nI i), .int (nI j)]) d_H_agree_13 cv_H_106 cw_H_isAsked (ob_H1 K M o) np_H_isAsked (Nat.le_of_ble_eq_true rfl) (Nat.le_of_ble_eq_true rfl) (fun post2 k1 k0 => c_H1_isAsked (i := i) (j := j) (by omega) (by omega) k1 k0) (fun u13 => ?_) (fun u13 => ?_)
      · refine G_ifeq 32 d_H_agree_16 (by decide) (fun h => absurd h (by decide)) (fun _ => ?_)
        refine G_aload_n 1 d_H_agree_19 rfl ?_
        refine G_iload_n 3 d_H_agree_20 rfl ?_
        refine G_iload_n 0 d_H_agree_21 rfl ?_
        refine G_cvB (lB (K.2.2 30 i2) j = true) (As := [.int (nI i2), .int (nI j)]) d_H_agree_22 cv_H_106 cw_H_isAsked (ob_H1 K M o) np_H_isAsked (Nat.le_of_ble_eq_true rfl) (Nat.le_of_ble_eq_true rfl) (fun post2 k1 k0 => c_H1_isAsked (i := i2) (j := j) (by omega) (by omega) k1 k0) (fun u22 => ?_) (fun u22 => ?_)
        · refine G_ifeq 32 d_H_agree_25 (by decide) (fun h => absurd h (by decide)) (fun _ => ?_)
          refine G_iconst (v := 1) d_H_agree_28 (by decide) ?_
          refine G_goto 33 d_H_agree_29 (by decide) ?_
          refine G_istore (ls' := [(4, .int 1), (3, .int (nI j)), (0, .ref 29), (1, .int (nI i)), (2, .int (nI i2))]) d_H_agree_33 (by decide) rfl ?_
          refine G_iload 0 d_H_agree_35 rfl ?_
          refine G_ifeq 61 d_H_agree_37 (by decide) (fun h => absurd h (by decide)) (fun _ => ?_)
          refine G_aload_n 2 d_H_agree_40 rfl ?_
          refine G_gt d_H_agree_41 fr_H_25 (rd_H1_asks K M o) ?_
          refine G_iload_n 3 d_H_agree_44 rfl ?_
          refine G_aalN (r := 32 + i) d_H_agree_45 (ar_31 K M o) (by decide) (by omega) (if_pos (by omega)) ?_
          refine G_iload_n 1 d_H_agree_46 rfl ?_
          refine G_ialN d_H_agree_47 (arr_32 K M o (by omega)) (by decide) (by omega) ?_
          refine G_aload_n 2 d_H_agree_48 rfl ?_
          refine G_gt d_H_agree_49 fr_H_25 (rd_H1_asks K M o) ?_
          refine G_iload_n 4 d_H_agree_52 rfl ?_
          refine G_aalN (r := 32 + i2) d_H_agree_53 (ar_31 K M o) (by decide) (by omega) (if_pos (by omega)) ?_
          refine G_iload_n 1 d_H_agree_54 rfl ?_
          refine G_ialN d_H_agree_55 (arr_32 K M o (by omega)) (by decide) (by omega) ?_
          refine G_iceq 61 d_H_agree_56 (by decide) (fun h56 => ?_) (fun h56 => ?_)
          · refine G_iinc 1 (v := nI (j + 1)) (ls' := [(3, .int (nI (j + 1))), (4, .int 1), (0, .ref 29), (1, .int (nI i)), (2, .int (nI i2))]) d_H_agree_61 rfl (nI_1 _) (by decide) rfl ?_
            refine G_goto 2 d_H_agree_64 (by decide) ?_
            exact G_sub [0, 2, 3, 4] rfl (ih (j + 1) (by omega) (by omega) (fun y y1 y2 y3 => (Nat.lt_succ_iff_lt_or_eq.mp y1).elim (fun z => h3 y z y2 y3) (fun e => by subst e; exact h56)))
          · refine G_iconst (v := 0) d_H_agree_59 (by decide) ?_
            exact G_zret d_H_agree_60 rfl rfl (k0 (fun z => h56 (z j (by omega) u13 u22)))
        · refine G_ifeq 32 d_H_agree_25 (by decide) (fun _ => ?_) (fun h => absurd h (by decide))
          refine G_iconst (v := 0) d_H_agree_32 (by decide) ?_
          refine G_istore (ls' := [(4, .int 0), (3, .int (nI j)), (0, .ref 29), (1, .int (nI i)), (2, .int (nI i2))]) d_H_agree_33 (by decide) rfl ?_
          refine G_iload 0 d_H_agree_35 rfl ?_
          refine G_ifeq 61 d_H_agree_37 (by decide) (fun _ => ?_) (fun h => absurd h (by decide))
          refine G_iinc 1 (v := nI (j + 1)) (ls' := [(3, .int (nI (j + 1))), (4, .int 0), (0, .ref 29), (1, .int (nI i)), (2, .int (nI i2))]) d_H_agree_61 rfl (nI_1 _) (by decide) rfl ?_
          refine G_goto 2 d_H_agree_64 (by decide) ?_
          exact G_sub [0, 2, 3, 4] rfl (ih (j + 1) (by omega) (by omega) (fun y y1 y2 y3 => (Nat.lt_succ_iff_lt_or_eq.mp y1).elim (fun z => h3 y z y2 y3) (fun e => by subst e; exact absurd y3 u22)))
      · refine G_ifeq 32 d_H_agree_16 (by decide) (fun _ => ?_) (fun h => absurd h (by decide))
        refine G_iconst (v := 0) d_H_agree_32 (by decide) ?_
        refine G_istore (ls' := [(4, .int 0), (3, .int (nI j)), (0, .ref 29), (1, .int (nI i)), (2, .int (nI i2))]) d_H_agree_33 (by decide) rfl ?_
        refine G_iload 0 d_H_agree_35 rfl ?_
        refine G_ifeq 61 d_H_agree_37 (by decide) (fun _ => ?_) (fun h => absurd h (by decide))
        refine G_iinc 1 (v := nI (j + 1)) (ls' := [(3, .int (nI (j + 1))), (4, .int 0), (0, .ref 29), (1, .int (nI i)), (2, .int (nI i2))]) d_H_agree_61 rfl (nI_1 _) (by decide) rfl ?_
        refine G_goto 2 d_H_agree_64 (by decide) ?_
        exact G_sub [0, 2, 3, 4] rfl (ih (j + 1) (by omega) (by omega) (fun y y1 y2 y3 => (Nat.lt_succ_iff_lt_or_eq.mp y1).elim (fun z => h3 y z y2 y3) (fun e => by subst e; exact absurd y2 u13)))
set_option maxHeartbeats 600000 in
set_option maxRecDepth 100000 in
theorem c_H1_agree {K : KC} {M : MC} {o : Nat → Int64} {nc ns : Nat} {d np i i2 : Nat} (epc : K.1 22 = nI np) (hnp : np ≤ 40) (hnp2 : np ≤ 24) (hi : i < 2) (hi2 : i2 < 2) {post : mj_O → mj_H → Prop} (k1 : (∀ j, j < np → lB (K.2.2 30 i) j = true → lB (K.2.2 30 i2) j = true → K.2.1 (32 + i) j = K.2.1 (32 + i2) j) → post (.inl (some (.int 1))) (hp K M o, nc, ns)) (k0 : ¬ (∀ j, j < np → lB (K.2.2 30 i) j = true → lB (K.2.2 30 i2) j = true → K.2.1 (32 + i) j = K.2.1 (32 + i2) j) → post (.inl (some (.int 0))) (hp K M o, nc, ns)) : mj_G y_H_agree b_H_agree 5 (some .boolean) [] (d + 1) none 0 [(0, .ref 29), (1, .int (nI i)), (2, .int (nI i2))] [] (hp K M o, nc, ns) post := by
  refine G_iconst (v := nI 0) d_H_agree_0 (by decide) ?_
  refine G_istore_n (ls' := [(3, .int (nI 0)), (0, .ref 29), (1, .int (nI i)), (2, .int (nI i2))]) d_H_agree_1 (by decide) rfl ?_
  exact G_sub [0, 1, 2, 3] rfl (l_H1_agree epc hnp hnp2 hi hi2 k1 k0 (np + 1) 0 (by omega) (by omega) (fun y z => absurd z (Nat.not_lt_zero y)))
set_option maxHeartbeats 600000 in
set_option maxRecDepth 100000 in
theorem l_H1_before {K : KC} {M : MC} {o : Nat → Int64} {nc ns : Nat} {d np i : Nat} (epc : K.1 22 = nI np) (hnp : np ≤ 40) (hnp2 : np ≤ 24) (hi : i < 2) {post : mj_O → mj_H → Prop} (k : ∀ v, (∀ r, iB v r = true ↔ r < i ∧ (∀ j, j < np → lB (K.2.2 30 r) j = true → lB (K.2.2 30 i) j = true → K.2.1 (32 + r) j = K.2.1 (32 + i) j)) → post (.inl (some (.int v))) (hp K M o, nc, ns)) : ∀ (m c : Nat) (v : Int32), c ≤ i → i < c + m → (∀ r, iB v r = true ↔ r < c ∧ (∀ j, j < np → lB (K.2.2 30 r) j = true → lB (K.2.2 30 i) j = true → K.2.1 (32 + r) j = K.2.1 (32 + i) j)) → mj_G y_H_rowsBeforeThatAgree b_H_rowsBeforeThatAgree 4 (some .int) [] (d + 2) none 4 [(3, .int (nI c)), (2, .int v), (0, .ref 29), (1, .int (nI i))] [] (hp K M o, nc, ns) post := by
  intro m
  induction m with
  | zero => intro c v h1 h2; omega
  | succ m ih =>
    intro c v h1 h2 h3
    refine G_iload_n 0 d_H_rowsBeforeThatAgree_4 rfl ?_
    refine G_iload_n 3 d_H_rowsBeforeThatAgree_5 rfl ?_
    refine G_icge 30 d_H_rowsBeforeThatAgree_6 (by decide) (fun h6 => ?_) (fun h6 => ?_)
    · have h6 := (nI_leI (by omega) (by omega)).mp h6
      obtain rfl : c = i := by omega
      refine G_iload_n 1 d_H_rowsBeforeThatAgree_30 rfl ?_
      exact G_iret d_H_rowsBeforeThatAgree_31 rfl (k _ h3)
    · have h6 : ¬ _ := fun z => h6 ((nI_leI (by omega) (by omega)).mpr z)
      refine G_aload_n 2 d_H_rowsBeforeThatAgree_9 rfl ?_
      refine G_iload_n 0 d_H_rowsBeforeThatAgree_10 rfl ?_
      refine G_iload_n 3 d_H_rowsBeforeThatAgree_11 rfl ?_
      refine G_cvB (∀ j, j < np → lB (K.2.2 30 c) j = true → lB (K.2.2 30 i) j = true → K.2.1 (32 + c) j = K.2.1 (32 + i) j) (As := [.int (nI c), .int (nI i)]) d_H_rowsBeforeThatAgree_12 cv_H_113 cw_H_agree (ob_H1 K M o) np_H_agree (Nat.le_of_ble_eq_true rfl) (Nat.le_of_ble_eq_true rfl) (fun post2 k1 k0 => c_H1_agree (i := c) (i2 := i) epc hnp hnp2 (by omega) (by omega) k1 k0) (fun u12 => ?_) (fun u12 => ?_)
      · refine G_ifeq 24 d_H_rowsBeforeThatAgree_15 (by decide) (fun h => absurd h (by decide)) (fun _ => ?_)
        refine G_iload_n 1 d_H_rowsBeforeThatAgree_18 rfl ?_
        refine G_iconst (v := 1) d_H_rowsBeforeThatAgree_19 (by decide) ?_
        refine G_iload_n 0 d_H_rowsBeforeThatAgree_20 rfl ?_
        refine G_ishl d_H_rowsBeforeThatAgree_21 ?_
        refine G_ior d_H_rowsBeforeThatAgree_22 ?_
        refine G_istore_n (ls' := [(2, .int (v ||| (1 <<< ((nI c) &&& 31)))), (3, .int (nI c)), (0, .ref 29), (1, .int (nI i))]) d_H_rowsBeforeThatAgree_23 (by decide) rfl ?_
        refine G_iinc 1 (v := nI (c + 1)) (ls' := [(3, .int (nI (c + 1))), (2, .int (v ||| (1 <<< ((nI c) &&& 31)))), (0, .ref 29), (1, .int (nI i))]) d_H_rowsBeforeThatAgree_24 rfl (nI_1 _) (by decide) rfl ?_
        refine G_goto 4 d_H_rowsBeforeThatAgree_27 (by decide) ?_
        exact G_sub [0, 1, 2, 3] rfl (ih (c + 1) _ (by omega) (by omega) (sorts_y (by omega) h3 u12))
      · refine G_ifeq 24 d_H_rowsBeforeThatAgree_15 (by decide) (fun _ => ?_) (fun h => absurd h (by decide))
        refine G_iinc 0 (v := nI (c + 1)) (ls' := [(3, .int (nI (c + 1))), (2, .int v), (0, .ref 29), (1, .int (nI i))]) d_H_rowsBeforeThatAgree_24 rfl (nI_1 _) (by decide) rfl ?_
        refine G_goto 4 d_H_rowsBeforeThatAgree_27 (by decide) ?_
        exact G_sub [0, 1, 2, 3] rfl (ih (c + 1) _ (by omega) (by omega) (sorts_n h3 u12))
set_option maxHeartbeats 600000 in
set_option maxRecDepth 100000 in
theorem c_H1_before {K : KC} {M : MC} {o : Nat → Int64} {nc ns : Nat} {d np i : Nat} (epc : K.1 22 = nI np) (hnp : np ≤ 40) (hnp2 : np ≤ 24) (hi : i < 2) {post : mj_O → mj_H → Prop} (k : ∀ v, (∀ r, iB v r = true ↔ r < i ∧ (∀ j, j < np → lB (K.2.2 30 r) j = true → lB (K.2.2 30 i) j = true → K.2.1 (32 + r) j = K.2.1 (32 + i) j)) → post (.inl (some (.int v))) (hp K M o, nc, ns)) : mj_G y_H_rowsBeforeThatAgree b_H_rowsBeforeThatAgree 4 (some .int) [] (d + 2) none 0 [(0, .ref 29), (1, .int (nI i))] [] (hp K M o, nc, ns) post := by
  refine G_iconst (v := 0) d_H_rowsBeforeThatAgree_0 (by decide) ?_
  refine G_istore_n (ls' := [(2, .int 0), (0, .ref 29), (1, .int (nI i))]) d_H_rowsBeforeThatAgree_1 (by decide) rfl ?_
  refine G_iconst (v := nI 0) d_H_rowsBeforeThatAgree_2 (by decide) ?_
  refine G_istore_n (ls' := [(3, .int (nI 0)), (2, .int 0), (0, .ref 29), (1, .int (nI i))]) d_H_rowsBeforeThatAgree_3 (by decide) rfl ?_
  exact G_sub [0, 1, 2, 3] rfl (l_H1_before epc hnp hnp2 hi k (i + 1) 0 0 (by omega) (by omega) (fun r => ⟨fun z => (by rw [iB_0] at z; cases z), fun z => absurd z.1 (Nat.not_lt_zero r)⟩))
set_option maxHeartbeats 600000 in
set_option maxRecDepth 100000 in
theorem l_H1_hasV {K : KC} {M : MC} {o : Nat → Int64} {nc ns : Nat} {d np i : Nat} (epc : K.1 22 = nI np) (hnp : np ≤ 40) (hnp2 : np ≤ 24) (hi : i < 2) (hV : ∀ y, y < np → lB (K.2.2 30 i) y = true → ¬ K.2.1 34 y = 0 → ∃ c, c < 32 ∧ K.2.1 (32 + i) y = nI c) {post : mj_O → mj_H → Prop} (k1 : (∀ y, y < np → lB (K.2.2 30 i) y = true → ¬ K.2.1 34 y = 0 → ∃ c, c < 32 ∧ K.2.1 (32 + i) y = nI c ∧ iB (K.1 3) c = true) → post (.inl (some (.int 1))) (hp K M o, nc, ns)) (k0 : ¬ (∀ y, y < np → lB (K.2.2 30 i) y = true → ¬ K.2.1 34 y = 0 → ∃ c, c < 32 ∧ K.2.1 (32 + i) y = nI c ∧ iB (K.1 3) c = true) → post (.inl (some (.int 0))) (hp K M o, nc, ns)) : ∀ (m j : Nat), j ≤ np → np < j + m → (∀ y, y < j → lB (K.2.2 30 i) y = true → ¬ K.2.1 34 y = 0 → ∃ c, c < 32 ∧ K.2.1 (32 + i) y = nI c ∧ iB (K.1 3) c = true) → mj_G y_H_hasValue b_H_hasValue 4 (some .boolean) [] (d + 1) none 18 [(2, .int (nI j)), (0, .ref 29), (1, .int (nI i))] [] (hp K M o, nc, ns) post := by
  intro m
  induction m with
  | zero => intro j h1 h2; omega
  | succ m ih =>
    intro j h1 h2 h3
    refine G_iload_n 0 d_H_hasValue_18 rfl ?_
    refine G_aload_n 1 d_H_hasValue_19 rfl ?_
    refine G_gt d_H_hasValue_20 fr_H_52 (rd_H1_placeCount K M o) ?_
    rw [show K.1 22 = nI np from epc]
    refine G_icge 80 d_H_hasValue_23 (by decide) (fun h23 => ?_) (fun h23 => ?_)
    · have h23 := (nI_leI (by omega) (by omega)).mp h23
      obtain rfl : j = np := by omega
      refine G_iconst (v := 1) d_H_hasValue_80 (by decide) ?_
      exact G_zret d_H_hasValue_81 rfl rfl (k1 h3)
    · have h23 : ¬ _ := fun z => h23 ((nI_leI (by omega) (by omega)).mpr z)
      refine G_aload_n 1 d_H_hasValue_26 rfl ?_
      refine G_iload_n 2 d_H_hasValue_27 rfl ?_
      refine G_iload_n 0 d_H_hasValue_28 rfl ?_
      refine G_cvB (lB (K.2.2 30 i) j = true) (As := [.int (nI i), .int (nI j)]) d_H_hasValue_29 cv_H_106 cw_H_isAsked (ob_H1 K M o) np_H_isAsked (Nat.le_of_ble_eq_true rfl) (Nat.le_of_ble_eq_true rfl) (fun post2 k1 k0 => c_H1_isAsked (i := i) (j := j) (by omega) (by omega) k1 k0) (fun u29 => ?_) (fun u29 => ?_)
      · refine G_ifeq 48 d_H_hasValue_32 (by decide) (fun h => absurd h (by decide)) (fun _ => ?_)
        refine G_aload_n 1 d_H_hasValue_35 rfl ?_
        refine G_gt d_H_hasValue_36 fr_H_28 (rd_H1_placeSort K M o) ?_
        refine G_iload_n 0 d_H_hasValue_39 rfl ?_
        refine G_ialN d_H_hasValue_40 (ar_34 K M o) (by decide) (by omega) ?_
        refine G_ifeq 48 d_H_hasValue_41 (by decide) (fun h41 => ?_) (fun h41 => ?_)
        · refine G_iconst (v := 0) d_H_hasValue_48 (by decide) ?_
          refine G_istore_n (ls' := [(3, .int 0), (2, .int (nI j)), (0, .ref 29), (1, .int (nI i))]) d_H_hasValue_49 (by decide) rfl ?_
          refine G_iload_n 0 d_H_hasValue_50 rfl ?_
          refine G_ifeq 74 d_H_hasValue_51 (by decide) (fun _ => ?_) (fun h => absurd h (by decide))
          refine G_iinc 1 (v := nI (j + 1)) (ls' := [(2, .int (nI (j + 1))), (3, .int 0), (0, .ref 29), (1, .int (nI i))]) d_H_hasValue_74 rfl (nI_1 _) (by decide) rfl ?_
          refine G_goto 18 d_H_hasValue_77 (by decide) ?_
          exact G_sub [0, 2, 3] rfl (ih (j + 1) (by omega) (by omega) (fun y y1 y2 y3 => (Nat.lt_succ_iff_lt_or_eq.mp y1).elim (fun z => h3 y z y2 y3) (fun e => by subst e; exact absurd h41 y3)))
        · obtain ⟨cv, hcv, hv2⟩ := hV j (by omega) u29 h41
          refine G_iconst (v := 1) d_H_hasValue_44 (by decide) ?_
          refine G_goto 49 d_H_hasValue_45 (by decide) ?_
          refine G_istore_n (ls' := [(3, .int 1), (2, .int (nI j)), (0, .ref 29), (1, .int (nI i))]) d_H_hasValue_49 (by decide) rfl ?_
          refine G_iload_n 0 d_H_hasValue_50 rfl ?_
          refine G_ifeq 74 d_H_hasValue_51 (by decide) (fun h => absurd h (by decide)) (fun _ => ?_)
          refine G_aload_n 2 d_H_hasValue_54 rfl ?_
          refine G_gt d_H_hasValue_55 fr_H_9 (rd_H1_sorts K M o) ?_
          refine G_aload_n 2 d_H_hasValue_58 rfl ?_
          refine G_gt d_H_hasValue_59 fr_H_25 (rd_H1_asks K M o) ?_
          refine G_iload_n 3 d_H_hasValue_62 rfl ?_
          refine G_aalN (r := 32 + i) d_H_hasValue_63 (ar_31 K M o) (by decide) (by omega) (if_pos (by omega)) ?_
          refine G_iload_n 1 d_H_hasValue_64 rfl ?_
          refine G_ialN d_H_hasValue_65 (arr_32 K M o (by omega)) (by decide) (by omega) ?_
          rw [hv2]
          refine G_cvB (iB (K.1 3) cv = true) (As := [.int (nI cv)]) d_H_hasValue_66 cv_H_110 cw_S_isConLiving (ob_S K M o) np_S_isConLiving (Nat.le_of_ble_eq_true rfl) (Nat.le_of_ble_eq_true rfl) (fun post2 k1 k0 => c_S_isConLiving (s := cv) hcv k1 k0) (fun u66 => ?_) (fun u66 => ?_)
          · refine G_ifne 74 d_H_hasValue_69 (by decide) (fun _ => ?_) (fun h => absurd h (by decide))
            refine G_iinc 1 (v := nI (j + 1)) (ls' := [(2, .int (nI (j + 1))), (3, .int 1), (0, .ref 29), (1, .int (nI i))]) d_H_hasValue_74 rfl (nI_1 _) (by decide) rfl ?_
            refine G_goto 18 d_H_hasValue_77 (by decide) ?_
            exact G_sub [0, 2, 3] rfl (ih (j + 1) (by omega) (by omega) (fun y y1 y2 y3 => (Nat.lt_succ_iff_lt_or_eq.mp y1).elim (fun z => h3 y z y2 y3) (fun e => by subst e; exact ⟨cv, hcv, hv2, u66⟩)))
          · refine G_ifne 74 d_H_hasValue_69 (by decide) (fun h => absurd h (by decide)) (fun _ => ?_)
            refine G_iconst (v := 0) d_H_hasValue_72 (by decide) ?_
            exact G_zret d_H_hasValue_73 rfl rfl (k0 (fun z => by obtain ⟨c1, q1, q2, q3⟩ := z j (by omega) u29 h41; rw [hv2] at q2; rw [← (nI_eq (by omega) (by omega)).mp q2] at q3; exact u66 q3))
      · refine G_ifeq 48 d_H_hasValue_32 (by decide) (fun _ => ?_) (fun h => absurd h (by decide))
        refine G_iconst (v := 0) d_H_hasValue_48 (by decide) ?_
        refine G_istore_n (ls' := [(3, .int 0), (2, .int (nI j)), (0, .ref 29), (1, .int (nI i))]) d_H_hasValue_49 (by decide) rfl ?_
        refine G_iload_n 0 d_H_hasValue_50 rfl ?_
        refine G_ifeq 74 d_H_hasValue_51 (by decide) (fun _ => ?_) (fun h => absurd h (by decide))
        refine G_iinc 1 (v := nI (j + 1)) (ls' := [(2, .int (nI (j + 1))), (3, .int 0), (0, .ref 29), (1, .int (nI i))]) d_H_hasValue_74 rfl (nI_1 _) (by decide) rfl ?_
        refine G_goto 18 d_H_hasValue_77 (by decide) ?_
        exact G_sub [0, 2, 3] rfl (ih (j + 1) (by omega) (by omega) (fun y y1 y2 y3 => (Nat.lt_succ_iff_lt_or_eq.mp y1).elim (fun z => h3 y z y2 y3) (fun e => by subst e; exact absurd y2 u29)))
set_option maxHeartbeats 600000 in
set_option maxRecDepth 100000 in
theorem c_H1_hasValue {K : KC} {M : MC} {o : Nat → Int64} {nc ns : Nat} {d np i s0 : Nat} (efs : K.1 20 = nI s0) (hs0 : s0 < 32) (epc : K.1 22 = nI np) (hnp : np ≤ 40) (hnp2 : np ≤ 24) (hi : i < 2) (hV : ∀ y, y < np → lB (K.2.2 30 i) y = true → ¬ K.2.1 34 y = 0 → ∃ c, c < 32 ∧ K.2.1 (32 + i) y = nI c) {post : mj_O → mj_H → Prop} (k1 : iB (K.1 2) s0 = true ∧ (∀ y, y < np → lB (K.2.2 30 i) y = true → ¬ K.2.1 34 y = 0 → ∃ c, c < 32 ∧ K.2.1 (32 + i) y = nI c ∧ iB (K.1 3) c = true) → post (.inl (some (.int 1))) (hp K M o, nc, ns)) (k0 : ¬ (iB (K.1 2) s0 = true ∧ ∀ y, y < np → lB (K.2.2 30 i) y = true → ¬ K.2.1 34 y = 0 → ∃ c, c < 32 ∧ K.2.1 (32 + i) y = nI c ∧ iB (K.1 3) c = true) → post (.inl (some (.int 0))) (hp K M o, nc, ns)) : mj_G y_H_hasValue b_H_hasValue 4 (some .boolean) [] (d + 1) none 0 [(0, .ref 29), (1, .int (nI i))] [] (hp K M o, nc, ns) post := by
  refine G_aload_n 0 d_H_hasValue_0 rfl ?_
  refine G_gt d_H_hasValue_1 fr_H_9 (rd_H1_sorts K M o) ?_
  refine G_aload_n 0 d_H_hasValue_4 rfl ?_
  refine G_gt d_H_hasValue_5 fr_H_45 (rd_H1_sort K M o) ?_
  rw [show K.1 20 = nI s0 from efs]
  refine G_cvB (iB (K.1 2) s0 = true) (As := [.int (nI s0)]) d_H_hasValue_8 cv_H_100 cw_S_isSortLiving (ob_S K M o) np_S_isSortLiving (Nat.le_of_ble_eq_true rfl) (Nat.le_of_ble_eq_true rfl) (fun post2 k1 k0 => c_S_isSortLiving (s := s0) hs0 k1 k0) (fun u8 => ?_) (fun u8 => ?_)
  · refine G_ifne 16 d_H_hasValue_11 (by decide) (fun _ => ?_) (fun h => absurd h (by decide))
    refine G_iconst (v := nI 0) d_H_hasValue_16 (by decide) ?_
    refine G_istore_n (ls' := [(2, .int (nI 0)), (0, .ref 29), (1, .int (nI i))]) d_H_hasValue_17 (by decide) rfl ?_
    exact G_sub [0, 1, 2] rfl (l_H1_hasV epc hnp hnp2 hi hV (fun z => k1 ⟨u8, z⟩) (fun z => k0 (fun g => z g.2)) (np + 1) 0 (by omega) (by omega) (fun y z => absurd z (Nat.not_lt_zero y)))
  · refine G_ifne 16 d_H_hasValue_11 (by decide) (fun h => absurd h (by decide)) (fun _ => ?_)
    refine G_iconst (v := 0) d_H_hasValue_14 (by decide) ?_
    exact G_zret d_H_hasValue_15 rfl rfl (k0 (fun z => u8 z.1))
