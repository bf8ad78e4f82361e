/-! escapes -/
theorem low_ex {z : Int64} (h : ¬ z = 0) : ∃ j, j < 64 ∧ lB z j = true ∧ ∀ i, i < j → lB z i = false := by
  obtain ⟨k, hk, hb⟩ := lB_ne0 h
  have : ∀ m k, k < m → k < 64 → lB z k = true → ∃ j, j < 64 ∧ lB z j = true ∧ ∀ i, i < j → lB z i = false := by
    intro m
    induction m with
    | zero => intro k h; omega
    | succ m ih =>
      intro k h1 h2 h3
      by_cases e : ∃ i, i < k ∧ lB z i = true
      · obtain ⟨i, i1, i2⟩ := e
        exact ih i (by omega) (by omega) i2
      · exact ⟨k, h2, h3, fun i hi => nb (fun q => e ⟨i, hi, q⟩)⟩
  exact this (k + 1) k (by omega) hk hb
theorem SE_eq {R : MC} {s0 n : Nat} {P : Nat → Nat} {X : SX} {x x' : Int32} {u : Tr} {a : Int} (hX : SXK R s0 n P X) {j : Nat} (hx : ∀ i, iB x' i = true ↔ i < n ∧ iB x i = true ∧ (lB (xA X i) j = true → xlb X i j = a)) : SE R s0 n P x' (updT u (xP X j) a) ↔ SE R s0 n P x (updT u (xP X j) a) := by
  constructor
  · rintro ⟨t, h1, h2, h3, h4⟩
    refine ⟨t, h1, h2, h3, fun p hq => ?_⟩
    obtain ⟨i, z1, z2, z3⟩ := nvx_mem.mp hq
    by_cases e : lB (xA X i) j = true → xlb X i j = a
    · exact h4 p (nvx_mem.mpr ⟨i, z1, (hx i).mpr ⟨z1, z2, e⟩, z3⟩)
    · obtain ⟨e1, e2⟩ := Classical.not_imp.mp e
      rw [← z3]
      exact ⟨_, row_mem hX z1 e1, a, h1 _ _ updT_s, fun e => e2 e.symm⟩
  · exact SE_sub (fun i hi => ((hx i).mp hi).2.1)
theorem mu_one {y : Int64} {np j : Nat} (hj : j < np) (h : ¬ lB y j = true) : 0 < rcnt (fun k => ¬ lB y k = true) np := Nat.lt_of_le_of_lt (Nat.zero_le _) (rcnt_lt (P := fun _ => False) (Q := fun k => ¬ lB y k = true) hj (fun _ z => z.elim) h id)
theorem mu_two {y y' : Int64} {np j : Nat} (hj : j < np) (h : ¬ lB y j = true) (hy : ∀ k, lB y' k = true ↔ lB y k = true ∨ k = j) : rcnt (fun k => ¬ lB y' k = true) np < rcnt (fun k => ¬ lB y k = true) np := rcnt_lt hj (fun k z q => z ((hy k).mpr (Or.inl q))) h (fun z => z ((hy j).mpr (Or.inr rfl)))
set_option maxHeartbeats 1000000 in
set_option maxRecDepth 100000 in
theorem c_H0_escapes {K : KC} {M : MC} {o : Nat → Int64} {nc ns : Nat} {R : MC} {d s0 n np : Nat} {P : Nat → Nat} {pi : Nat → List Nat} (hX : SXK R s0 n P (vw0 K np pi)) (erc : K.1 11 = nI n) (hn : n ≤ 8) (hnp2 : np ≤ 40) (hO : rO K R) (hL : rL K R) (hl : LV R s0) : ∀ (w : Nat) (x : Int32) (y : Int64) (u : Tr) (dd : Nat), rcnt (fun k => ¬ lB y k = true) np < w → dd + w ≤ 41 → ES n R s0 (vw0 K np pi) x y u → ∀ post : mj_O → mj_H → Prop, (SE R s0 n P x u → post (.inl (some (.int 1))) (hp K M o, nc, ns)) → (¬ SE R s0 n P x u → post (.inl (some (.int 0))) (hp K M o, nc, ns)) → mj_G y_H_escapes b_H_escapes 14 (some .boolean) [] (d + w + 2) none 0 [(0, .ref 14), (1, .int x), (2, .long y), (4, .int (nI dd))] [] (hp K M o, nc, ns) post := by
  intro w
  induction w with
  | zero => intro x y u dd h; omega
  | succ w ih =>
    intro x y u dd hmu hdd hE post k1 k0
    refine G_iload_n 1 d_H_escapes_0 rfl ?_
    refine G_ifne 6 d_H_escapes_1 (by decide) (fun h1 => ?_) (fun h1 => ?_)
    · refine G_aload_n 0 d_H_escapes_6 rfl ?_
      refine G_gt d_H_escapes_7 fr_H_19 (rd_H0_asked K M o) ?_
      refine G_aload_n 0 d_H_escapes_10 rfl ?_
      refine G_iload_n 1 d_H_escapes_11 rfl ?_
      refine G_lload_n 2 d_H_escapes_12 rfl ?_
      refine G_cvp (fun a9 A9 => ∃ r : Nat, a9 = some (.int (nI r)) ∧ A9 = (hp K M o, nc, ns) ∧ (r < n ∧ iB x r = true)) (As := [.int x, .long y]) d_H_escapes_13 cv_H_116 cw_H_rowWithLeastLeft (ob_H0 K M o) np_H_rowWithLeastLeft (Nat.le_of_ble_eq_true rfl) (Nat.le_of_ble_eq_true rfl) (fun post2 kq => c_H0_least (x := x) (y := y) erc hn (fun i hi q qb => Nat.lt_of_lt_of_le (row_lt hX hi qb) hX.2.2.2.2) (by obtain ⟨q, q1, q2⟩ := iB_ne0 h1; exact ⟨q, hE.2.1 q q2, q2⟩) (fun v9 g9 g8 => kq _ _ ⟨v9, rfl, rfl, g9, g8⟩)) (fun a9 A9 h9 => by obtain ⟨v9, -, rfl, -⟩ := h9; rfl) (fun a9 A9 h9 => ?_)
      obtain ⟨r, rfl, rfl, g_r⟩ := h9
      refine G_lalN d_H_escapes_16 (ar_15 K M o) (by decide) (by omega) ?_
      refine G_lload_n 2 d_H_escapes_17 rfl ?_
      refine G_ldc2 (v := (-1)) d_H_escapes_18 (tin_1 (List.mem_of_getElem? (i := 182) rfl) rfl) ?_
      refine G_lxor d_H_escapes_21 ?_
      refine G_land d_H_escapes_22 ?_
      obtain ⟨z, hz⟩ : ∃ z, z = (K.2.2 15 r) &&& (y ^^^ (-1)) := ⟨_, rfl⟩
      rw [← hz]
      refine G_lstore (ls' := [(5, .long z), (0, .ref 14), (1, .int x), (2, .long y), (4, .int (nI dd))]) d_H_escapes_23 (by decide) rfl ?_
      refine G_lload 0 d_H_escapes_25 rfl ?_
      refine G_lconst (v := 0) d_H_escapes_27 (by decide) ?_
      refine G_lcmp d_H_escapes_28 ?_
      refine G_ifeq 39 d_H_escapes_29 (by decide) (fun h29 => ?_) (fun h29 => ?_)
      · refine G_iconst (v := 0) d_H_escapes_39 (by decide) ?_
        exact G_zret d_H_escapes_40 rfl rfl (k0 (SE_full hX hE g_r.2 (fun i qi => Classical.byContradiction fun q => by have q2 := lB_an (K.2.2 15 r) y i; rw [← hz, lcmp_0.mp h29, lB_0, show lB (K.2.2 15 r) i = true from qi, nb q] at q2; cases q2)))
      · have hz0 : ¬ z = 0 := fun q => h29 (lcmp_0.mpr q)
        obtain ⟨j, j64, jb, jl⟩ := low_ex hz0
        have hzb : ∀ i, lB z i = (lB (K.2.2 15 r) i && !lB y i) := fun i => by rw [hz]; exact lB_an _ _ _
        have hj1 : lB (K.2.2 15 r) j = true := by
          have q := hzb j
          rw [jb] at q
          exact (Bool.and_eq_true_iff.mp q.symm).1
        have hj2 : ¬ lB y j = true := by
          have q := hzb j
          rw [jb] at q
          have q2 := (Bool.and_eq_true_iff.mp q.symm).2
          intro q3
          rw [q3] at q2; cases q2
        have hlow : ∀ i, i < j → lB (K.2.2 15 r) i = true → lB y i = true := fun i hi q => by
          have q2 := hzb i
          rw [jl i hi, q] at q2
          cases q3 : lB y i with
          | true => rfl
          | false => rw [q3] at q2; cases q2
        have hTH : TH (vw0 K np pi) u y j := ES_low hX hE g_r.2 hj1 hlow
        have hnone : u (xP (vw0 K np pi) j) = none := ES_none hX hE g_r.2 hj1 hj2
        obtain ⟨sj, hs1, hs2, hs3⟩ := TH_srt hX hE.1 hl hTH
        have hs1 : K.2.1 25 j = nI sj := hs1
        have hjn : j < np := hTH.1
        have hsj : sj < mS R := (LV_step hs3).1
        have q12 : mS R ≤ 12 := hX.1.2.2
        have q30 : mC R ≤ 30 := hX.2.1.2.1
        have hyb : ∀ k, lB (y ||| 1 <<< ((nI j).toInt64 &&& 63)) k = true ↔ lB y k = true ∨ k = j := fun k => by
          rw [lB_or, Bool.or_eq_true, lB_one j64, decide_eq_true_eq]
          exact or_congr Iff.rfl eq_comm
        have hm1 := mu_one hjn hj2
        have hm2 := mu_two hjn hj2 hyb
        have hrec : ∀ (a : Int) (v : Int32), okA R sj a → (∀ i, iB v i = true ↔ i < n ∧ iB x i = true ∧ (lB (xA (vw0 K np pi) i) j = true → xlb (vw0 K np pi) i j = a)) → ∀ post2 : mj_O → mj_H → Prop, (SE R s0 n P x (updT u (xP (vw0 K np pi) j) a) → post2 (.inl (some (.int 1))) (hp K M o, nc, ns)) → (¬ SE R s0 n P x (updT u (xP (vw0 K np pi) j) a) → post2 (.inl (some (.int 0))) (hp K M o, nc, ns)) → mj_G y_H_escapes b_H_escapes 14 (some .boolean) [] (d + w + 2) none 0 [(0, .ref 14), (1, .int v), (2, .long (y ||| 1 <<< ((nI j).toInt64 &&& 63))), (4, .int (nI (dd + 1)))] [] (hp K M o, nc, ns) post2 := fun a v ha hv post2 k1 k0 =>
          ih v (y ||| 1 <<< ((nI j).toInt64 &&& 63)) (updT u (xP (vw0 K np pi) j) a) (dd + 1) (by omega) (by omega) (ES_step hX hE hTH hnone hs2 ha (fun i hi => ((hv i).mp hi).2) hyb) post2 (fun q => k1 ((SE_eq hX hv).mp q)) (fun q => k0 (fun q2 => q ((SE_eq hX hv).mpr q2)))
        refine G_iload 4 d_H_escapes_32 rfl ?_
        refine G_bipush (v := nI 40) d_H_escapes_34 (by decide) ?_
        refine G_iclt 41 d_H_escapes_36 (by decide) (fun h36 => ?_) (fun h36 => False.elim (h36 ((nI_ltI (by omega) (by omega)).mpr (by omega))))
        refine G_lload 0 d_H_escapes_41 rfl ?_
        refine G_cs1 (some (.int (nI j))) (hp K M o, nc, ns) (As := [.long z]) d_H_escapes_43 cs_H_122 cw_JL_numberOfTrailingZeros np_JL_numberOfTrailingZeros (Nat.le_of_ble_eq_true rfl) (Nat.le_of_ble_eq_true rfl) (fun post2 k2 => c_JL_ntz j64 jb jl k2) rfl ?_
        refine G_istore (ls' := [(7, .int (nI j)), (5, .long z), (0, .ref 14), (1, .int x), (2, .long y), (4, .int (nI dd))]) d_H_escapes_46 (by decide) rfl ?_
        refine G_lload_n 4 d_H_escapes_48 rfl ?_
        refine G_lconst (v := 1) d_H_escapes_49 (by decide) ?_
        refine G_iload 0 d_H_escapes_50 rfl ?_
        refine G_lshl d_H_escapes_52 ?_
        refine G_lor d_H_escapes_53 ?_
        refine G_lstore (ls' := [(8, .long (y ||| (1 <<< ((nI j).toInt64 &&& 63)))), (7, .int (nI j)), (5, .long z), (0, .ref 14), (1, .int x), (2, .long y), (4, .int (nI dd))]) d_H_escapes_54 (by decide) rfl ?_
        refine G_aload_n 3 d_H_escapes_56 rfl ?_
        refine G_iload_n 4 d_H_escapes_57 rfl ?_
        refine G_iload 1 d_H_escapes_58 rfl ?_
        refine G_cvp (fun a9 A9 => ∃ v0 : Int32, a9 = some (.int v0) ∧ A9 = (hp K M o, nc, ns) ∧ (∀ i, iB v0 i = true ↔ i < n ∧ (iB x i = true ∧ ¬ lB (K.2.2 15 i) j = true))) (As := [.int x, .int (nI j)]) d_H_escapes_60 cv_H_128 cw_H_rowsSilentAt (ob_H0 K M o) np_H_rowsSilentAt (Nat.le_of_ble_eq_true rfl) (Nat.le_of_ble_eq_true rfl) (fun post2 kq => c_H0_rowsSilentAt (x := x) (j := j) erc hn (by omega) (fun v9 g9 => kq _ _ ⟨v9, rfl, rfl, g9⟩)) (fun a9 A9 h9 => by obtain ⟨v9, -, rfl, -⟩ := h9; rfl) (fun a9 A9 h9 => ?_)
        obtain ⟨v0, rfl, rfl, g_v0⟩ := h9
        refine G_istore (ls' := [(10, .int v0), (8, .long (y ||| (1 <<< ((nI j).toInt64 &&& 63)))), (7, .int (nI j)), (5, .long z), (0, .ref 14), (1, .int x), (2, .long y), (4, .int (nI dd))]) d_H_escapes_63 (by decide) rfl ?_
        refine G_aload_n 4 d_H_escapes_65 rfl ?_
        refine G_gt d_H_escapes_66 fr_H_28 (rd_H0_placeSort K M o) ?_
        refine G_iload 2 d_H_escapes_69 rfl ?_
        refine G_ialN d_H_escapes_71 (ar_25 K M o) (by decide) (by omega) ?_
        rw [hs1]
        refine G_ifne 88 d_H_escapes_72 (by decide) (fun h72 => ?_) (fun h72 => ?_)
        · have hs0 : sj ≠ 0 := fun q => h72 (by rw [q]; rfl)
          have hS1 : ¬ xS (vw0 K np pi) j = nI 0 := fun q => hs0 ((nI_eq (by omega) (by omega)).mp (hs1.symm.trans q))
          have hch : ∀ c, iB (K.2.1 2 sj &&& K.1 3) c = true ↔ c < mC R ∧ cS R c = sj ∧ usdV R c := fun c => by
            rw [iB_and, Bool.and_eq_true, hO sj (by omega) c, hL.2 c]
            exact ⟨fun q => ⟨q.1.1, q.1.2, q.2.2⟩, fun q => ⟨⟨q.1, q.2.1⟩, q.1, q.2.2⟩⟩
          refine G_aload_n 4 d_H_escapes_88 rfl ?_
          refine G_gt d_H_escapes_89 fr_H_9 (rd_H0_sorts K M o) ?_
          refine G_aload_n 4 d_H_escapes_92 rfl ?_
          refine G_gt d_H_escapes_93 fr_H_28 (rd_H0_placeSort K M o) ?_
          refine G_iload 2 d_H_escapes_96 rfl ?_
          refine G_ialN d_H_escapes_98 (ar_25 K M o) (by decide) (by omega) ?_
          rw [hs1]
          refine G_cv1 (some (.int (K.2.1 2 sj &&& K.1 3))) (hp K M o, nc, ns) (As := [.int (nI sj)]) d_H_escapes_99 cv_H_131 cw_S_livingConsOf (ob_S K M o) np_S_livingConsOf (Nat.le_of_ble_eq_true rfl) (Nat.le_of_ble_eq_true rfl) (fun post2 k2 => c_S_livingConsOf (s := sj) (by omega) k2) rfl ?_
          refine G_istore (ls' := [(11, .int (K.2.1 2 sj &&& K.1 3)), (10, .int v0), (8, .long (y ||| (1 <<< ((nI j).toInt64 &&& 63)))), (7, .int (nI j)), (5, .long z), (0, .ref 14), (1, .int x), (2, .long y), (4, .int (nI dd))]) d_H_escapes_102 (by decide) rfl ?_
          refine G_iload 0 d_H_escapes_104 rfl ?_
          refine G_aload_n 5 d_H_escapes_106 rfl ?_
          refine G_iload_n 6 d_H_escapes_107 rfl ?_
          refine G_iload 3 d_H_escapes_108 rfl ?_
          refine G_cvp (fun a9 A9 => ∃ v1 : Int32, a9 = some (.int v1) ∧ A9 = (hp K M o, nc, ns) ∧ (∀ c, c < 32 → (iB v1 c = true ↔ ∃ r, r < n ∧ iB x r = true ∧ lB (K.2.2 15 r) j = true ∧ K.2.1 (17 + r) j = nI c))) (As := [.int x, .int (nI j)]) d_H_escapes_110 cv_H_134 cw_H_consAskedAt (ob_H0 K M o) np_H_consAskedAt (Nat.le_of_ble_eq_true rfl) (Nat.le_of_ble_eq_true rfl) (fun post2 kq => c_H0_consAskedAt (x := x) (j := j) erc hn (by omega) (fun r q1 q2 q3 => by obtain ⟨c, y1, y2, -⟩ := row_val hX q1 q3 hS1; exact ⟨c, by omega, y2⟩) (fun v9 g9 => kq _ _ ⟨v9, rfl, rfl, g9⟩)) (fun a9 A9 h9 => by obtain ⟨v9, -, rfl, -⟩ := h9; rfl) (fun a9 A9 h9 => ?_)
          obtain ⟨v1, rfl, rfl, g_v1⟩ := h9
          refine G_iconst (v := (-1)) d_H_escapes_113 (by decide) ?_
          refine G_ixor d_H_escapes_114 ?_
          refine G_iand d_H_escapes_115 ?_
          refine G_ifeq 132 d_H_escapes_116 (by decide) (fun h116 => ?_) (fun h116 => ?_)
          · have hS0 : ¬ xS (vw0 K np pi) j = nI 0 := fun q => hs0 ((nI_eq (by omega) (by omega)).mp (hs1.symm.trans q))
            have hloop : ∀ m c, c ≤ 30 → 30 < c + m → (∀ c2, c2 < c → iB (K.2.1 2 sj &&& K.1 3) c2 = true → ¬ SE R s0 n P x (updT u (xP (vw0 K np pi) j) (lab c2))) → mj_G y_H_escapes b_H_escapes 14 (some .boolean) [] (d + (w + 1) + 2) none 135 [(12, .int (nI c)), (11, .int (K.2.1 2 sj &&& K.1 3)), (10, .int v0), (8, .long (y ||| 1 <<< ((nI j).toInt64 &&& 63))), (7, .int (nI j)), (5, .long z), (4, .int (nI dd)), (0, .ref 14), (1, .int x), (2, .long y)] [] (hp K M o, nc, ns) post := by
              intro m
              induction m with
              | zero => intro c h1 h2; omega
              | succ m ihm =>
                intro c h1 h2 h3
                refine G_iload 0 d_H_escapes_135 rfl ?_
                refine G_bipush (v := nI 30) d_H_escapes_137 (by decide) ?_
                refine G_icge 197 d_H_escapes_139 (by decide) (fun h139 => ?_) (fun h139 => ?_)
                · have h139 := (nI_leI (by omega) (by omega)).mp h139
                  refine G_iconst (v := 0) d_H_escapes_197 (by decide) ?_
                  exact G_zret d_H_escapes_198 rfl rfl (k0 (fun q => by obtain ⟨c2, y1, y2, y3, y4⟩ := SE_fwdC hX hE hs2 hs3 hs0 q; exact h3 c2 (by omega) ((hch c2).mpr ⟨y1, y2, y3⟩) y4))
                · have h139 : ¬ _ := fun z => h139 ((nI_leI (by omega) (by omega)).mpr z)
                  refine G_iload 1 d_H_escapes_142 rfl ?_
                  refine G_iload 0 d_H_escapes_144 rfl ?_
                  refine G_ishr d_H_escapes_146 ?_
                  refine G_iconst (v := 1) d_H_escapes_147 (by decide) ?_
                  refine G_iand d_H_escapes_148 ?_
                  refine G_ifeq 156 d_H_escapes_149 (by decide) (fun h149 => ?_) (fun h149 => ?_)
                  · refine G_iconst (v := 0) d_H_escapes_156 (by decide) ?_
                    refine G_istore (ls' := [(13, .int 0), (12, .int (nI c)), (11, .int (K.2.1 2 sj &&& K.1 3)), (10, .int v0), (8, .long (y ||| 1 <<< ((nI j).toInt64 &&& 63))), (7, .int (nI j)), (5, .long z), (4, .int (nI dd)), (0, .ref 14), (1, .int x), (2, .long y)]) d_H_escapes_157 (by decide) rfl ?_
                    refine G_iload 0 d_H_escapes_159 rfl ?_
                    refine G_ifeq 191 d_H_escapes_161 (by decide) (fun _ => ?_) (fun h => absurd h (by decide))
                    refine G_iinc 1 (v := nI (c + 1)) (ls' := [(12, .int (nI (c + 1))), (13, .int 0), (11, .int (K.2.1 2 sj &&& K.1 3)), (10, .int v0), (8, .long (y ||| 1 <<< ((nI j).toInt64 &&& 63))), (7, .int (nI j)), (5, .long z), (4, .int (nI dd)), (0, .ref 14), (1, .int x), (2, .long y)]) d_H_escapes_191 rfl (nI_1 _) (by decide) rfl ?_
                    refine G_goto 135 d_H_escapes_194 (by decide) ?_
                    exact G_sub [0, 2, 3, 4, 5, 6, 7, 8, 9, 10] rfl (ihm (c + 1) (by omega) (by omega) (fun c2 y1 y2 => (Nat.lt_succ_iff_lt_or_eq.mp y1).elim (fun q => h3 c2 q y2) (fun e => by rw [e, (iB_test (by omega)).mp h149] at y2; cases y2)))
                  · have hcb : iB (K.2.1 2 sj &&& K.1 3) c = true := Classical.byContradiction fun q => h149 ((iB_test (by omega)).mpr (nb q))
                    have hc2 := (hch c).mp hcb
                    refine G_iconst (v := 1) d_H_escapes_152 (by decide) ?_
                    refine G_goto 157 d_H_escapes_153 (by decide) ?_
                    refine G_istore (ls' := [(13, .int 1), (12, .int (nI c)), (11, .int (K.2.1 2 sj &&& K.1 3)), (10, .int v0), (8, .long (y ||| 1 <<< ((nI j).toInt64 &&& 63))), (7, .int (nI j)), (5, .long z), (4, .int (nI dd)), (0, .ref 14), (1, .int x), (2, .long y)]) d_H_escapes_157 (by decide) rfl ?_
                    refine G_iload 0 d_H_escapes_159 rfl ?_
                    refine G_ifeq 191 d_H_escapes_161 (by decide) (fun h => absurd h (by decide)) (fun _ => ?_)
                    refine G_aload_n 8 d_H_escapes_164 rfl ?_
                    refine G_iload 3 d_H_escapes_165 rfl ?_
                    refine G_aload_n 8 d_H_escapes_167 rfl ?_
                    refine G_iload_n 9 d_H_escapes_168 rfl ?_
                    refine G_iload 5 d_H_escapes_169 rfl ?_
                    refine G_iload 1 d_H_escapes_171 rfl ?_
                    refine G_cvp (fun a9 A9 => ∃ v2 : Int32, a9 = some (.int v2) ∧ A9 = (hp K M o, nc, ns) ∧ (∀ i, iB v2 i = true ↔ i < n ∧ (iB x i = true ∧ lB (K.2.2 15 i) j = true ∧ K.2.1 (17 + i) j = nI c))) (As := [.int x, .int (nI j), .int (nI c)]) d_H_escapes_173 cv_H_137 cw_H_rowsAsking (ob_H0 K M o) np_H_rowsAsking (Nat.le_of_ble_eq_true rfl) (Nat.le_of_ble_eq_true rfl) (fun post2 kq => c_H0_rowsAsking (x := x) (y := nI c) (j := j) erc hn (by omega) (fun v9 g9 => kq _ _ ⟨v9, rfl, rfl, g9⟩)) (fun a9 A9 h9 => by obtain ⟨v9, -, rfl, -⟩ := h9; rfl) (fun a9 A9 h9 => ?_)
                    obtain ⟨v2, rfl, rfl, g_v2⟩ := h9
                    refine G_ior d_H_escapes_176 ?_
                    refine G_lload 4 d_H_escapes_177 rfl ?_
                    refine G_iload 7 d_H_escapes_179 rfl ?_
                    refine G_iconst (v := nI 1) d_H_escapes_181 (by decide) ?_
                    refine G_iadd d_H_escapes_182 ?_
                    rw [nI_add]
                    refine G_cvB (SE R s0 n P x (updT u (xP (vw0 K np pi) j) (lab c))) (As := [.int (v0 ||| v2), .long (y ||| 1 <<< ((nI j).toInt64 &&& 63)), .int (nI (dd + 1))]) d_H_escapes_183 cv_H_96 cw_H_escapes (ob_H0 K M o) np_H_escapes (Nat.le_of_ble_eq_true rfl) (Nat.le_of_ble_eq_true rfl) (fun post2 k1 k0 => hrec (lab c) (v0 ||| v2) (Or.inr ⟨c, rfl, hc2⟩) (fun i => by rw [iB_or, Bool.or_eq_true, g_v0 i, g_v2 i]; exact ⟨fun q => q.elim (fun q => ⟨q.1, q.2.1, fun q2 => absurd q2 q.2.2⟩) (fun q => ⟨q.1, q.2.1, fun _ => xlb_c (X := (vw0 K np pi)) hS0 (by omega) q.2.2.2⟩), fun q => (Classical.em (lB (K.2.2 15 i) j = true)).elim (fun q2 => Or.inr ⟨q.1, q.2.1, q2, by obtain ⟨c2, y1, y2, y3⟩ := row_val hX q.1 q2 hS0; rw [y3] at q; rw [← lab_inj (q.2.2 q2)]; exact y2⟩) (fun q2 => Or.inl ⟨q.1, q.2.1, q2⟩)⟩) post2 k1 k0) (fun u183 => ?_) (fun u183 => ?_)
                    · refine G_ifeq 191 d_H_escapes_186 (by decide) (fun h => absurd h (by decide)) (fun _ => ?_)
                      refine G_iconst (v := 1) d_H_escapes_189 (by decide) ?_
                      exact G_zret d_H_escapes_190 rfl rfl (k1 (Sat_up hnone u183))
                    · refine G_ifeq 191 d_H_escapes_186 (by decide) (fun _ => ?_) (fun h => absurd h (by decide))
                      refine G_iinc 1 (v := nI (c + 1)) (ls' := [(12, .int (nI (c + 1))), (13, .int 1), (11, .int (K.2.1 2 sj &&& K.1 3)), (10, .int v0), (8, .long (y ||| 1 <<< ((nI j).toInt64 &&& 63))), (7, .int (nI j)), (5, .long z), (4, .int (nI dd)), (0, .ref 14), (1, .int x), (2, .long y)]) d_H_escapes_191 rfl (nI_1 _) (by decide) rfl ?_
                      refine G_goto 135 d_H_escapes_194 (by decide) ?_
                      exact G_sub [0, 2, 3, 4, 5, 6, 7, 8, 9, 10] rfl (ihm (c + 1) (by omega) (by omega) (fun c2 y1 y2 => (Nat.lt_succ_iff_lt_or_eq.mp y1).elim (fun q => h3 c2 q y2) (fun e => by rw [e]; exact u183)))
            refine G_iconst (v := nI 0) d_H_escapes_132 (by decide) ?_
            refine G_istore (ls' := [(12, .int (nI 0)), (11, .int (K.2.1 2 sj &&& K.1 3)), (10, .int v0), (8, .long (y ||| (1 <<< ((nI j).toInt64 &&& 63)))), (7, .int (nI j)), (5, .long z), (0, .ref 14), (1, .int x), (2, .long y), (4, .int (nI dd))]) d_H_escapes_133 (by decide) rfl ?_
            exact G_sub [0, 1, 2, 3, 4, 5, 9, 6, 7, 8] rfl (hloop 31 0 (by omega) (by omega) (fun c q => absurd q (Nat.not_lt_zero c)))
          · obtain ⟨c0, c1, c2⟩ := iB_ne0 h116
            rw [iB_an, Bool.and_eq_true] at c2
            have hc0 := (hch c0).mp c2.1
            have hfr : ∀ i, iB x i = true → lB (K.2.2 15 i) j = true → xlb (vw0 K np pi) i j = lab c0 → False := fun i q1 q2 q3 => by
              obtain ⟨c3, y1, y2, y3⟩ := row_val hX (hE.2.1 i q1) q2 hS1
              rw [y3] at q3
              have q4 := lab_inj q3
              subst q4
              have q5 := (g_v1 c3 (by omega)).mpr ⟨i, hE.2.1 i q1, q1, q2, y2⟩
              rw [q5] at c2; exact absurd c2.2 (by decide)
            refine G_aload_n 5 d_H_escapes_119 rfl ?_
            refine G_iload 1 d_H_escapes_120 rfl ?_
            refine G_lload 2 d_H_escapes_122 rfl ?_
            refine G_iload 8 d_H_escapes_124 rfl ?_
            refine G_iconst (v := nI 1) d_H_escapes_126 (by decide) ?_
            refine G_iadd d_H_escapes_127 ?_
            rw [nI_add]
            refine G_cvB (SE R s0 n P x (updT u (xP (vw0 K np pi) j) (lab c0))) (As := [.int v0, .long (y ||| (1 <<< ((nI j).toInt64 &&& 63))), .int (nI (dd + 1))]) d_H_escapes_128 cv_H_96 cw_H_escapes (ob_H0 K M o) np_H_escapes (Nat.le_of_ble_eq_true rfl) (Nat.le_of_ble_eq_true rfl) (fun post2 k1 k0 => hrec (lab c0) (v0) (Or.inr ⟨c0, rfl, hc0⟩) (fun i => (g_v0 i).trans ⟨fun q => ⟨q.1, q.2.1, fun q2 => absurd q2 q.2.2⟩, fun q => ⟨q.1, q.2.1, fun q2 => hfr i q.2.1 q2 (q.2.2 q2)⟩⟩) post2 k1 k0) (fun u128 => ?_) (fun u128 => ?_)
            · exact G_zret d_H_escapes_131 rfl rfl (k1 (Sat_up hnone u128))
            · exact G_zret d_H_escapes_131 rfl rfl (k0 (fun q => u128 (SE_fwd hX hE hTH hnone hs2 (Or.inr ⟨c0, rfl, hc0⟩) (fun i q1 q2 q3 => hfr i q1 q2 q3) q)))
        · have e0 : sj = 0 := (nI_eq (b := 0) (by omega) (by omega)).mp h72
          refine G_aload_n 4 d_H_escapes_75 rfl ?_
          refine G_iload 0 d_H_escapes_76 rfl ?_
          refine G_lload 1 d_H_escapes_78 rfl ?_
          refine G_iload 7 d_H_escapes_80 rfl ?_
          refine G_iconst (v := nI 1) d_H_escapes_82 (by decide) ?_
          refine G_iadd d_H_escapes_83 ?_
          rw [nI_add]
          refine G_cvB (SE R s0 n P x (updT u (xP (vw0 K np pi) j) BIG)) (As := [.int v0, .long (y ||| (1 <<< ((nI j).toInt64 &&& 63))), .int (nI (dd + 1))]) d_H_escapes_84 cv_H_96 cw_H_escapes (ob_H0 K M o) np_H_escapes (Nat.le_of_ble_eq_true rfl) (Nat.le_of_ble_eq_true rfl) (fun post2 k1 k0 => hrec BIG (v0) (by rw [e0]; exact BIG_ok) (fun i => (g_v0 i).trans ⟨fun q => ⟨q.1, q.2.1, fun q2 => absurd q2 q.2.2⟩, fun q => ⟨q.1, q.2.1, fun q2 => (fun i q1 q2 q3 => BIG_ne (X := (vw0 K np pi)) (by rw [← e0]; exact hs1) q3) i q.2.1 q2 (q.2.2 q2)⟩⟩) post2 k1 k0) (fun u84 => ?_) (fun u84 => ?_)
          · exact G_zret d_H_escapes_87 rfl rfl (k1 (Sat_up hnone u84))
          · exact G_zret d_H_escapes_87 rfl rfl (k0 (fun q => u84 (SE_fwd hX hE hTH hnone hs2 (by rw [e0]; exact BIG_ok) (fun i q1 q2 => BIG_ne (X := (vw0 K np pi)) (by rw [← e0]; exact hs1)) q)))
    · refine G_iconst (v := 1) d_H_escapes_4 (by decide) ?_
      exact G_zret d_H_escapes_5 rfl rfl (k1 (SE_0 hE.1 h1))
set_option maxHeartbeats 1000000 in
set_option maxRecDepth 100000 in
theorem c_H1_escapes {K : KC} {M : MC} {o : Nat → Int64} {nc ns : Nat} {R : MC} {d s0 n np : Nat} {P : Nat → Nat} {pi : Nat → List Nat} (hX : SXK R s0 n P (vw1 K np pi)) (erc : K.1 21 = nI n) (hn : n ≤ 2) (hnp2 : np ≤ 24) (hO : rO K R) (hL : rL K R) (hl : LV R s0) : ∀ (w : Nat) (x : Int32) (y : Int64) (u : Tr) (dd : Nat), rcnt (fun k => ¬ lB y k = true) np < w → dd + w ≤ 41 → ES n R s0 (vw1 K np pi) x y u → ∀ post : mj_O → mj_H → Prop, (SE R s0 n P x u → post (.inl (some (.int 1))) (hp K M o, nc, ns)) → (¬ SE R s0 n P x u → post (.inl (some (.int 0))) (hp K M o, nc, ns)) → mj_G y_H_escapes b_H_escapes 14 (some .boolean) [] (d + w + 2) none 0 [(0, .ref 29), (1, .int x), (2, .long y), (4, .int (nI dd))] [] (hp K M o, nc, ns) post := by
  intro w
  induction w with
  | zero => intro x y u dd h; omega
  | succ w ih =>
    intro x y u dd hmu hdd hE post k1 k0
    refine G_iload_n 1 d_H_escapes_0 rfl ?_
    refine G_ifne 6 d_H_escapes_1 (by decide) (fun h1 => ?_) (fun h1 => ?_)
    · refine G_aload_n 0 d_H_escapes_6 rfl ?_
      refine G_gt d_H_escapes_7 fr_H_19 (rd_H1_asked K M o) ?_
      refine G_aload_n 0 d_H_escapes_10 rfl ?_
      refine G_iload_n 1 d_H_escapes_11 rfl ?_
      refine G_lload_n 2 d_H_escapes_12 rfl ?_
      refine G_cvp (fun a9 A9 => ∃ r : Nat, a9 = some (.int (nI r)) ∧ A9 = (hp K M o, nc, ns) ∧ (r < n ∧ iB x r = true)) (As := [.int x, .long y]) d_H_escapes_13 cv_H_116 cw_H_rowWithLeastLeft (ob_H1 K M o) np_H_rowWithLeastLeft (Nat.le_of_ble_eq_true rfl) (Nat.le_of_ble_eq_true rfl) (fun post2 kq => c_H1_least (x := x) (y := y) erc hn (fun i hi q qb => Nat.lt_of_lt_of_le (row_lt hX hi qb) hX.2.2.2.2) (by obtain ⟨q, q1, q2⟩ := iB_ne0 h1; exact ⟨q, hE.2.1 q q2, q2⟩) (fun v9 g9 g8 => kq _ _ ⟨v9, rfl, rfl, g9, g8⟩)) (fun a9 A9 h9 => by obtain ⟨v9, -, rfl, -⟩ := h9; rfl) (fun a9 A9 h9 => ?_)
      obtain ⟨r, rfl, rfl, g_r⟩ := h9
      refine G_lalN d_H_escapes_16 (ar_30 K M o) (by decide) (by omega) ?_
      refine G_lload_n 2 d_H_escapes_17 rfl ?_
      refine G_ldc2 (v := (-1)) d_H_escapes_18 (tin_1 (List.mem_of_getElem? (i := 182) rfl) rfl) ?_
      refine G_lxor d_H_escapes_21 ?_
      refine G_land d_H_escapes_22 ?_
      obtain ⟨z, hz⟩ : ∃ z, z = (K.2.2 30 r) &&& (y ^^^ (-1)) := ⟨_, rfl⟩
      rw [← hz]
      refine G_lstore (ls' := [(5, .long z), (0, .ref 29), (1, .int x), (2, .long y), (4, .int (nI dd))]) d_H_escapes_23 (by decide) rfl ?_
      refine G_lload 0 d_H_escapes_25 rfl ?_
      refine G_lconst (v := 0) d_H_escapes_27 (by decide) ?_
      refine G_lcmp d_H_escapes_28 ?_
      refine G_ifeq 39 d_H_escapes_29 (by decide) (fun h29 => ?_) (fun h29 => ?_)
      · refine G_iconst (v := 0) d_H_escapes_39 (by decide) ?_
        exact G_zret d_H_escapes_40 rfl rfl (k0 (SE_full hX hE g_r.2 (fun i qi => Classical.byContradiction fun q => by have q2 := lB_an (K.2.2 30 r) y i; rw [← hz, lcmp_0.mp h29, lB_0, show lB (K.2.2 30 r) i = true from qi, nb q] at q2; cases q2)))
      · have hz0 : ¬ z = 0 := fun q => h29 (lcmp_0.mpr q)
        obtain ⟨j, j64, jb, jl⟩ := low_ex hz0
        have hzb : ∀ i, lB z i = (lB (K.2.2 30 r) i && !lB y i) := fun i => by rw [hz]; exact lB_an _ _ _
        have hj1 : lB (K.2.2 30 r) j = true := by
          have q := hzb j
          rw [jb] at q
          exact (Bool.and_eq_true_iff.mp q.symm).1
        have hj2 : ¬ lB y j = true := by
          have q := hzb j
          rw [jb] at q
          have q2 := (Bool.and_eq_true_iff.mp q.symm).2
          intro q3
          rw [q3] at q2; cases q2
        have hlow : ∀ i, i < j → lB (K.2.2 30 r) i = true → lB y i = true := fun i hi q => by
          have q2 := hzb i
          rw [jl i hi, q] at q2
          cases q3 : lB y i with
          | true => rfl
          | false => rw [q3] at q2; cases q2
        have hTH : TH (vw1 K np pi) u y j := ES_low hX hE g_r.2 hj1 hlow
        have hnone : u (xP (vw1 K np pi) j) = none := ES_none hX hE g_r.2 hj1 hj2
        obtain ⟨sj, hs1, hs2, hs3⟩ := TH_srt hX hE.1 hl hTH
        have hs1 : K.2.1 34 j = nI sj := hs1
        have hjn : j < np := hTH.1
        have hsj : sj < mS R := (LV_step hs3).1
        have q12 : mS R ≤ 12 := hX.1.2.2
        have q30 : mC R ≤ 30 := hX.2.1.2.1
        have hyb : ∀ k, lB (y ||| 1 <<< ((nI j).toInt64 &&& 63)) k = true ↔ lB y k = true ∨ k = j := fun k => by
          rw [lB_or, Bool.or_eq_true, lB_one j64, decide_eq_true_eq]
          exact or_congr Iff.rfl eq_comm
        have hm1 := mu_one hjn hj2
        have hm2 := mu_two hjn hj2 hyb
        have hrec : ∀ (a : Int) (v : Int32), okA R sj a → (∀ i, iB v i = true ↔ i < n ∧ iB x i = true ∧ (lB (xA (vw1 K np pi) i) j = true → xlb (vw1 K np pi) i j = a)) → ∀ post2 : mj_O → mj_H → Prop, (SE R s0 n P x (updT u (xP (vw1 K np pi) j) a) → post2 (.inl (some (.int 1))) (hp K M o, nc, ns)) → (¬ SE R s0 n P x (updT u (xP (vw1 K np pi) j) a) → post2 (.inl (some (.int 0))) (hp K M o, nc, ns)) → mj_G y_H_escapes b_H_escapes 14 (some .boolean) [] (d + w + 2) none 0 [(0, .ref 29), (1, .int v), (2, .long (y ||| 1 <<< ((nI j).toInt64 &&& 63))), (4, .int (nI (dd + 1)))] [] (hp K M o, nc, ns) post2 := fun a v ha hv post2 k1 k0 =>
          ih v (y ||| 1 <<< ((nI j).toInt64 &&& 63)) (updT u (xP (vw1 K np pi) j) a) (dd + 1) (by omega) (by omega) (ES_step hX hE hTH hnone hs2 ha (fun i hi => ((hv i).mp hi).2) hyb) post2 (fun q => k1 ((SE_eq hX hv).mp q)) (fun q => k0 (fun q2 => q ((SE_eq hX hv).mpr q2)))
        refine G_iload 4 d_H_escapes_32 rfl ?_
        refine G_bipush (v := nI 40) d_H_escapes_34 (by decide) ?_
        refine G_iclt 41 d_H_escapes_36 (by decide) (fun h36 => ?_) (fun h36 => False.elim (h36 ((nI_ltI (by omega) (by omega)).mpr (by omega))))
        refine G_lload 0 d_H_escapes_41 rfl ?_
        refine G_cs1 (some (.int (nI j))) (hp K M o, nc, ns) (As := [.long z]) d_H_escapes_43 cs_H_122 cw_JL_numberOfTrailingZeros np_JL_numberOfTrailingZeros (Nat.le_of_ble_eq_true rfl) (Nat.le_of_ble_eq_true rfl) (fun post2 k2 => c_JL_ntz j64 jb jl k2) rfl ?_
        refine G_istore (ls' := [(7, .int (nI j)), (5, .long z), (0, .ref 29), (1, .int x), (2, .long y), (4, .int (nI dd))]) d_H_escapes_46 (by decide) rfl ?_
        refine G_lload_n 4 d_H_escapes_48 rfl ?_
        refine G_lconst (v := 1) d_H_escapes_49 (by decide) ?_
        refine G_iload 0 d_H_escapes_50 rfl ?_
        refine G_lshl d_H_escapes_52 ?_
        refine G_lor d_H_escapes_53 ?_
        refine G_lstore (ls' := [(8, .long (y ||| (1 <<< ((nI j).toInt64 &&& 63)))), (7, .int (nI j)), (5, .long z), (0, .ref 29), (1, .int x), (2, .long y), (4, .int (nI dd))]) d_H_escapes_54 (by decide) rfl ?_
        refine G_aload_n 3 d_H_escapes_56 rfl ?_
        refine G_iload_n 4 d_H_escapes_57 rfl ?_
        refine G_iload 1 d_H_escapes_58 rfl ?_
        refine G_cvp (fun a9 A9 => ∃ v0 : Int32, a9 = some (.int v0) ∧ A9 = (hp K M o, nc, ns) ∧ (∀ i, iB v0 i = true ↔ i < n ∧ (iB x i = true ∧ ¬ lB (K.2.2 30 i) j = true))) (As := [.int x, .int (nI j)]) d_H_escapes_60 cv_H_128 cw_H_rowsSilentAt (ob_H1 K M o) np_H_rowsSilentAt (Nat.le_of_ble_eq_true rfl) (Nat.le_of_ble_eq_true rfl) (fun post2 kq => c_H1_rowsSilentAt (x := x) (j := j) erc hn (by omega) (by omega) (fun v9 g9 => kq _ _ ⟨v9, rfl, rfl, g9⟩)) (fun a9 A9 h9 => by obtain ⟨v9, -, rfl, -⟩ := h9; rfl) (fun a9 A9 h9 => ?_)
        obtain ⟨v0, rfl, rfl, g_v0⟩ := h9
        refine G_istore (ls' := [(10, .int v0), (8, .long (y ||| (1 <<< ((nI j).toInt64 &&& 63)))), (7, .int (nI j)), (5, .long z), (0, .ref 29), (1, .int x), (2, .long y), (4, .int (nI dd))]) d_H_escapes_63 (by decide) rfl ?_
        refine G_aload_n 4 d_H_escapes_65 rfl ?_
        refine G_gt d_H_escapes_66 fr_H_28 (rd_H1_placeSort K M o) ?_
        refine G_iload 2 d_H_escapes_69 rfl ?_
        refine G_ialN d_H_escapes_71 (ar_34 K M o) (by decide) (by omega) ?_
        rw [hs1]
        refine G_ifne 88 d_H_escapes_72 (by decide) (fun h72 => ?_) (fun h72 => ?_)
        · have hs0 : sj ≠ 0 := fun q => h72 (by rw [q]; rfl)
          have hS1 : ¬ xS (vw1 K np pi) j = nI 0 := fun q => hs0 ((nI_eq (by omega) (by omega)).mp (hs1.symm.trans q))
          have hch : ∀ c, iB (K.2.1 2 sj &&& K.1 3) c = true ↔ c < mC R ∧ cS R c = sj ∧ usdV R c := fun c => by
            rw [iB_and, Bool.and_eq_true, hO sj (by omega) c, hL.2 c]
            exact ⟨fun q => ⟨q.1.1, q.1.2, q.2.2⟩, fun q => ⟨⟨q.1, q.2.1⟩, q.1, q.2.2⟩⟩
          refine G_aload_n 4 d_H_escapes_88 rfl ?_
          refine G_gt d_H_escapes_89 fr_H_9 (rd_H1_sorts K M o) ?_
          refine G_aload_n 4 d_H_escapes_92 rfl ?_
          refine G_gt d_H_escapes_93 fr_H_28 (rd_H1_placeSort K M o) ?_
          refine G_iload 2 d_H_escapes_96 rfl ?_
          refine G_ialN d_H_escapes_98 (ar_34 K M o) (by decide) (by omega) ?_
          rw [hs1]
          refine G_cv1 (some (.int (K.2.1 2 sj &&& K.1 3))) (hp K M o, nc, ns) (As := [.int (nI sj)]) d_H_escapes_99 cv_H_131 cw_S_livingConsOf (ob_S K M o) np_S_livingConsOf (Nat.le_of_ble_eq_true rfl) (Nat.le_of_ble_eq_true rfl) (fun post2 k2 => c_S_livingConsOf (s := sj) (by omega) k2) rfl ?_
          refine G_istore (ls' := [(11, .int (K.2.1 2 sj &&& K.1 3)), (10, .int v0), (8, .long (y ||| (1 <<< ((nI j).toInt64 &&& 63)))), (7, .int (nI j)), (5, .long z), (0, .ref 29), (1, .int x), (2, .long y), (4, .int (nI dd))]) d_H_escapes_102 (by decide) rfl ?_
          refine G_iload 0 d_H_escapes_104 rfl ?_
          refine G_aload_n 5 d_H_escapes_106 rfl ?_
          refine G_iload_n 6 d_H_escapes_107 rfl ?_
          refine G_iload 3 d_H_escapes_108 rfl ?_
          refine G_cvp (fun a9 A9 => ∃ v1 : Int32, a9 = some (.int v1) ∧ A9 = (hp K M o, nc, ns) ∧ (∀ c, c < 32 → (iB v1 c = true ↔ ∃ r, r < n ∧ iB x r = true ∧ lB (K.2.2 30 r) j = true ∧ K.2.1 (32 + r) j = nI c))) (As := [.int x, .int (nI j)]) d_H_escapes_110 cv_H_134 cw_H_consAskedAt (ob_H1 K M o) np_H_consAskedAt (Nat.le_of_ble_eq_true rfl) (Nat.le_of_ble_eq_true rfl) (fun post2 kq => c_H1_consAskedAt (x := x) (j := j) erc hn (by omega) (by omega) (fun r q1 q2 q3 => by obtain ⟨c, y1, y2, -⟩ := row_val hX q1 q3 hS1; exact ⟨c, by omega, y2⟩) (fun v9 g9 => kq _ _ ⟨v9, rfl, rfl, g9⟩)) (fun a9 A9 h9 => by obtain ⟨v9, -, rfl, -⟩ := h9; rfl) (fun a9 A9 h9 => ?_)
          obtain ⟨v1, rfl, rfl, g_v1⟩ := h9
          refine G_iconst (v := (-1)) d_H_escapes_113 (by decide) ?_
          refine G_ixor d_H_escapes_114 ?_
          refine G_iand d_H_escapes_115 ?_
          refine G_ifeq 132 d_H_escapes_116 (by decide) (fun h116 => ?_) (fun h116 => ?_)
          · have hS0 : ¬ xS (vw1 K np pi) j = nI 0 := fun q => hs0 ((nI_eq (by omega) (by omega)).mp (hs1.symm.trans q))
            have hloop : ∀ m c, c ≤ 30 → 30 < c + m → (∀ c2, c2 < c → iB (K.2.1 2 sj &&& K.1 3) c2 = true → ¬ SE R s0 n P x (updT u (xP (vw1 K np pi) j) (lab c2))) → mj_G y_H_escapes b_H_escapes 14 (some .boolean) [] (d + (w + 1) + 2) none 135 [(12, .int (nI c)), (11, .int (K.2.1 2 sj &&& K.1 3)), (10, .int v0), (8, .long (y ||| 1 <<< ((nI j).toInt64 &&& 63))), (7, .int (nI j)), (5, .long z), (4, .int (nI dd)), (0, .ref 29), (1, .int x), (2, .long y)] [] (hp K M o, nc, ns) post := by
              intro m
              induction m with
              | zero => intro c h1 h2; omega
              | succ m ihm =>
                intro c h1 h2 h3
                refine G_iload 0 d_H_escapes_135 rfl ?_
                refine G_bipush (v := nI 30) d_H_escapes_137 (by decide) ?_
                refine G_icge 197 d_H_escapes_139 (by decide) (fun h139 => ?_) (fun h139 => ?_)
                · have h139 := (nI_leI (by omega) (by omega)).mp h139
                  refine G_iconst (v := 0) d_H_escapes_197 (by decide) ?_
                  exact G_zret d_H_escapes_198 rfl rfl (k0 (fun q => by obtain ⟨c2, y1, y2, y3, y4⟩ := SE_fwdC hX hE hs2 hs3 hs0 q; exact h3 c2 (by omega) ((hch c2).mpr ⟨y1, y2, y3⟩) y4))
                · have h139 : ¬ _ := fun z => h139 ((nI_leI (by omega) (by omega)).mpr z)
                  refine G_iload 1 d_H_escapes_142 rfl ?_
                  refine G_iload 0 d_H_escapes_144 rfl ?_
                  refine G_ishr d_H_escapes_146 ?_
                  refine G_iconst (v := 1) d_H_escapes_147 (by decide) ?_
                  refine G_iand d_H_escapes_148 ?_
                  refine G_ifeq 156 d_H_escapes_149 (by decide) (fun h149 => ?_) (fun h149 => ?_)
                  · refine G_iconst (v := 0) d_H_escapes_156 (by decide) ?_
                    refine G_istore (ls' := [(13, .int 0), (12, .int (nI c)), (11, .int (K.2.1 2 sj &&& K.1 3)), (10, .int v0), (8, .long (y ||| 1 <<< ((nI j).toInt64 &&& 63))), (7, .int (nI j)), (5, .long z), (4, .int (nI dd)), (0, .ref 29), (1, .int x), (2, .long y)]) d_H_escapes_157 (by decide) rfl ?_
                    refine G_iload 0 d_H_escapes_159 rfl ?_
                    refine G_ifeq 191 d_H_escapes_161 (by decide) (fun _ => ?_) (fun h => absurd h (by decide))
                    refine G_iinc 1 (v := nI (c + 1)) (ls' := [(12, .int (nI (c + 1))), (13, .int 0), (11, .int (K.2.1 2 sj &&& K.1 3)), (10, .int v0), (8, .long (y ||| 1 <<< ((nI j).toInt64 &&& 63))), (7, .int (nI j)), (5, .long z), (4, .int (nI dd)), (0, .ref 29), (1, .int x), (2, .long y)]) d_H_escapes_191 rfl (nI_1 _) (by decide) rfl ?_
                    refine G_goto 135 d_H_escapes_194 (by decide) ?_
                    exact G_sub [0, 2, 3, 4, 5, 6, 7, 8, 9, 10] rfl (ihm (c + 1) (by omega) (by omega) (fun c2 y1 y2 => (Nat.lt_succ_iff_lt_or_eq.mp y1).elim (fun q => h3 c2 q y2) (fun e => by rw [e, (iB_test (by omega)).mp h149] at y2; cases y2)))
                  · have hcb : iB (K.2.1 2 sj &&& K.1 3) c = true := Classical.byContradiction fun q => h149 ((iB_test (by omega)).mpr (nb q))
                    have hc2 := (hch c).mp hcb
                    refine G_iconst (v := 1) d_H_escapes_152 (by decide) ?_
                    refine G_goto 157 d_H_escapes_153 (by decide) ?_
                    refine G_istore (ls' := [(13, .int 1), (12, .int (nI c)), (11, .int (K.2.1 2 sj &&& K.1 3)), (10, .int v0), (8, .long (y ||| 1 <<< ((nI j).toInt64 &&& 63))), (7, .int (nI j)), (5, .long z), (4, .int (nI dd)), (0, .ref 29), (1, .int x), (2, .long y)]) d_H_escapes_157 (by decide) rfl ?_
                    refine G_iload 0 d_H_escapes_159 rfl ?_
                    refine G_ifeq 191 d_H_escapes_161 (by decide) (fun h => absurd h (by decide)) (fun _ => ?_)
                    refine G_aload_n 8 d_H_escapes_164 rfl ?_
                    refine G_iload 3 d_H_escapes_165 rfl ?_
                    refine G_aload_n 8 d_H_escapes_167 rfl ?_
                    refine G_iload_n 9 d_H_escapes_168 rfl ?_
                    refine G_iload 5 d_H_escapes_169 rfl ?_
                    refine G_iload 1 d_H_escapes_171 rfl ?_
                    refine G_cvp (fun a9 A9 => ∃ v2 : Int32, a9 = some (.int v2) ∧ A9 = (hp K M o, nc, ns) ∧ (∀ i, iB v2 i = true ↔ i < n ∧ (iB x i = true ∧ lB (K.2.2 30 i) j = true ∧ K.2.1 (32 + i) j = nI c))) (As := [.int x, .int (nI j), .int (nI c)]) d_H_escapes_173 cv_H_137 cw_H_rowsAsking (ob_H1 K M o) np_H_rowsAsking (Nat.le_of_ble_eq_true rfl) (Nat.le_of_ble_eq_true rfl) (fun post2 kq => c_H1_rowsAsking (x := x) (y := nI c) (j := j) erc hn (by omega) (by omega) (fun v9 g9 => kq _ _ ⟨v9, rfl, rfl, g9⟩)) (fun a9 A9 h9 => by obtain ⟨v9, -, rfl, -⟩ := h9; rfl) (fun a9 A9 h9 => ?_)
                    obtain ⟨v2, rfl, rfl, g_v2⟩ := h9
                    refine G_ior d_H_escapes_176 ?_
                    refine G_lload 4 d_H_escapes_177 rfl ?_
                    refine G_iload 7 d_H_escapes_179 rfl ?_
                    refine G_iconst (v := nI 1) d_H_escapes_181 (by decide) ?_
                    refine G_iadd d_H_escapes_182 ?_
                    rw [nI_add]
                    refine G_cvB (SE R s0 n P x (updT u (xP (vw1 K np pi) j) (lab c))) (As := [.int (v0 ||| v2), .long (y ||| 1 <<< ((nI j).toInt64 &&& 63)), .int (nI (dd + 1))]) d_H_escapes_183 cv_H_96 cw_H_escapes (ob_H1 K M o) np_H_escapes (Nat.le_of_ble_eq_true rfl) (Nat.le_of_ble_eq_true rfl) (fun post2 k1 k0 => hrec (lab c) (v0 ||| v2) (Or.inr ⟨c, rfl, hc2⟩) (fun i => by rw [iB_or, Bool.or_eq_true, g_v0 i, g_v2 i]; exact ⟨fun q => q.elim (fun q => ⟨q.1, q.2.1, fun q2 => absurd q2 q.2.2⟩) (fun q => ⟨q.1, q.2.1, fun _ => xlb_c (X := (vw1 K np pi)) hS0 (by omega) q.2.2.2⟩), fun q => (Classical.em (lB (K.2.2 30 i) j = true)).elim (fun q2 => Or.inr ⟨q.1, q.2.1, q2, by obtain ⟨c2, y1, y2, y3⟩ := row_val hX q.1 q2 hS0; rw [y3] at q; rw [← lab_inj (q.2.2 q2)]; exact y2⟩) (fun q2 => Or.inl ⟨q.1, q.2.1, q2⟩)⟩) post2 k1 k0) (fun u183 => ?_) (fun u183 => ?_)
                    · refine G_ifeq 191 d_H_escapes_186 (by decide) (fun h => absurd h (by decide)) (fun _ => ?_)
                      refine G_iconst (v := 1) d_H_escapes_189 (by decide) ?_
                      exact G_zret d_H_escapes_190 rfl rfl (k1 (Sat_up hnone u183))
                    · refine G_ifeq 191 d_H_escapes_186 (by decide) (fun _ => ?_) (fun h => absurd h (by decide))
                      refine G_iinc 1 (v := nI (c + 1)) (ls' := [(12, .int (nI (c + 1))), (13, .int 1), (11, .int (K.2.1 2 sj &&& K.1 3)), (10, .int v0), (8, .long (y ||| 1 <<< ((nI j).toInt64 &&& 63))), (7, .int (nI j)), (5, .long z), (4, .int (nI dd)), (0, .ref 29), (1, .int x), (2, .long y)]) d_H_escapes_191 rfl (nI_1 _) (by decide) rfl ?_
                      refine G_goto 135 d_H_escapes_194 (by decide) ?_
                      exact G_sub [0, 2, 3, 4, 5, 6, 7, 8, 9, 10] rfl (ihm (c + 1) (by omega) (by omega) (fun c2 y1 y2 => (Nat.lt_succ_iff_lt_or_eq.mp y1).elim (fun q => h3 c2 q y2) (fun e => by rw [e]; exact u183)))
            refine G_iconst (v := nI 0) d_H_escapes_132 (by decide) ?_
            refine G_istore (ls' := [(12, .int (nI 0)), (11, .int (K.2.1 2 sj &&& K.1 3)), (10, .int v0), (8, .long (y ||| (1 <<< ((nI j).toInt64 &&& 63)))), (7, .int (nI j)), (5, .long z), (0, .ref 29), (1, .int x), (2, .long y), (4, .int (nI dd))]) d_H_escapes_133 (by decide) rfl ?_
            exact G_sub [0, 1, 2, 3, 4, 5, 9, 6, 7, 8] rfl (hloop 31 0 (by omega) (by omega) (fun c q => absurd q (Nat.not_lt_zero c)))
          · obtain ⟨c0, c1, c2⟩ := iB_ne0 h116
            rw [iB_an, Bool.and_eq_true] at c2
            have hc0 := (hch c0).mp c2.1
            have hfr : ∀ i, iB x i = true → lB (K.2.2 30 i) j = true → xlb (vw1 K np pi) i j = lab c0 → False := fun i q1 q2 q3 => by
              obtain ⟨c3, y1, y2, y3⟩ := row_val hX (hE.2.1 i q1) q2 hS1
              rw [y3] at q3
              have q4 := lab_inj q3
              subst q4
              have q5 := (g_v1 c3 (by omega)).mpr ⟨i, hE.2.1 i q1, q1, q2, y2⟩
              rw [q5] at c2; exact absurd c2.2 (by decide)
            refine G_aload_n 5 d_H_escapes_119 rfl ?_
            refine G_iload 1 d_H_escapes_120 rfl ?_
            refine G_lload 2 d_H_escapes_122 rfl ?_
            refine G_iload 8 d_H_escapes_124 rfl ?_
            refine G_iconst (v := nI 1) d_H_escapes_126 (by decide) ?_
            refine G_iadd d_H_escapes_127 ?_
            rw [nI_add]
            refine G_cvB (SE R s0 n P x (updT u (xP (vw1 K np pi) j) (lab c0))) (As := [.int v0, .long (y ||| (1 <<< ((nI j).toInt64 &&& 63))), .int (nI (dd + 1))]) d_H_escapes_128 cv_H_96 cw_H_escapes (ob_H1 K M o) np_H_escapes (Nat.le_of_ble_eq_true rfl) (Nat.le_of_ble_eq_true rfl) (fun post2 k1 k0 => hrec (lab c0) (v0) (Or.inr ⟨c0, rfl, hc0⟩) (fun i => (g_v0 i).trans ⟨fun q => ⟨q.1, q.2.1, fun q2 => absurd q2 q.2.2⟩, fun q => ⟨q.1, q.2.1, fun q2 => hfr i q.2.1 q2 (q.2.2 q2)⟩⟩) post2 k1 k0) (fun u128 => ?_) (fun u128 => ?_)
            · exact G_zret d_H_escapes_131 rfl rfl (k1 (Sat_up hnone u128))
            · exact G_zret d_H_escapes_131 rfl rfl (k0 (fun q => u128 (SE_fwd hX hE hTH hnone hs2 (Or.inr ⟨c0, rfl, hc0⟩) (fun i q1 q2 q3 => hfr i q1 q2 q3) q)))
        · have e0 : sj = 0 := (nI_eq (b := 0) (by omega) (by omega)).mp h72
          refine G_aload_n 4 d_H_escapes_75 rfl ?_
          refine G_iload 0 d_H_escapes_76 rfl ?_
          refine G_lload 1 d_H_escapes_78 rfl ?_
          refine G_iload 7 d_H_escapes_80 rfl ?_
          refine G_iconst (v := nI 1) d_H_escapes_82 (by decide) ?_
          refine G_iadd d_H_escapes_83 ?_
          rw [nI_add]
          refine G_cvB (SE R s0 n P x (updT u (xP (vw1 K np pi) j) BIG)) (As := [.int v0, .long (y ||| (1 <<< ((nI j).toInt64 &&& 63))), .int (nI (dd + 1))]) d_H_escapes_84 cv_H_96 cw_H_escapes (ob_H1 K M o) np_H_escapes (Nat.le_of_ble_eq_true rfl) (Nat.le_of_ble_eq_true rfl) (fun post2 k1 k0 => hrec BIG (v0) (by rw [e0]; exact BIG_ok) (fun i => (g_v0 i).trans ⟨fun q => ⟨q.1, q.2.1, fun q2 => absurd q2 q.2.2⟩, fun q => ⟨q.1, q.2.1, fun q2 => (fun i q1 q2 q3 => BIG_ne (X := (vw1 K np pi)) (by rw [← e0]; exact hs1) q3) i q.2.1 q2 (q.2.2 q2)⟩⟩) post2 k1 k0) (fun u84 => ?_) (fun u84 => ?_)
          · exact G_zret d_H_escapes_87 rfl rfl (k1 (Sat_up hnone u84))
          · exact G_zret d_H_escapes_87 rfl rfl (k0 (fun q => u84 (SE_fwd hX hE hTH hnone hs2 (by rw [e0]; exact BIG_ok) (fun i q1 q2 => BIG_ne (X := (vw1 K np pi)) (by rw [← e0]; exact hs1)) q)))
    · refine G_iconst (v := 1) d_H_escapes_4 (by decide) ?_
      exact G_zret d_H_escapes_5 rfl rfl (k1 (SE_0 hE.1 h1))
